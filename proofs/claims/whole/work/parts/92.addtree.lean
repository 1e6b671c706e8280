/-! pure: the class adds a tree's counts -/
theorem sm_upd {f g : Nat → Int} {t : Nat} : ∀ n, t < n → (∀ d, d < n → d ≠ t → f d = g d) → sm f n = sm g n + (f t - g t) := by
  intro n
  induction n with
  | zero => intro h; omega
  | succ n ih =>
    intro h hd
    rw [sm_1, sm_1]
    by_cases e : t = n
    · subst e
      rw [sm_c t (fun d q => hd d (by omega) (by omega))]
      omega
    · rw [ih (by omega) (fun d q w => hd d (by omega) w), hd n (by omega) (by omega)]
      omega
theorem Mk_ne {y t t' : Nat} (V : Tb) (o : Bool) (i : Nat) (j k : Int) (l : Nat) (h : t' ≠ t) : Mk y (t + 1) V o (12 * t') i j k l = Mk y t V o (12 * t') i j k l := by
  unfold Mk
  by_cases q : (l : Int) - i - (k - j) < (y : Int) ∨ ((l : Int) - i - (k - j) = (y : Int) ∧ 12 * t' < 12 * t)
  · rw [if_pos q, if_pos (by omega)]
  · rw [if_neg q, if_neg (by omega)]
theorem Mk_ny {y t t' : Nat} (V : Tb) (o : Bool) (i : Nat) (j k : Int) (l r : Nat) (h : (l : Int) - i - (k - j) ≠ (y : Int)) : Mk y t' V o r i j k l = Mk y t V o r i j k l := by
  unfold Mk
  by_cases q : (l : Int) - i - (k - j) < (y : Int)
  · rw [if_pos (Or.inl q), if_pos (Or.inl q)]
  · rw [if_neg (fun z => z.elim q (fun w => h w.1)), if_neg (fun z => z.elim q (fun w => h w.1))]
theorem Mk_t {y t : Nat} (V : Tb) (o : Bool) (i : Nat) (j k : Int) (l : Nat) (h : (l : Int) - i - (k - j) = (y : Int)) : Mk y (t + 1) V o (12 * t) i j k l = V o (12 * t) i j k l ∧ Mk y t V o (12 * t) i j k l = 0 := by
  unfold Mk
  rw [if_pos (Or.inr ⟨h, by omega⟩), if_neg (by omega)]
  exact ⟨rfl, rfl⟩
theorem ini_add {c : Nat → Nat → Int} {N y t : Nat} {V : Tb} {nm : Int} {i l : Nat} (ht : t < N) : ini c N (Mk y (t + 1) V) nm i l = ini c N (Mk y t V) nm i l + (if (c (12 * t) 1 = nm ∧ c (12 * t) 6 = 0) ∧ (l : Int) - i = (y : Int) then V false (12 * t) i (-1) (-1) l else 0) := by
  unfold ini
  rw [sm_upd N ht (g := fun t' => if c (12 * t') 1 = nm ∧ c (12 * t') 6 = 0 then Mk y t V false (12 * t') i (-1) (-1) l else 0) (fun d _ hd => by show (if _ then _ else _) = (if _ then _ else _); rw [Mk_ne V false i (-1) (-1) l hd])]
  congr 1
  show (if c (12 * t) 1 = nm ∧ c (12 * t) 6 = 0 then Mk y (t + 1) V false (12 * t) i (-1) (-1) l else 0) - (if c (12 * t) 1 = nm ∧ c (12 * t) 6 = 0 then Mk y t V false (12 * t) i (-1) (-1) l else 0) = _
  by_cases q : c (12 * t) 1 = nm ∧ c (12 * t) 6 = 0
  · rw [if_pos q, if_pos q]
    by_cases w : (l : Int) - i = (y : Int)
    · have := Mk_t (y := y) (t := t) V false i (-1) (-1) l (by omega)
      rw [this.1, this.2, if_pos ⟨q, w⟩, Int.sub_zero]
    · rw [Mk_ny (t := t) V false i (-1) (-1) l _ (by omega), if_neg (fun z => w z.2), Int.sub_self]
  · rw [if_neg q, if_neg q, if_neg (fun z => q z.1), Int.sub_self]
theorem aux_add {c : Nat → Nat → Int} {N y t : Nat} {V : Tb} {nm : Int} {i p q l : Nat} (ht : t < N) : aux c N (Mk y (t + 1) V) nm i p q l = aux c N (Mk y t V) nm i p q l + (if (c (12 * t) 1 = nm ∧ c (12 * t) 6 = 1) ∧ (l : Int) - i - ((q : Int) - p) = (y : Int) then V false (12 * t) i (p : Int) (q : Int) l else 0) := by
  unfold aux
  rw [sm_upd N ht (g := fun t' => if c (12 * t') 1 = nm ∧ c (12 * t') 6 = 1 then Mk y t V false (12 * t') i (p : Int) (q : Int) l else 0) (fun d _ hd => by show (if _ then _ else _) = (if _ then _ else _); rw [Mk_ne V false i _ _ l hd])]
  congr 1
  show (if c (12 * t) 1 = nm ∧ c (12 * t) 6 = 1 then Mk y (t + 1) V false (12 * t) i (p : Int) (q : Int) l else 0) - (if c (12 * t) 1 = nm ∧ c (12 * t) 6 = 1 then Mk y t V false (12 * t) i (p : Int) (q : Int) l else 0) = _
  by_cases q' : c (12 * t) 1 = nm ∧ c (12 * t) 6 = 1
  · rw [if_pos q', if_pos q']
    by_cases w : (l : Int) - i - ((q : Int) - p) = (y : Int)
    · have := Mk_t (y := y) (t := t) V false i (p : Int) (q : Int) l w
      rw [this.1, this.2, if_pos ⟨q', w⟩, Int.sub_zero]
    · rw [Mk_ny (t := t) V false i _ _ l _ w, if_neg (fun z => w z.2), Int.sub_self]
  · rw [if_neg q', if_neg q', if_neg (fun z => q' z.1), Int.sub_self]
def DI (σ σ' : St) (nm : Int) (t y n i : Nat) : Prop := (∀ a, a ≠ 21 → σ' a = σ a) ∧ CB σ' ∧ ∀ (nm' : Int) (i' l' : Nat), 0 ≤ nm' → nm' < 16 → i' ≤ l' → l' ≤ n → cI σ' nm' i' l' = (if nm' = nm ∧ i' + y = l' ∧ i' < i then cap (cI σ nm' i' l' + cT σ false (12 * t) i' (-1) (-1) l') else cI σ nm' i' l')
def DA (σ σ' : St) (nm : Int) (t y n i l h : Nat) : Prop := (∀ a, a ≠ 22 → σ' a = σ a) ∧ CB σ' ∧ ∀ (nm' : Int) (i' p' q' l' : Nat), 0 ≤ nm' → nm' < 16 → i' ≤ p' → p' < q' → q' ≤ l' → l' ≤ n → cA σ' nm' i' p' q' l' = (if nm' = nm ∧ (l' : Int) - i' - ((q' : Int) - p') = (y : Int) ∧ Bf i' l' p' i l h then cap (cA σ nm' i' p' q' l' + cT σ false (12 * t) i' (p' : Int) (q' : Int) l') else cA σ nm' i' p' q' l')
theorem DI_step {σ σ' : St} {nm : Int} {t y n i : Nat} (hn : n ≤ 8) (hnm : 0 ≤ nm ∧ nm < 16) (hi : i + y ≤ n) (hB : CB σ) (h : DI σ σ' nm t y n i) : DI σ (su σ' 21 (45 * nm.toNat + atF i (-1) (-1) (i + y)) (cap (cI σ' nm i (i + y) + cT σ' false (12 * t) i (-1) (-1) (i + y)))) nm t y n (i + 1) := by
  have v0 : Vt 0 i (-1) (-1) (i + y) n := ⟨by omega, hi, Or.inl ⟨rfl, rfl, rfl⟩⟩
  have e1 : cI σ' nm i (i + y) = cI σ nm i (i + y) := by rw [h.2.2 nm i (i + y) hnm.1 hnm.2 (by omega) hi, if_neg (by omega)]
  have e2 : cT σ' false (12 * t) i (-1) (-1) (i + y) = cT σ false (12 * t) i (-1) (-1) (i + y) := by unfold cT; simp only [Bool.false_eq_true, if_false]; rw [h.1 19 (by decide)]
  have r1 : 0 ≤ cI σ nm i (i + y) := (hB _).2.2.1.1
  have r2 := (CB_T hB false (12 * t) i (-1) (-1) (i + y)).1
  refine ⟨fun a ha => by rw [su_o _ _ _ ha]; exact h.1 a ha, CB_su h.2.1 (by rw [e1, e2]; exact cap_r (by omega)), fun nm' i' l' a1 a2 a3 a4 => ?_⟩
  have v' : Vt 0 i' (-1) (-1) l' n := ⟨a3, a4, Or.inl ⟨rfl, rfl, rfl⟩⟩
  have b1 := (at_lt v0 hn).2 rfl
  have b2 := (at_lt v' hn).2 rfl
  by_cases e : nm' = nm ∧ i' = i ∧ l' = i + y
  · obtain ⟨q1, q2, q3⟩ := e
    subst q1 q2 q3
    rw [if_pos ⟨rfl, rfl, by omega⟩]
    show su σ' 21 _ _ 21 (45 * nm'.toNat + atF i' (-1) (-1) (i' + y)) = _
    rw [su_at, e1, e2]
  · have ne : ¬ (45 * nm'.toNat + atF i' (-1) (-1) l' = 45 * nm.toNat + atF i (-1) (-1) (i + y)) := by
      intro z
      have z1 : nm' = nm := by omega
      have z2 : atF i' (-1) (-1) l' = atF i (-1) (-1) (i + y) := by omega
      have := at_inj v' hn v0 hn z2
      exact e ⟨z1, this.1, this.2.2.2⟩
    have : cI (su σ' 21 (45 * nm.toNat + atF i (-1) (-1) (i + y)) (cap (cI σ' nm i (i + y) + cT σ' false (12 * t) i (-1) (-1) (i + y)))) nm' i' l' = cI σ' nm' i' l' := su_ko _ _ (fun z => ne z.2)
    rw [this, h.2.2 nm' i' l' a1 a2 a3 a4]
    by_cases q : nm' = nm ∧ i' + y = l' ∧ i' < i
    · rw [if_pos q, if_pos ⟨q.1, q.2.1, by omega⟩]
    · rw [if_neg q, if_neg (by omega)]
theorem DA_step {σ σ' : St} {nm : Int} {t y n i l h : Nat} (hn : n ≤ 8) (hnm : 0 ≤ nm ∧ nm < 16) (hi : i + y < l) (hl : l ≤ n) (h1 : i ≤ h) (h2 : h ≤ i + y) (hB : CB σ) (hD : DA σ σ' nm t y n i l h) : DA σ (su σ' 22 (330 * nm.toNat + atF i (h : Int) ((h + l - i - y : Nat) : Int) l) (cap (cA σ' nm i h (h + l - i - y) l + cT σ' false (12 * t) i (h : Int) ((h + l - i - y : Nat) : Int) l))) nm t y n i l (h + 1) := by
  have v0 : Vt 1 i (h : Int) ((h + l - i - y : Nat) : Int) l n := ⟨by omega, hl, Or.inr ⟨rfl, by omega, by omega, by omega⟩⟩
  have e1 : cA σ' nm i h (h + l - i - y) l = cA σ nm i h (h + l - i - y) l := by rw [hD.2.2 nm i h (h + l - i - y) l hnm.1 hnm.2 h1 (by omega) (by omega) hl, if_neg (by unfold Bf; omega)]
  have e2 : cT σ' false (12 * t) i (h : Int) ((h + l - i - y : Nat) : Int) l = cT σ false (12 * t) i (h : Int) ((h + l - i - y : Nat) : Int) l := by unfold cT; simp only [Bool.false_eq_true, if_false]; rw [hD.1 19 (by decide)]
  have r1 := (CB_A hB nm i h (h + l - i - y) l).1
  have r2 := (CB_T hB false (12 * t) i (h : Int) ((h + l - i - y : Nat) : Int) l).1
  refine ⟨fun a ha => by rw [su_o _ _ _ ha]; exact hD.1 a ha, CB_su hD.2.1 (by rw [e1, e2]; exact cap_r (by omega)), fun nm' i' p' q' l' a1 a2 a3 a4 a5 a6 => ?_⟩
  have v' : Vt 1 i' (p' : Int) (q' : Int) l' n := ⟨by omega, a6, Or.inr ⟨rfl, by omega, by omega, by omega⟩⟩
  have b1 := (at_lt v0 hn).1
  have b2 := (at_lt v' hn).1
  by_cases e : nm' = nm ∧ i' = i ∧ p' = h ∧ q' = h + l - i - y ∧ l' = l
  · obtain ⟨q1, q2, q3, q4, q5⟩ := e
    subst q1 q2 q3 q4 q5
    rw [if_pos ⟨rfl, by omega, Or.inr ⟨rfl, Or.inr ⟨rfl, by omega⟩⟩⟩]
    show su σ' 22 _ _ 22 (330 * nm'.toNat + atF i' (p' : Int) ((p' + l' - i' - y : Nat) : Int) l') = _
    rw [su_at, e1, e2]
  · have ne : ¬ (330 * nm'.toNat + atF i' (p' : Int) (q' : Int) l' = 330 * nm.toNat + atF i (h : Int) ((h + l - i - y : Nat) : Int) l) := by
      intro z
      have z1 : nm' = nm := by omega
      have z2 : atF i' (p' : Int) (q' : Int) l' = atF i (h : Int) ((h + l - i - y : Nat) : Int) l := by omega
      have := at_inj v' hn v0 hn z2
      exact e ⟨z1, this.1, by omega, by omega, this.2.2.2⟩
    have : cA (su σ' 22 (330 * nm.toNat + atF i (h : Int) ((h + l - i - y : Nat) : Int) l) (cap (cA σ' nm i h (h + l - i - y) l + cT σ' false (12 * t) i (h : Int) ((h + l - i - y : Nat) : Int) l))) nm' i' p' q' l' = cA σ' nm' i' p' q' l' := su_ko _ _ (fun z => ne z.2)
    rw [this, hD.2.2 nm' i' p' q' l' a1 a2 a3 a4 a5 a6]
    unfold Bf
    by_cases q : nm' = nm ∧ (l' : Int) - i' - ((q' : Int) - p') = (y : Int) ∧ (i' < i ∨ (i' = i ∧ (l' < l ∨ (l' = l ∧ p' < h))))
    · rw [if_pos q, if_pos ⟨q.1, q.2.1, by omega⟩]
    · rw [if_neg q, if_neg (by omega)]
theorem DA_to {σ σ' : St} {nm : Int} {t y n i l h i2 l2 h2 : Nat} (hh : ∀ i' p' q' l' : Nat, i' ≤ p' → p' < q' → q' ≤ l' → l' ≤ n → (l' : Int) - i' - ((q' : Int) - p') = (y : Int) → (Bf i' l' p' i l h ↔ Bf i' l' p' i2 l2 h2)) (hD : DA σ σ' nm t y n i l h) : DA σ σ' nm t y n i2 l2 h2 := by
  refine ⟨hD.1, hD.2.1, fun nm' i' p' q' l' a1 a2 a3 a4 a5 a6 => ?_⟩
  rw [hD.2.2 nm' i' p' q' l' a1 a2 a3 a4 a5 a6]
  have := hh i' p' q' l' a3 a4 a5 a6
  by_cases q : nm' = nm ∧ (l' : Int) - i' - ((q' : Int) - p') = (y : Int) ∧ Bf i' l' p' i l h
  · rw [if_pos q, if_pos ⟨q.1, q.2.1, (this q.2.1).mp q.2.2⟩]
  · rw [if_neg q, if_neg (fun z => q ⟨z.1, z.2.1, (this z.2.1).mpr z.2.2⟩)]
theorem in_ix {nm : Int} {a : Nat} (h : 0 ≤ nm ∧ nm < 16) (ha : a < 45) : (0 ≤ w32 (nm * 45 + (a : Int)) ∧ w32 (nm * 45 + (a : Int)) < 720) ∧ (w32 (nm * 45 + (a : Int))).toNat = 45 * nm.toNat + a := by
  rw [w32_id (by omega) (by omega)]; omega
theorem sp_addAuxiliary {σ σ' : St} {Q : St → Prop} {nm : Int} {t y n i : Nat} {a1 a3 a4 : Int} (ht : t < 16) (hn : n ≤ 8) (hnm : 0 ≤ nm ∧ nm < 16) (hi : i + y ≤ n) (h17 : σ 17 0 = (n : Int)) (hB : CB σ) (h1 : a1 = ((12 * t : Nat) : Int)) (h3 : a3 = (i : Int)) (h4 : a4 = (y : Int)) (hD : DA σ σ' nm t y n i (i + y) i) (h : ∀ σ'', DA σ σ'' nm t y n (i + 1) (i + 1 + y) (i + 1) → Q σ'') : wp_X0_addAuxiliary a1 nm a3 a4 Q σ' := by
  subst h3 h4
  have hole : ∀ (K : Int → Int → Int → Int → Int → St → Prop) (l : Nat), i + y < l → l ≤ n → (∀ σ'', DA σ σ'' nm t y n i (l + 1) i → K a1 nm (i : Int) (y : Int) ((l + 1 : Nat) : Int) σ'') →
      ∀ (m hh : Nat) (σ' : St), i + y + 1 - hh = m → i ≤ hh → hh ≤ i + y + 1 → DA σ σ' nm t y n i l hh → wp_X0_addAuxiliary_L20 K Q (m + 1) a1 nm (i : Int) (y : Int) (l : Int) (hh : Int) σ' := by
    intro K l r1 r2 hK m
    induction m with
    | zero =>
      intro hh σ' e1 e2 e3 hD
      unfold wp_X0_addAuxiliary_L20
      rw [w32_id (show -2147483648 ≤ (i : Int) + (y : Int) by omega) (by omega), w32_id (show -2147483648 ≤ (hh : Int) by omega) (by omega)]
      refine ⟨fun _ x_1 ex => ?_, fun z => by omega⟩
      rw [ex, show (l : Int) + 1 = ((l + 1 : Nat) : Int) by omega]
      exact hK σ' (DA_to (fun i' p' q' l' a1 a2 a3 a4 a5 => by unfold Bf; omega) hD)
    | succ m ih =>
      intro hh σ' e1 e2 e3 hD
      have z1 : i + y + 1 - (hh + 1) = m := by omega
      have z2 : i ≤ hh + 1 := by omega
      have z3 : hh + 1 ≤ i + y + 1 := by omega
      have z4 : hh ≤ i + y := by omega
      unfold wp_X0_addAuxiliary_L20
      rw [w32_id (show -2147483648 ≤ (i : Int) + (y : Int) by omega) (by omega), w32_id (show -2147483648 ≤ (hh : Int) by omega) (by omega)]
      refine ⟨fun z => by omega, fun _ => ?_⟩
      have v0 : Vt 1 i (hh : Int) ((hh + l - i - y : Nat) : Int) l n := ⟨by omega, r2, Or.inr ⟨rfl, by omega, by omega, by omega⟩⟩
      rw [show (hh : Int) + (l : Int) - (i : Int) - (y : Int) = ((hh + l - i - y : Nat) : Int) by omega]
      refine sp_at v0 hn rfl rfl ?_
      intro x_4 ex
      have b := nm_ix hnm (at_lt v0 hn).1
      have b' := row_ix (show 12 * t < 192 by omega) (at_lt v0 hn).1
      rw [← ex] at b
      rw [h1]
      refine ⟨b.1, b'.1, ?_⟩
      rw [b.2, b'.2]
      have rA := CB_A hD.2.1 nm i hh (hh + l - i - y) l
      have rT := CB_T hD.2.1 false (12 * t) i (hh : Int) ((hh + l - i - y : Nat) : Int) l
      have eA : w32 (σ' 22 (330 * nm.toNat + atF i (hh : Int) ((hh + l - i - y : Nat) : Int) l)) = cA σ' nm i hh (hh + l - i - y) l := show w32 (cA σ' nm i hh (hh + l - i - y) l) = _ from w32_id (by omega) (by omega)
      have eT : w32 (σ' 19 (330 * (12 * t) + atF i (hh : Int) ((hh + l - i - y : Nat) : Int) l)) = cT σ' false (12 * t) i (hh : Int) ((hh + l - i - y : Nat) : Int) l := show w32 (cT σ' false (12 * t) i (hh : Int) ((hh + l - i - y : Nat) : Int) l) = _ from w32_id (by omega) (by omega)
      rw [eA, eT]
      refine sp_cut (by omega) ⟨b.1, fun σ7 e7 x_8 e8 => ?_⟩
      rw [e7, e8, ← h1, show (hh : Int) + 1 = ((hh + 1 : Nat) : Int) by omega]
      exact ih (hh + 1) _ z1 z2 z3 (DA_step hn hnm r1 r2 e2 z4 hB hD)
  have toL : ∀ (m l : Nat) (σ' : St), n + 1 - l = m → i + y < l → l ≤ n + 1 → DA σ σ' nm t y n i l i → wp_X0_addAuxiliary_L8 Q (m + 1) a1 nm (i : Int) (y : Int) (l : Int) σ' := by
    intro m
    induction m with
    | zero =>
      intro l σ' e1 e2 e3 hD
      have e17 : σ' 17 0 = (n : Int) := by rw [hD.1 17 (by decide)]; exact h17
      unfold wp_X0_addAuxiliary_L8
      rw [e17, w32_id (show -2147483648 ≤ (n : Int) by omega) (by omega), w32_id (show -2147483648 ≤ (l : Int) by omega) (by omega)]
      refine ⟨fun _ => h σ' (DA_to (fun i' p' q' l' a1 a2 a3 a4 a5 => by unfold Bf; omega) hD), fun z => by omega⟩
    | succ m ih =>
      intro l σ' e1 e2 e3 hD
      have e17 : σ' 17 0 = (n : Int) := by rw [hD.1 17 (by decide)]; exact h17
      unfold wp_X0_addAuxiliary_L8
      rw [e17, w32_id (show -2147483648 ≤ (n : Int) by omega) (by omega), w32_id (show -2147483648 ≤ (l : Int) by omega) (by omega)]
      refine ⟨fun z => by omega, fun _ => ⟨_, hole _ l e2 (by omega) (fun σ'' a => ih (l + 1) σ'' (by omega) (by omega) (by omega) a) _ i σ' rfl (Nat.le_refl i) (by omega) hD⟩⟩
  unfold wp_X0_addAuxiliary
  intro x_1 ex
  rw [ex, show (i : Int) + (y : Int) + 1 = ((i + y + 1 : Nat) : Int) by omega]
  exact ⟨_, toL _ (i + y + 1) σ' rfl (by omega) (by omega) (DA_to (fun i' p' q' l' a1 a2 a3 a4 a5 => by unfold Bf; omega) hD)⟩
theorem sp_isA {σ0 σ' : St} {R : Int → St → Prop} {t : Nat} (ht : t < 16) (h6 : cc σ0 (12 * t) 6 = 0 ∨ cc σ0 (12 * t) 6 = 1) (e : cc σ' = cc σ0) (hR : R (cc σ0 (12 * t) 6) σ') : wp_X1_isAuxiliary (t : Int) R σ' := by
  have e' : nd σ' t 0 6 = cc σ0 (12 * t) 6 := by show cc σ' (12 * t) 6 = _; rw [e]
  unfold wp_X1_isAuxiliary wp_X1_row
  refine sp_hasFoot (t := t) (x := 0) (by omega) (by omega) (by omega) (by rw [e']; exact h6) ?_
  rw [e']
  exact ⟨h6, hR⟩
theorem addI_fin {σ0 σ σ' : St} {N n y t i : Nat} {V : Tb} (ht : t < N) (hi : n < i + y) (q6 : cc σ0 (12 * t) 6 = 0) (hVr : ∀ o r i j k l, 0 ≤ V o r i j k l) (hI : FI σ0 N n V y t σ)
    (hT : ∀ (i l : Nat) (j k : Int), Vt (cc σ0 (12 * t) 6) i j k l n → (l : Int) - i - (k - j) = (y : Int) → cT σ false (12 * t) i j k l = V false (12 * t) i j k l) (hD : DI σ σ' (cc σ0 (12 * t) 1) t y n i) : FI σ0 N n V y (t + 1) σ' := by
  have hM := Mk_r (y := y) (t := t) hVr
  refine ⟨fun a h1 h2 h3 h4 => (hD.1 a h3).trans (hI.1 a h1 h2 h3 h4), hD.2.1, ⟨fun nm i' l' a1 a2 a3 a4 => ?_, fun nm i' p' q' l' a1 a2 a3 a4 a5 a6 => ?_⟩⟩
  · rw [hD.2.2 nm i' l' a1 a2 a3 a4, ini_add ht, hI.2.2.1 nm i' l' a1 a2 a3 a4]
    by_cases w : nm = cc σ0 (12 * t) 1 ∧ i' + y = l' ∧ i' < i
    · rw [if_pos w, if_pos ⟨⟨w.1.symm, q6⟩, by omega⟩, hT i' l' (-1) (-1) ⟨a3, a4, Or.inl ⟨q6, rfl, rfl⟩⟩ (by omega), cap_add (ini_p hM _ _ _) (hVr _ _ _ _ _ _)]
    · rw [if_neg w, if_neg (fun z => w ⟨z.1.1.symm, by omega, by omega⟩), Int.add_zero]
  · have : cA σ' nm i' p' q' l' = cA σ nm i' p' q' l' := by unfold cA; rw [hD.1 22 (by decide)]
    rw [this, aux_add ht, if_neg (fun z => by omega), Int.add_zero]
    exact hI.2.2.2 nm i' p' q' l' a1 a2 a3 a4 a5 a6
theorem addA_fin {σ0 σ σ' : St} {N n y t i : Nat} {V : Tb} (ht : t < N) (hi : n < i + y) (q6 : cc σ0 (12 * t) 6 = 1) (hVr : ∀ o r i j k l, 0 ≤ V o r i j k l) (hI : FI σ0 N n V y t σ)
    (hT : ∀ (i l : Nat) (j k : Int), Vt (cc σ0 (12 * t) 6) i j k l n → (l : Int) - i - (k - j) = (y : Int) → cT σ false (12 * t) i j k l = V false (12 * t) i j k l) (hD : DA σ σ' (cc σ0 (12 * t) 1) t y n i (i + y) i) : FI σ0 N n V y (t + 1) σ' := by
  have hM := Mk_r (y := y) (t := t) hVr
  refine ⟨fun a h1 h2 h3 h4 => (hD.1 a h4).trans (hI.1 a h1 h2 h3 h4), hD.2.1, ⟨fun nm i' l' a1 a2 a3 a4 => ?_, fun nm i' p' q' l' a1 a2 a3 a4 a5 a6 => ?_⟩⟩
  · have : cI σ' nm i' l' = cI σ nm i' l' := by unfold cI; rw [hD.1 21 (by decide)]
    rw [this, ini_add ht, if_neg (fun z => by omega), Int.add_zero]
    exact hI.2.2.1 nm i' l' a1 a2 a3 a4
  · rw [hD.2.2 nm i' p' q' l' a1 a2 a3 a4 a5 a6, aux_add ht, hI.2.2.2 nm i' p' q' l' a1 a2 a3 a4 a5 a6]
    by_cases w : nm = cc σ0 (12 * t) 1 ∧ (l' : Int) - i' - ((q' : Int) - p') = (y : Int) ∧ Bf i' l' p' i (i + y) i
    · rw [if_pos w, if_pos ⟨⟨w.1.symm, q6⟩, w.2.1⟩, hT i' l' (p' : Int) (q' : Int) ⟨by omega, a6, Or.inr ⟨q6, by omega, by omega, by omega⟩⟩ w.2.1, cap_add (aux_p hM _ _ _ _ _) (hVr _ _ _ _ _ _)]
    · rw [if_neg w, if_neg (fun z => w ⟨z.1.1.symm, z.2, Or.inl (by omega)⟩), Int.add_zero]
theorem addI_step {σ' : St} {Q : Int → St → Prop} {nm : Int} {t y n i : Nat} (ht : t < 16) (hn : n ≤ 8) (hnm : 0 ≤ nm ∧ nm < 16) (hi : i + y ≤ n) (hB : CB σ') (h : ∀ r4 : Int, r4 = ((atF i (-1) (-1) (i + y) : Nat) : Int) → ∀ x_5 : Int, x_5 = nm * 45 + r4 → (0 ≤ w32 x_5 ∧ w32 x_5 < 720) → (0 ≤ w32 (((12 * t : Nat) : Int) * 330 + r4) ∧ w32 (((12 * t : Nat) : Int) * 330 + r4) < 63360) → w32 (σ' 21 (w32 x_5).toNat) + w32 (σ' 19 (w32 (((12 * t : Nat) : Int) * 330 + r4)).toNat) = cI σ' nm i (i + y) + cT σ' false (12 * t) i (-1) (-1) (i + y) → (w32 x_5).toNat = 45 * nm.toNat + atF i (-1) (-1) (i + y) → Q r4 σ') : wp_X0_at (i : Int) ((i : Int) + (y : Int)) (-1) (-1) Q σ' := by
  have v0 : Vt 0 i (-1) (-1) (i + y) n := ⟨by omega, hi, Or.inl ⟨rfl, rfl, rfl⟩⟩
  refine sp_at v0 hn rfl (by omega) ?_
  have b := in_ix hnm ((at_lt v0 hn).2 rfl)
  have b' := row_ix (show 12 * t < 192 by omega) (at_lt v0 hn).1
  have rI : 0 ≤ cI σ' nm i (i + y) ∧ cI σ' nm i (i + y) ≤ 1000000000 := (hB _).2.2.1
  have rT := CB_T hB false (12 * t) i (-1) (-1) (i + y)
  have eA : w32 (σ' 21 (45 * nm.toNat + atF i (-1) (-1) (i + y))) = cI σ' nm i (i + y) := show w32 (cI σ' nm i (i + y)) = _ from w32_id (by omega) (by omega)
  have eT : w32 (σ' 19 (330 * (12 * t) + atF i (-1) (-1) (i + y))) = cT σ' false (12 * t) i (-1) (-1) (i + y) := show w32 (cT σ' false (12 * t) i (-1) (-1) (i + y)) = _ from w32_id (by omega) (by omega)
  exact h _ rfl _ rfl b.1 b'.1 (by rw [b.2, b'.2, eA, eT]) b.2
theorem addI_loop {σ0 σ : St} {Q : St → Prop} {N n y t : Nat} {V : Tb} {nm : Int} (hn : n ≤ 8) (hN : N ≤ 16) (ht : t < N) (hyn : y ≤ n) (e17 : σ 17 0 = (n : Int)) (e11 : cc σ = cc σ0) (q6 : cc σ0 (12 * t) 6 = 0) (hnmE : cc σ0 (12 * t) 1 = nm) (hnm : 0 ≤ nm ∧ nm < 16) (hVr : ∀ o r i j k l, 0 ≤ V o r i j k l) (hI : FI σ0 N n V y t σ)
    (hT : ∀ (i l : Nat) (j k : Int), Vt (cc σ0 (12 * t) 6) i j k l n → (l : Int) - i - (k - j) = (y : Int) → cT σ false (12 * t) i j k l = V false (12 * t) i j k l)
    (h : ∀ σ', FI σ0 N n V y (t + 1) σ' → σ' 19 = σ 19 → σ' 20 = σ 20 → Q σ') : ∀ (m i : Nat) (σ' : St), n + 1 - y - i = m → i + y ≤ n + 1 → DI σ σ' nm t y n i → wp_X0_addTree_L19 Q (m + 1) (t : Int) (y : Int) ((12 * t : Nat) : Int) nm (i : Int) σ' := by
  intro m
  induction m with
  | zero =>
    intro i σ' m1 m2 hD
    have e17' : σ' 17 0 = (n : Int) := by rw [hD.1 17 (by decide)]; exact e17
    unfold wp_X0_addTree_L19
    rw [e17', w32_id (show -2147483648 ≤ (n : Int) by omega) (by omega), w32_id (show -2147483648 ≤ (i : Int) + (y : Int) by omega) (by omega)]
    refine ⟨fun _ => h σ' (addI_fin (σ := σ) (i := i) ht (by omega) q6 hVr hI hT (by rw [hnmE]; exact hD)) (hD.1 19 (by decide)) (hD.1 20 (by decide)), fun z => by omega⟩
  | succ m ih =>
    intro i σ' m1 m2 hD
    have z1 : n + 1 - y - (i + 1) = m := by omega
    have z2 : i + 1 + y ≤ n + 1 := by omega
    have z3 : i + y ≤ n := by omega
    have e17' : σ' 17 0 = (n : Int) := by rw [hD.1 17 (by decide)]; exact e17
    have ec : cc σ' = cc σ0 := (cc_c (hD.1 11 (by decide))).trans e11
    have rI : 0 ≤ cI σ' nm i (i + y) ∧ cI σ' nm i (i + y) ≤ 1000000000 := (hD.2.1 _).2.2.1
    have rT := CB_T hD.2.1 false (12 * t) i (-1) (-1) (i + y)
    have hs : 0 ≤ cI σ' nm i (i + y) + cT σ' false (12 * t) i (-1) (-1) (i + y) ∧ cI σ' nm i (i + y) + cT σ' false (12 * t) i (-1) (-1) (i + y) < 9223372036854775808 := by
      generalize cI σ' nm i (i + y) = u at *
      generalize cT σ' false (12 * t) i (-1) (-1) (i + y) = w at *
      clear hD ih
      omega
    have z5 : (i : Int) + 1 = ((i + 1 : Nat) : Int) := by omega
    unfold wp_X0_addTree_L19
    rw [e17', w32_id (show -2147483648 ≤ (n : Int) by omega) (by omega), w32_id (show -2147483648 ≤ (i : Int) + (y : Int) by omega) (by omega)]
    refine ⟨fun z => by omega, fun _ => sp_isA (by omega) (Or.inl q6) ec ?_⟩
    rw [q6]
    refine ⟨fun _ => addI_step (t := t) (n := n) (by omega) hn hnm z3 hD.2.1 (fun r4 e4 x_5 e5 b1 b2 b3 b4 x_5' e5' => ?_), fun z => absurd w32_0 z⟩
    rw [← e5] at e5'
    rw [e5', b3, b4]
    refine ⟨b1, b2, sp_cut hs ⟨b1, fun σ8 e8 => ?_⟩⟩
    unfold wp_X0_addTree_B110
    intro x_1 ex1
    rw [e8, ex1, z5]
    exact ih (i + 1) _ z1 z2 (DI_step hn hnm z3 hI.2.1 hD)
theorem addA_loop {σ0 σ : St} {Q : St → Prop} {N n y t : Nat} {V : Tb} {nm : Int} (hn : n ≤ 8) (hN : N ≤ 16) (ht : t < N) (hyn : y ≤ n) (e17 : σ 17 0 = (n : Int)) (e11 : cc σ = cc σ0) (q6 : cc σ0 (12 * t) 6 = 1) (hnmE : cc σ0 (12 * t) 1 = nm) (hnm : 0 ≤ nm ∧ nm < 16) (hVr : ∀ o r i j k l, 0 ≤ V o r i j k l) (hI : FI σ0 N n V y t σ)
    (hT : ∀ (i l : Nat) (j k : Int), Vt (cc σ0 (12 * t) 6) i j k l n → (l : Int) - i - (k - j) = (y : Int) → cT σ false (12 * t) i j k l = V false (12 * t) i j k l)
    (h : ∀ σ', FI σ0 N n V y (t + 1) σ' → σ' 19 = σ 19 → σ' 20 = σ 20 → Q σ') : ∀ (m i : Nat) (σ' : St), n + 1 - y - i = m → i + y ≤ n + 1 → DA σ σ' nm t y n i (i + y) i → wp_X0_addTree_L19 Q (m + 1) (t : Int) (y : Int) ((12 * t : Nat) : Int) nm (i : Int) σ' := by
  intro m
  induction m with
  | zero =>
    intro i σ' m1 m2 hD
    have e17' : σ' 17 0 = (n : Int) := by rw [hD.1 17 (by decide)]; exact e17
    unfold wp_X0_addTree_L19
    rw [e17', w32_id (show -2147483648 ≤ (n : Int) by omega) (by omega), w32_id (show -2147483648 ≤ (i : Int) + (y : Int) by omega) (by omega)]
    refine ⟨fun _ => h σ' (addA_fin (σ := σ) (i := i) ht (by omega) q6 hVr hI hT (by rw [hnmE]; exact hD)) (hD.1 19 (by decide)) (hD.1 20 (by decide)), fun z => by omega⟩
  | succ m ih =>
    intro i σ' m1 m2 hD
    have z1 : n + 1 - y - (i + 1) = m := by omega
    have z2 : i + 1 + y ≤ n + 1 := by omega
    have z3 : i + y ≤ n := by omega
    have e17' : σ' 17 0 = (n : Int) := by rw [hD.1 17 (by decide)]; exact e17
    have ec : cc σ' = cc σ0 := (cc_c (hD.1 11 (by decide))).trans e11
    unfold wp_X0_addTree_L19
    rw [e17', w32_id (show -2147483648 ≤ (n : Int) by omega) (by omega), w32_id (show -2147483648 ≤ (i : Int) + (y : Int) by omega) (by omega)]
    refine ⟨fun z => by omega, fun _ => sp_isA (by omega) (Or.inr q6) ec ?_⟩
    rw [q6]
    refine ⟨fun z => absurd z (by decide), fun _ => ?_⟩
    refine sp_addAuxiliary (σ := σ) (t := t) (y := y) (n := n) (i := i) (by omega) hn hnm z3 e17 hI.2.1 rfl rfl rfl hD (fun σ'' hD' => ?_)
    unfold wp_X0_addTree_B110
    intro x_1 ex1
    rw [ex1, show (i : Int) + 1 = ((i + 1 : Nat) : Int) by omega]
    exact ih (i + 1) _ z1 z2 hD'
theorem sp_addTree {σ0 σ : St} {Q : St → Prop} {N n y t : Nat} {V : Tb} (hn : n ≤ 8) (hN : N ≤ 16) (ht : t < N) (h17 : σ0 17 0 = (n : Int)) (hyn : y ≤ n) (h6 : cc σ0 (12 * t) 6 = 0 ∨ cc σ0 (12 * t) 6 = 1) (hnm : 0 ≤ cc σ0 (12 * t) 1 ∧ cc σ0 (12 * t) 1 < 16) (hVr : ∀ o r i j k l, 0 ≤ V o r i j k l) (hI : FI σ0 N n V y t σ)
    (hT : ∀ (i l : Nat) (j k : Int), Vt (cc σ0 (12 * t) 6) i j k l n → (l : Int) - i - (k - j) = (y : Int) → cT σ false (12 * t) i j k l = V false (12 * t) i j k l)
    (h : ∀ σ', FI σ0 N n V y (t + 1) σ' → σ' 19 = σ 19 → σ' 20 = σ 20 → Q σ') : wp_X0_addTree (t : Int) (y : Int) Q σ := by
  have e11 : cc σ = cc σ0 := cc_c (hI.1 11 (by decide) (by decide) (by decide) (by decide))
  have e17 : σ 17 0 = (n : Int) := by rw [hI.1 17 (by decide) (by decide) (by decide) (by decide)]; exact h17
  have base : ∃ nn, wp_X0_addTree_L19 Q nn (t : Int) (y : Int) ((12 * t : Nat) : Int) (cc σ0 (12 * t) 1) ((0 : Nat) : Int) σ := by
    rcases h6 with q6 | q6
    · refine ⟨n + 1 - y + 1, addI_loop hn hN ht hyn e17 e11 q6 rfl hnm hVr hI hT h (n + 1 - y) 0 σ (by omega) (by omega) ?_⟩
      exact ⟨fun _ _ => rfl, hI.2.1, fun nm' i' l' _ _ _ _ => by rw [if_neg (by omega)]⟩
    · refine ⟨n + 1 - y + 1, addA_loop hn hN ht hyn e17 e11 q6 rfl hnm hVr hI hT h (n + 1 - y) 0 σ (by omega) (by omega) ?_⟩
      exact ⟨fun _ _ => rfl, hI.2.1, fun nm' i' p' q' l' _ _ _ _ _ _ => by rw [if_neg (by omega)]⟩
  obtain ⟨nn, hb⟩ := base
  have e1 : nd σ t 0 1 = cc σ0 (12 * t) 1 := by rw [← e11]; rfl
  have er : (t : Int) * 12 + 0 = ((12 * t : Nat) : Int) := by omega
  have er0 : (t : Int) * 12 + 0 = ((12 * t + 0 : Nat) : Int) := by omega
  have e2 : wp_X1_cell ((t : Int) * 12 + 0) 1 (fun r4 σ3 => ∃ nn, wp_X0_addTree_L19 Q nn (t : Int) (y : Int) ((t : Int) * 12 + 0) r4 0 σ3) σ := by
    refine sp_cell (t := t) (x := 0) (w := 1) er0 rfl (by omega) (by omega) (by omega) ?_
    rw [e1, er]
    exact ⟨nn, hb⟩
  unfold wp_X0_addTree
  unfold wp_X1_rootLabel
  unfold wp_X1_row
  exact e2
