/-! pure: what the class lays is right -/
def CE (x y : Int) : Prop := 0 ≤ x ∧ 0 ≤ y ∧ ∀ a, 0 ≤ a → cap (a + x) = cap (a + y)
theorem CE_refl {x : Int} (h : 0 ≤ x) : CE x x := ⟨h, h, fun _ _ => rfl⟩
theorem CE_cap {x y : Int} (h : CE x y) : cap x = cap y := by have := h.2.2 0 (Int.le_refl 0); rw [Int.zero_add, Int.zero_add] at this; exact this
theorem CE_add {x y x' y' : Int} (h : CE x y) (h' : CE x' y') : CE (x + x') (y + y') := by
  refine ⟨by have := h.1; have := h'.1; omega, by have := h.2.1; have := h'.2.1; omega, fun a ha => ?_⟩
  have e1 : a + (x + x') = (a + x) + x' := by omega
  have e2 : (a + x) + y' = (a + y') + x := by omega
  have e3 : (a + y') + y = a + (y + y') := by omega
  rw [e1, h'.2.2 (a + x) (by have := h.1; omega), e2, h.2.2 (a + y') (by have := h'.2.1; omega), e3]
theorem CE_sm {f g : Nat → Int} : ∀ n, (∀ d, d < n → CE (f d) (g d)) → CE (sm f n) (sm g n) := by
  intro n
  induction n with
  | zero => intro _; exact CE_refl (Int.le_refl 0)
  | succ n ih => intro h; exact CE_add (ih (fun d hd => h d (by omega))) (h n (by omega))
theorem CE_mul {x b : Int} (hx : 0 ≤ x) (hb : 0 ≤ b) : CE (cap x * b) (x * b) := ⟨Int.mul_nonneg (cap_r hx).1 hb, Int.mul_nonneg hx hb, fun _ ha => cap_mul ha hx hb⟩
/-- the counts of the trees that have been added -/
def Mk (y t : Nat) (V : Tb) : Tb := fun o r i j k l => if (l : Int) - i - (k - j) < (y : Int) ∨ ((l : Int) - i - (k - j) = (y : Int) ∧ r < 12 * t) then V o r i j k l else 0
def IA (c : Nat → Nat → Int) (N n y t : Nat) (V : Tb) (σ : St) : Prop :=
  (∀ (nm : Int) (i l : Nat), 0 ≤ nm → nm < 16 → i ≤ l → l ≤ n → cI σ nm i l = cap (ini c N (Mk y t V) nm i l)) ∧
  (∀ (nm : Int) (i p q l : Nat), 0 ≤ nm → nm < 16 → i ≤ p → p < q → q ≤ l → l ≤ n → cA σ nm i p q l = cap (aux c N (Mk y t V) nm i p q l))
def RT (c : Nat → Nat → Int) (N : Nat) (sz : Nat → Nat) (n : Nat) (V : Tb) (σ : St) (y : Nat) (S : Bool → Nat → Nat → Prop) : Prop := ∀ (o : Bool) (t x i l : Nat) (j k : Int), t < N → x < sz t → Vt (flg c o (12 * t + x)) i j k l n → ((l : Int) - i - (k - j) < (y : Int) ∨ ((l : Int) - i - (k - j) = (y : Int) ∧ S o t x)) → cT σ o (12 * t + x) i j k l = V o (12 * t + x) i j k l
theorem Mk_r {y t : Nat} {V : Tb} (h : ∀ o r i j k l, 0 ≤ V o r i j k l) (o r i j k l) : 0 ≤ Mk y t V o r i j k l := by
  unfold Mk; split
  · exact h _ _ _ _ _ _
  · exact Int.le_refl 0
/-- the class's tables, and the counts where it has no cell -/
def eT (σ : St) (V : Tb) : Tb := fun o r i j k l => if j = -1 ∨ j < k then cT σ o r i j k l else V o r i j k l
theorem eT_c {σ : St} {V : Tb} {o : Bool} {r i l : Nat} {j k : Int} (h : j = -1 ∨ j < k) : eT σ V o r i j k l = cT σ o r i j k l := by unfold eT; rw [if_pos h]
theorem eT_p {σ : St} {V : Tb} (hB : CB σ) (hV : ∀ o r i j k l, 0 ≤ V o r i j k l) (o r i j k l) : 0 ≤ eT σ V o r i j k l := by
  unfold eT; split
  · exact (CB_T hB _ _ _ _ _ _).1
  · exact hV _ _ _ _ _ _
def TG (σ : St) (V : Tb) (y t : Nat) : Tb := fun o r i j k l => if o = true ∨ r % 12 ≠ 0 then eT σ V o r i j k l else Mk y t V o r i j k l
theorem ini_p {c : Nat → Nat → Int} {N : Nat} {T : Tb} (h : ∀ o r i j k l, 0 ≤ T o r i j k l) (nm i l) : 0 ≤ ini c N T nm i l := sm_p _ (fun t _ => by split; exact h _ _ _ _ _ _; exact Int.le_refl 0)
theorem aux_p {c : Nat → Nat → Int} {N : Nat} {T : Tb} (h : ∀ o r i j k l, 0 ≤ T o r i j k l) (nm i p q l) : 0 ≤ aux c N T nm i p q l := sm_p _ (fun t _ => by split; exact h _ _ _ _ _ _; exact Int.le_refl 0)
theorem TG_ini {σ : St} {c : Nat → Nat → Int} {N y t : Nat} {V : Tb} (nm : Int) (i l : Nat) : ini c N (TG σ V y t) nm i l = ini c N (Mk y t V) nm i l := by
  refine sm_c _ (fun t' _ => ?_)
  have : TG σ V y t false (12 * t') i (-1) (-1) l = Mk y t V false (12 * t') i (-1) (-1) l := by unfold TG; rw [if_neg (fun z => z.elim (fun w => absurd w (by decide)) (fun w => w (by omega)))]
  rw [this]
theorem TG_aux {σ : St} {c : Nat → Nat → Int} {N y t : Nat} {V : Tb} (nm : Int) (i p q l : Nat) : aux c N (TG σ V y t) nm i p q l = aux c N (Mk y t V) nm i p q l := by
  refine sm_c _ (fun t' _ => ?_)
  have : TG σ V y t false (12 * t') i (p : Int) (q : Int) l = Mk y t V false (12 * t') i (p : Int) (q : Int) l := by unfold TG; rw [if_neg (fun z => z.elim (fun w => absurd w (by decide)) (fun w => w (by omega)))]
  rw [this]
theorem TG_true {σ : St} {y t : Nat} {V : Tb} (r i : Nat) (j k : Int) (l : Nat) : TG σ V y t true r i j k l = eT σ V true r i j k l := by unfold TG; rw [if_pos (Or.inl rfl)]
/-- how many auxiliary trees have a label -/
def AX (c : Nat → Nat → Int) (N : Nat) (σ : St) : Prop := ∀ d, d < 16 → (0 ≤ σ 29 d ∧ σ 29 d ≤ 5000) ∧ (σ 29 d = 0 → ∀ t, t < N → ¬ (c (12 * t) 1 = (d : Int) ∧ c (12 * t) 6 = 1))
/-- the class's cell is the count over what lies in the tables -/
theorem ndC_rhs {σ : St} {V : Tb} {N n y t' r i l : Nat} {g j k : Int} (hB : CB σ) (hVr : ∀ o r i j k l, 0 ≤ V o r i j k l) (hIA : IA (cc σ) N n y t' V σ) (hAX : AX (cc σ) N σ) (hnm : 0 ≤ cc σ r 1 ∧ (cc σ r 0 ≠ 3 → cc σ r 1 < 16)) (h0 : 0 ≤ cc σ r 0 ∧ cc σ r 0 ≤ 3) (h9 : 0 ≤ cc σ r 9 ∧ (g = 0 → cc σ r 0 = 0 → 1 ≤ cc σ r 9)) (hv : Vt g i j k l n)
    (hsk : cc σ r 0 = 0 → ∀ p q : Nat, i ≤ p → p ≤ q → q ≤ l → ((j = -1 ∧ k = -1) ∨ ((p : Int) ≤ j ∧ j < k ∧ k ≤ (q : Int))) → (q : Int) - p - (k - j) < cc σ r 9 → cT σ true (r + 1) p j k q = 0) : ndC σ r i j k l = rhs (cc σ) N (σ 18) (TG σ V y t') false r i j k l := by
  have hM := Mk_r (y := y) (t := t') hVr
  obtain ⟨v1, v2, v3⟩ := hv
  have jk : j = -1 ∨ j < k := by rcases v3 with z | z; exact Or.inl z.2.1; exact Or.inr z.2.2.1
  unfold rhs
  simp only [Bool.false_eq_true, if_false]
  unfold ndC rLie
  by_cases k3 : cc σ r 0 = 3
  · rw [if_pos k3, if_pos k3]
  rw [if_neg k3, if_neg k3]
  have h16 := hnm.2 k3
  by_cases k2 : cc σ r 0 = 2
  · rw [if_pos k2, if_pos k2]
  rw [if_neg k2, if_neg k2]
  by_cases k1 : cc σ r 0 = 1
  · rw [if_pos k1, if_pos k1, TG_ini]
    exact hIA.1 _ _ _ hnm.1 h16 v1 v2
  rw [if_neg k1, if_neg k1]
  have k0 : cc σ r 0 = 0 := by omega
  refine CE_cap ?_
  unfold inC rIn
  refine CE_add ?_ ?_
  · split
    · exact CE_refl (Int.le_refl 0)
    · rw [TG_true, eT_c jk]; exact CE_refl (CB_T hB _ _ _ _ _ _).1
  · by_cases q4 : cc σ r 4 = 2
    · rw [if_pos (Or.inl q4), if_pos q4]; exact CE_refl (Int.le_refl 0)
    rw [if_neg q4]
    by_cases q29 : σ 29 (cc σ r 1).toNat = 0
    · rw [if_pos (Or.inr q29)]
      have none := (hAX (cc σ r 1).toNat (by omega)).2 q29
      have z : axs (cc σ) N (TG σ V y t') r i j k l = 0 := by
        unfold axs
        refine sm_0 _ (fun dp hdp => sm_0 _ (fun dq hdq => mul_0 (Or.inl (sm_0 _ (fun t ht => ?_)))))
        rw [if_neg (fun w => none t ht ⟨by rw [w.1]; omega, w.2⟩)]
      rw [z]
      exact CE_refl (Int.le_refl 0)
    · rw [if_neg (fun z => z.elim q4 q29)]
      unfold inS axs
      refine CE_sm _ (fun dp hdp => CE_sm _ (fun dq hdq => ?_))
      have hpq : i + dp ≤ fstQ j k (i + dp) + dq ∧ fstQ j k (i + dp) + dq ≤ l ∧ ((j = -1 ∧ k = -1) ∨ (((i + dp : Nat) : Int) ≤ j ∧ j < k ∧ k ≤ ((fstQ j k (i + dp) + dq : Nat) : Int))) := by
        unfold lastP at hdp
        unfold fstQ at hdq ⊢
        rcases v3 with z | z
        · rw [if_pos z.2.1] at hdp hdq ⊢; exact ⟨by omega, by omega, Or.inl z.2⟩
        · rw [if_neg (by omega)] at hdp hdq ⊢; exact ⟨by omega, by omega, Or.inr (by omega)⟩
      generalize fstQ j k (i + dp) + dq = q at *
      have hip : i ≤ i + dp := by omega
      generalize i + dp = p at *
      obtain ⟨b1, b2, b3⟩ := hpq
      unfold inT nwC
      rw [TG_true, eT_c jk, TG_aux]
      by_cases w : (p : Int) + (cc σ r 9 + k - j) ≤ (q : Int)
      · rw [if_pos w]
        unfold inA
        have pq : p < q := by
          rcases v3 with z | z
          · have := h9.2 z.1 k0; omega
          · omega
        rw [hIA.2 _ _ _ _ _ hnm.1 h16 hip pq b2 v2]
        exact CE_mul (aux_p hM _ _ _ _ _) (CB_T hB _ _ _ _ _ _).1
      · rw [if_neg w, hsk k0 p q hip b1 b2 b3 (by omega), Int.mul_zero]
        exact CE_refl (Int.le_refl 0)
/-- the trees, as the chart wants them -/
def FC (σ : St) (N : Nat) (sz : Nat → Nat) (hw wo : Nat → Prop) : Prop := CF (cc σ) N sz hw wo ∧ (∀ t x, t < N → x < sz t → 0 ≤ cc σ (12 * t + x) 4 ∧ cc σ (12 * t + x) 4 ≤ 2)
/-- the class's run is the count over what lies in the tables -/
theorem rOnC_e {σ : St} {V : Tb} {n r i l : Nat} {j k : Int} (hv : Vt (cc σ r 7) i j k l n) (h67 : cc σ r 6 = 1 → cc σ r 7 = 1)
    (hh : cc σ r 6 ≠ 1 → ∀ e : Nat, i ≤ e → e ≤ l → (e : Int) - i < cc σ r 9 → cT σ false r i (-1) (-1) e = 0) (htl : cc σ r 5 ≠ -1 → (cc σ r 6 = 1 ∨ j = -1) → ∀ e : Nat, i ≤ e → e ≤ l → (l : Int) - e < cc σ (cc σ r 5).toNat 10 → cT σ true (cc σ r 5).toNat e (-1) (-1) l = 0) : rOnC (cc σ) (cT σ) r i j k l = rOn (cc σ) (eT σ V) r i j k l := by
  obtain ⟨v1, v2, v3⟩ := hv
  have jk : j = -1 ∨ j < k := by rcases v3 with z | z; exact Or.inl z.2.1; exact Or.inr z.2.2.1
  unfold rOnC rOn
  by_cases q5 : cc σ r 5 = -1
  · rw [if_pos q5, if_pos q5, eT_c jk]
  rw [if_neg q5, if_neg q5]
  congr 1
  refine sm_c _ (fun d hd => ?_)
  unfold splC spl fsp lsp
  by_cases q6 : cc σ r 6 = 1
  · rw [if_pos q6, if_pos q6, if_pos q6, if_pos (Or.inl q6), eT_c jk, eT_c (Or.inl rfl)]
    by_cases a : k ≤ ((i + d : Nat) : Int)
    · rw [if_pos a]
      by_cases b : ((i + d : Nat) : Int) ≤ (l : Int) - cc σ (cc σ r 5).toNat 10
      · rw [if_pos ⟨a, b⟩]
      · rw [if_neg (fun z => b z.2), htl q5 (Or.inl q6) (i + d) (by omega) (by omega) (by omega), Int.mul_zero]
    · rw [if_neg a, if_neg (fun z => a z.1)]
  · rw [if_neg q6, if_neg q6, if_neg q6, eT_c (Or.inl rfl), eT_c jk]
    by_cases qj : j = -1
    · have qk : k = -1 := by rcases v3 with z | z <;> omega
      rw [if_pos (Or.inr qj), if_pos (Or.inl qj)]
      by_cases a : (i : Int) + cc σ r 9 ≤ ((i + d : Nat) : Int)
      · by_cases b : ((i + d : Nat) : Int) ≤ (l : Int) - cc σ (cc σ r 5).toNat 10
        · rw [if_pos ⟨a, b⟩]
        · have z := htl q5 (Or.inr qj) (i + d) (by omega) (by omega) (by omega)
          rw [if_neg (fun z => b z.2), qj, qk, z, Int.mul_zero]
      · rw [if_neg (fun z => a z.1), hh q6 (i + d) (by omega) (by omega) (by omega), Int.zero_mul]
    · rw [if_neg (show ¬ (cc σ r 6 = 1 ∨ j = -1) from fun z => z.elim q6 qj)]
      by_cases b : ((i + d : Nat) : Int) ≤ j
      · rw [if_pos (Or.inr b)]
        by_cases a : (i : Int) + cc σ r 9 ≤ ((i + d : Nat) : Int)
        · rw [if_pos ⟨a, b⟩]
        · rw [if_neg (fun z => a z.1), hh q6 (i + d) (by omega) (by omega) (by omega), Int.zero_mul]
      · rw [if_neg (fun z => b z.2), if_neg (fun z => z.elim qj b)]
theorem lay_on {σ : St} {N n y t x i l : Nat} {sz : Nat → Nat} {hw wo : Nat → Prop} {j k : Int} {S : Bool → Nat → Nat → Prop} (hn : n ≤ 8) (hF : CF (cc σ) N sz hw wo) (hL : CL (cc σ) N sz hw wo) (ht : t < N) (hx : x < sz t) (hv : Vt (flg (cc σ) true (12 * t + x)) i j k l n) (hy : (l : Int) - i - (k - j) = (y : Int)) (hly : cc σ (12 * t + x) 10 ≤ (y : Int)) (hR : RT (cc σ) N sz n (VV (cc σ) N (σ 18)) σ y S) (hS : ∀ o' t' x', t' < N → x' < sz t' → Rdy hw wo true t x (y : Int) o' t' x' (y : Int) → S o' t' x') : rOnC (cc σ) (cT σ) (12 * t + x) i j k l = VV (cc σ) N (σ 18) true (12 * t + x) i j k l := by
  rw [VV_eq (σ 18) hF hn ht hx hv.vs]
  obtain ⟨g1, g2, g3, g4, g5, g6, g7, g8, g9, g10, g11⟩ := hF.1 t x ht hx
  obtain ⟨m1, m2, m3, m4, m5, m6, m7, m8, m9, m10, m11⟩ := hL t x ht hx
  have v7 : Vt (cc σ (12 * t + x) 7) i j k l n := hv
  have e : rOnC (cc σ) (cT σ) (12 * t + x) i j k l = rhs (cc σ) N (σ 18) (eT σ (VV (cc σ) N (σ 18))) true (12 * t + x) i j k l := by
    unfold rhs
    rw [if_pos rfl]
    refine rOnC_e (n := n) v7 (fun z => g7.mpr (Or.inl z)) (fun q6 e e1 e2 e3 => ?_) (fun q5 qj e e1 e2 e3 => ?_)
    · have q60 : cc σ (12 * t + x) 6 = 0 := g2.elim id (fun w => absurd w q6)
      have sp : Vt (flg (cc σ) false (12 * t + x)) i (-1) (-1) e n := ⟨e1, by have := hv.2.1; omega, Or.inl ⟨q60, rfl, rfl⟩⟩
      have hl2 : cc σ (12 * t + x) 9 ≤ cc σ (12 * t + x) 10 := by
        rw [m6]
        split
        · omega
        · rename_i q5
          rcases g5 with z | ⟨x', z1, z2, z3⟩
          · exact absurd z q5
          · have := (hL t x' ht z2).2.1
            rw [show (cc σ (12 * t + x) 5).toNat = 12 * t + x' by omega]
            omega
      rw [hR false t x i e (-1) (-1) ht hx sp (Or.inl (by omega))]
      exact VV_l (σ 18) hF hL ht hx sp.vs (by show _ < cc σ (12 * t + x) 9; omega)
    · obtain ⟨x', z1, z2, z3⟩ : ∃ x', x < x' ∧ x' < sz t ∧ cc σ (12 * t + x) 5 = ((12 * t + x' : Nat) : Int) := by
        rcases g5 with z | z
        · exact absurd z q5
        · exact z
      have xn : (cc σ (12 * t + x) 5).toNat = 12 * t + x' := by omega
      rw [xn] at e3 g7 g8 m6 ⊢
      rw [if_neg q5] at m6
      have q70 : cc σ (12 * t + x') 7 = 0 := by
        rcases (hF.1 t x' ht z2).2.2.1 with w | w
        · exact w
        · rcases qj with u | u
          · have := g8 u q5; omega
          · have := g7.mpr (Or.inr ⟨q5, w⟩)
            rcases v7.2.2 with v | v <;> omega
      have sp : Vt (flg (cc σ) true (12 * t + x')) e (-1) (-1) l n := ⟨e2, hv.2.1, Or.inl ⟨q70, rfl, rfl⟩⟩
      rw [hR true t x' e l (-1) (-1) ht z2 sp (Or.inl (by omega))]
      exact VV_l (σ 18) hF hL ht z2 sp.vs (by show _ < cc σ (12 * t + x') 10; omega)
  have hr : ∀ (o' : Bool) (t' x' i' l' : Nat) (j' k' : Int), t' < N → x' < sz t' → Vs (flg (cc σ) o' (12 * t' + x')) i' j' k' l' n → Rdy hw wo true t x ((l : Int) - i - (k - j)) o' t' x' ((l' : Int) - i' - (k' - j')) → eT σ (VV (cc σ) N (σ 18)) o' (12 * t' + x') i' j' k' l' = VV (cc σ) N (σ 18) o' (12 * t' + x') i' j' k' l' := by
    intro o' t' x' i' l' j' k' a b v r
    unfold eT
    by_cases jk : j' = -1 ∨ j' < k'
    · rw [if_pos jk]
      have v' : Vt (flg (cc σ) o' (12 * t' + x')) i' j' k' l' n := ⟨v.1, v.2.1, by rcases v.2.2 with z | z; exact Or.inl z; exact Or.inr ⟨z.1, z.2.1, by omega, z.2.2.2⟩⟩
      refine hR o' t' x' i' l' j' k' a b v' ?_
      rw [hy] at r
      by_cases e : (l' : Int) - i' - (k' - j') < (y : Int)
      · exact Or.inl e
      · have e2 : (l' : Int) - i' - (k' - j') = (y : Int) := by
          rcases r with z | z
          · exact absurd z e
          · exact z.1
        rw [e2] at r
        exact Or.inr ⟨e2, hS o' t' x' a b r⟩
    · rw [if_neg jk]
  rw [e]
  exact rhs_K (σ 18) hF ht hx hv.vs hr (fun o' t' x' i' l' j' k' a b v r w y' => ⟨(hr o' t' x' i' l' j' k' a b v r).trans (VV_z (σ 18) hF a b v w y'), VV_z (σ 18) hF a b v w y'⟩)
theorem lay_nd {σ : St} {N n y b t x i l : Nat} {sz : Nat → Nat} {hw wo : Nat → Prop} {j k : Int} {S : Bool → Nat → Nat → Prop} (hn : n ≤ 8) (hB : CB σ) (hF : CF (cc σ) N sz hw wo) (hL : CL (cc σ) N sz hw wo) (hAX : AX (cc σ) N σ) (ht : t < N) (hx : x < sz t) (hv : Vt (flg (cc σ) false (12 * t + x)) i j k l n) (hy : (l : Int) - i - (k - j) = (y : Int)) (hly : cc σ (12 * t + x) 9 ≤ (y : Int)) (hI : IA (cc σ) N n b 0 (VV (cc σ) N (σ 18)) σ) (hb : b = y + 1 ∨ (b = y ∧ wd hw wo false (12 * t + x))) (hR : RT (cc σ) N sz n (VV (cc σ) N (σ 18)) σ y S) (hS : ∀ o' t' x', t' < N → x' < sz t' → Rdy hw wo false t x (y : Int) o' t' x' (y : Int) → S o' t' x') : ndC σ (12 * t + x) i j k l = VV (cc σ) N (σ 18) false (12 * t + x) i j k l := by
  rw [VV_eq (σ 18) hF hn ht hx hv.vs]
  obtain ⟨g1, g2, g3, g4, g5, g6, g7, g8, g9, g10, g11⟩ := hF.1 t x ht hx
  obtain ⟨m1, m2, m3, m4, m5, m6, m7, m8, m9, m10, m11⟩ := hL t x ht hx
  have v6 : Vt (cc σ (12 * t + x) 6) i j k l n := hv
  rw [ndC_rhs (n := n) hB (fun o r i j k l => (VV_r (cc σ) N (σ 18) o r i j k l).1) hI hAX ⟨g11.1, g11.2.2⟩ g1 ⟨m1.1, fun z _ => m7 z⟩ v6 (fun k0 p q p1 p2 p3 p4 p5 => ?_)]
  · have hr : ∀ (o' : Bool) (t' x' i' l' : Nat) (j' k' : Int), t' < N → x' < sz t' → Vs (flg (cc σ) o' (12 * t' + x')) i' j' k' l' n → Rdy hw wo false t x ((l : Int) - i - (k - j)) o' t' x' ((l' : Int) - i' - (k' - j')) → TG σ (VV (cc σ) N (σ 18)) b 0 o' (12 * t' + x') i' j' k' l' = VV (cc σ) N (σ 18) o' (12 * t' + x') i' j' k' l' := by
      intro o' t' x' i' l' j' k' a b' v r
      have s12 := (hF.2 t' a).2.1
      rw [hy] at r
      unfold TG
      by_cases q : o' = true ∨ (12 * t' + x') % 12 ≠ 0
      · rw [if_pos q]
        unfold eT
        by_cases jk : j' = -1 ∨ j' < k'
        · rw [if_pos jk]
          have v' : Vt (flg (cc σ) o' (12 * t' + x')) i' j' k' l' n := ⟨v.1, v.2.1, by rcases v.2.2 with z | z; exact Or.inl z; exact Or.inr ⟨z.1, z.2.1, by omega, z.2.2.2⟩⟩
          refine hR o' t' x' i' l' j' k' a b' v' ?_
          by_cases e : (l' : Int) - i' - (k' - j') < (y : Int)
          · exact Or.inl e
          · have e2 : (l' : Int) - i' - (k' - j') = (y : Int) := by
              rcases r with z | z
              · exact absurd z e
              · exact z.1
            rw [e2] at r
            exact Or.inr ⟨e2, hS o' t' x' a b' r⟩
        · rw [if_neg jk]
      · rw [if_neg q]
        have q1 : ¬ o' = true := fun z => q (Or.inl z)
        have q2 : x' = 0 := by
          have : ¬ (12 * t' + x') % 12 ≠ 0 := fun z => q (Or.inr z)
          omega
        unfold Mk
        have : (l' : Int) - i' - (k' - j') < (b : Int) := by
          rcases r with z | ⟨z, z' | z'⟩
          · rcases hb with w | w <;> omega
          · rcases hb with w | w
            · omega
            · exact absurd w.2 z'.1
          · rcases hb with w | w
            · omega
            · rcases z'.2.2 with u | u
              · omega
              · exact absurd u.2.2 (by decide)
        rw [if_pos (Or.inl this)]
    exact rhs_K (σ 18) hF ht hx hv.vs hr (fun o' t' x' i' l' j' k' a b v r w y' => ⟨(hr o' t' x' i' l' j' k' a b v r).trans (VV_z (σ 18) hF a b v w y'), VV_z (σ 18) hF a b v w y'⟩)
  · have hx1 := g4 k0
    have e9 : cc σ (12 * t + x) 9 = cc σ (12 * t + (x + 1)) 10 := m5.2.2.2 k0
    have sp : Vt (flg (cc σ) true (12 * t + (x + 1))) p j k q n := by
      refine ⟨p2, by have := hv.2.1; omega, ?_⟩
      show (cc σ (12 * t + (x + 1)) 7 = 0 ∧ _) ∨ (cc σ (12 * t + (x + 1)) 7 = 1 ∧ _)
      have g3' := (hF.1 t (x + 1) ht hx1).2.2.1
      rcases v6.2.2 with z | z
      · left
        refine ⟨?_, z.2⟩
        rcases g3' with w | w
        · exact w
        · have := g6.mpr (Or.inr ⟨k0, w⟩); omega
      · right
        refine ⟨?_, by rcases p4 with w | w <;> omega⟩
        rcases g6.mp z.1 with w | w
        · omega
        · exact w.2
    have := hR true t (x + 1) p q j k ht hx1 sp (Or.inl (by omega))
    show cT σ true (12 * t + (x + 1)) p j k q = 0
    rw [this]
    exact VV_l (σ 18) hF hL ht hx1 sp.vs (by show _ < cc σ (12 * t + (x + 1)) 10; omega)
