/-! pure: what the class lays is right -/
def CE (x y : Int) : Prop := 0 ≤ x ∧ 0 ≤ y ∧ ∀ a, 0 ≤ a → cap (a + x) = cap (a + y)
theorem CE_refl {x : Int} (h : 0 ≤ x) : CE x x := ⟨h, h, fun _ _ => rfl⟩
theorem CE_cap {x y : Int} (h : CE x y) : cap x = cap y := by have := h.2.2 0 (Int.le_refl 0); rw [Int.zero_add, Int.zero_add] at this; exact this
theorem CE_add {x y x' y' : Int} (h : CE x y) (h' : CE x' y') : CE (x + x') (y + y') := by
  refine ⟨by have := h.1; have := h'.1; omega, by have := h.2.1; have := h'.2.1; omega, fun a ha => ?_⟩
  have e1 : a + (x + x') = (a + x) + x' := by omega
  have e2 : (a + x) + y' = (a + y') + x := by omega
  have e3 : (a + y') + y = a + (y + y') := by omega
  rw [e1, h'.2.2 (a + x) (by have := h.1; omega), e2, h.2.2 (a + y') (by have := h'.2.1; omega), e3]
theorem CE_sm {f g : Nat → Int} : ∀ n, (∀ d, d < n → CE (f d) (g d)) → CE (sm f n) (sm g n) := by
  intro n
  induction n with
  | zero => intro _; exact CE_refl (Int.le_refl 0)
  | succ n ih => intro h; exact CE_add (ih (fun d hd => h d (by omega))) (h n (by omega))
theorem CE_mul {x b : Int} (hx : 0 ≤ x) (hb : 0 ≤ b) : CE (cap x * b) (x * b) := ⟨Int.mul_nonneg (cap_r hx).1 hb, Int.mul_nonneg hx hb, fun _ ha => cap_mul ha hx hb⟩
/-- the counts of the trees that have been added -/
def Mk (y t : Nat) (V : Tb) : Tb := fun o r i j k l => if (l : Int) - i - (k - j) < (y : Int) ∨ ((l : Int) - i - (k - j) = (y : Int) ∧ r < 12 * t) then V o r i j k l else 0
def IA (c : Nat → Nat → Int) (N n y t : Nat) (V : Tb) (σ : St) : Prop :=
  (∀ (nm : Int) (i l : Nat), 0 ≤ nm → nm < 16 → i ≤ l → l ≤ n → cI σ nm i l = cap (ini c N (Mk y t V) nm i l)) ∧
  (∀ (nm : Int) (i p q l : Nat), 0 ≤ nm → nm < 16 → i ≤ p → p ≤ q → q ≤ l → l ≤ n → cA σ nm i p q l = cap (aux c N (Mk y t V) nm i p q l))
def RT (c : Nat → Nat → Int) (N : Nat) (sz : Nat → Nat) (n : Nat) (V : Tb) (σ : St) (y : Nat) (S : Bool → Nat → Nat → Prop) : Prop := ∀ (o : Bool) (t x i l : Nat) (j k : Int), t < N → x < sz t → Vs (flg c o (12 * t + x)) i j k l n → ((l : Int) - i - (k - j) < (y : Int) ∨ ((l : Int) - i - (k - j) = (y : Int) ∧ S o t x)) → cT σ o (12 * t + x) i j k l = V o (12 * t + x) i j k l
theorem Mk_r {y t : Nat} {V : Tb} (h : ∀ o r i j k l, 0 ≤ V o r i j k l) (o r i j k l) : 0 ≤ Mk y t V o r i j k l := by
  unfold Mk; split
  · exact h _ _ _ _ _ _
  · exact Int.le_refl 0
def TG (σ : St) (V : Tb) (y t : Nat) : Tb := fun o r i j k l => if o = true ∨ r % 12 ≠ 0 then cT σ o r i j k l else Mk y t V o r i j k l
theorem ini_p {c : Nat → Nat → Int} {N : Nat} {T : Tb} (h : ∀ o r i j k l, 0 ≤ T o r i j k l) (nm i l) : 0 ≤ ini c N T nm i l := sm_p _ (fun t _ => by split; exact h _ _ _ _ _ _; exact Int.le_refl 0)
theorem aux_p {c : Nat → Nat → Int} {N : Nat} {T : Tb} (h : ∀ o r i j k l, 0 ≤ T o r i j k l) (nm i p q l) : 0 ≤ aux c N T nm i p q l := sm_p _ (fun t _ => by split; exact h _ _ _ _ _ _; exact Int.le_refl 0)
theorem TG_ini {σ : St} {c : Nat → Nat → Int} {N y t : Nat} {V : Tb} (nm : Int) (i l : Nat) : ini c N (TG σ V y t) nm i l = ini c N (Mk y t V) nm i l := by
  refine sm_c _ (fun t' _ => ?_)
  have : TG σ V y t false (12 * t') i (-1) (-1) l = Mk y t V false (12 * t') i (-1) (-1) l := by unfold TG; rw [if_neg (fun z => z.elim (fun w => absurd w (by decide)) (fun w => w (by omega)))]
  rw [this]
theorem TG_aux {σ : St} {c : Nat → Nat → Int} {N y t : Nat} {V : Tb} (nm : Int) (i p q l : Nat) : aux c N (TG σ V y t) nm i p q l = aux c N (Mk y t V) nm i p q l := by
  refine sm_c _ (fun t' _ => ?_)
  have : TG σ V y t false (12 * t') i (p : Int) (q : Int) l = Mk y t V false (12 * t') i (p : Int) (q : Int) l := by unfold TG; rw [if_neg (fun z => z.elim (fun w => absurd w (by decide)) (fun w => w (by omega)))]
  rw [this]
theorem TG_true {σ : St} {y t : Nat} {V : Tb} (r i : Nat) (j k : Int) (l : Nat) : TG σ V y t true r i j k l = cT σ true r i j k l := by unfold TG; rw [if_pos (Or.inl rfl)]
/-- the class's cell is the count over what lies in the tables -/
theorem ndC_rhs {σ : St} {V : Tb} {N n y t' r i l : Nat} {g j k : Int} (hB : CB σ) (hVr : ∀ o r i j k l, 0 ≤ V o r i j k l) (hIA : IA (cc σ) N n y t' V σ) (hnm : 0 ≤ cc σ r 1 ∧ (cc σ r 0 ≠ 3 → cc σ r 1 < 16)) (hv : Vs g i j k l n) : ndC σ r i j k l = rhs (cc σ) N (σ 18) (TG σ V y t') false r i j k l := by
  have hM := Mk_r (y := y) (t := t') hVr
  obtain ⟨v1, v2, v3⟩ := hv
  unfold rhs
  simp only [Bool.false_eq_true, if_false]
  unfold ndC rLie
  by_cases k3 : cc σ r 0 = 3
  · rw [if_pos k3, if_pos k3]
  rw [if_neg k3, if_neg k3]
  have h16 := hnm.2 k3
  by_cases k2 : cc σ r 0 = 2
  · rw [if_pos k2, if_pos k2]
  rw [if_neg k2, if_neg k2]
  by_cases k1 : cc σ r 0 = 1
  · rw [if_pos k1, if_pos k1, TG_ini]
    exact hIA.1 _ _ _ hnm.1 h16 v1 v2
  rw [if_neg k1, if_neg k1]
  refine CE_cap ?_
  unfold inC rIn
  refine CE_add ?_ ?_
  · split
    · exact CE_refl (Int.le_refl 0)
    · rw [TG_true]; exact CE_refl (CB_T hB _ _ _ _ _ _).1
  · split
    · exact CE_refl (Int.le_refl 0)
    · unfold inS axs
      refine CE_sm _ (fun dp hdp => CE_sm _ (fun dq hdq => ?_))
      have hpq : i + dp ≤ fstQ j k (i + dp) + dq ∧ fstQ j k (i + dp) + dq ≤ l := by
        unfold lastP at hdp
        unfold fstQ at hdq ⊢
        rcases v3 with z | z
        · rw [if_pos z.2.1] at hdp hdq ⊢; omega
        · rw [if_neg (by omega)] at hdp hdq ⊢; omega
      unfold inA
      rw [TG_true, TG_aux, hIA.2 _ _ _ _ _ hnm.1 h16 (by omega) hpq.1 hpq.2 v2]
      exact CE_mul (aux_p hM _ _ _ _ _) (CB_T hB _ _ _ _ _ _).1
/-- the trees, as the chart wants them -/
def FC (σ : St) (N : Nat) (sz : Nat → Nat) (hw wo : Nat → Prop) : Prop := CF (cc σ) N sz hw wo ∧ (∀ t x, t < N → x < sz t → 0 ≤ cc σ (12 * t + x) 4 ∧ cc σ (12 * t + x) 4 ≤ 2)
theorem lay_on {σ : St} {N n y t x i l : Nat} {sz : Nat → Nat} {hw wo : Nat → Prop} {j k : Int} {S : Bool → Nat → Nat → Prop} (hn : n ≤ 8) (hF : CF (cc σ) N sz hw wo) (ht : t < N) (hx : x < sz t) (hv : Vs (flg (cc σ) true (12 * t + x)) i j k l n) (hy : (l : Int) - i - (k - j) = (y : Int)) (hR : RT (cc σ) N sz n (VV (cc σ) N (σ 18)) σ y S) (hS : ∀ o' t' x', t' < N → x' < sz t' → Rdy hw wo true t x (y : Int) o' t' x' (y : Int) → S o' t' x') : rOn (cc σ) (cT σ) (12 * t + x) i j k l = VV (cc σ) N (σ 18) true (12 * t + x) i j k l := by
  rw [VV_eq (σ 18) hF hn ht hx hv]
  have e : rOn (cc σ) (cT σ) (12 * t + x) i j k l = rhs (cc σ) N (σ 18) (cT σ) true (12 * t + x) i j k l := by unfold rhs; rw [if_pos rfl]
  have hr : ∀ (o' : Bool) (t' x' i' l' : Nat) (j' k' : Int), t' < N → x' < sz t' → Vs (flg (cc σ) o' (12 * t' + x')) i' j' k' l' n → Rdy hw wo true t x ((l : Int) - i - (k - j)) o' t' x' ((l' : Int) - i' - (k' - j')) → cT σ o' (12 * t' + x') i' j' k' l' = VV (cc σ) N (σ 18) o' (12 * t' + x') i' j' k' l' := by
    intro o' t' x' i' l' j' k' a b v r
    refine hR o' t' x' i' l' j' k' a b v ?_
    rw [hy] at r
    by_cases e : (l' : Int) - i' - (k' - j') < (y : Int)
    · exact Or.inl e
    · have e2 : (l' : Int) - i' - (k' - j') = (y : Int) := by
        rcases r with z | z
        · exact absurd z e
        · exact z.1
      rw [e2] at r
      exact Or.inr ⟨e2, hS o' t' x' a b r⟩
  rw [e]
  exact rhs_K (σ 18) hF ht hx hv hr (fun o' t' x' i' l' j' k' a b v r w y' => ⟨(hr o' t' x' i' l' j' k' a b v r).trans (VV_z (σ 18) hF a b v w y'), VV_z (σ 18) hF a b v w y'⟩)
theorem lay_nd {σ : St} {N n y b t x i l : Nat} {sz : Nat → Nat} {hw wo : Nat → Prop} {j k : Int} {S : Bool → Nat → Nat → Prop} (hn : n ≤ 8) (hB : CB σ) (hF : CF (cc σ) N sz hw wo) (ht : t < N) (hx : x < sz t) (hv : Vs (flg (cc σ) false (12 * t + x)) i j k l n) (hy : (l : Int) - i - (k - j) = (y : Int)) (hI : IA (cc σ) N n b 0 (VV (cc σ) N (σ 18)) σ) (hb : b = y + 1 ∨ (b = y ∧ wd hw wo false (12 * t + x))) (hR : RT (cc σ) N sz n (VV (cc σ) N (σ 18)) σ y S) (hS : ∀ o' t' x', t' < N → x' < sz t' → Rdy hw wo false t x (y : Int) o' t' x' (y : Int) → S o' t' x') : ndC σ (12 * t + x) i j k l = VV (cc σ) N (σ 18) false (12 * t + x) i j k l := by
  rw [VV_eq (σ 18) hF hn ht hx hv]
  have g11 := (hF.1 t x ht hx).2.2.2.2.2.2.2.2.2.2
  rw [ndC_rhs hB (fun o r i j k l => (VV_r (cc σ) N (σ 18) o r i j k l).1) hI ⟨g11.1, g11.2.2⟩ hv]
  have hr : ∀ (o' : Bool) (t' x' i' l' : Nat) (j' k' : Int), t' < N → x' < sz t' → Vs (flg (cc σ) o' (12 * t' + x')) i' j' k' l' n → Rdy hw wo false t x ((l : Int) - i - (k - j)) o' t' x' ((l' : Int) - i' - (k' - j')) → TG σ (VV (cc σ) N (σ 18)) b 0 o' (12 * t' + x') i' j' k' l' = VV (cc σ) N (σ 18) o' (12 * t' + x') i' j' k' l' := by
    intro o' t' x' i' l' j' k' a b' v r
    have s12 := (hF.2 t' a).2.1
    rw [hy] at r
    unfold TG
    by_cases q : o' = true ∨ (12 * t' + x') % 12 ≠ 0
    · rw [if_pos q]
      refine hR o' t' x' i' l' j' k' a b' v ?_
      by_cases e : (l' : Int) - i' - (k' - j') < (y : Int)
      · exact Or.inl e
      · have e2 : (l' : Int) - i' - (k' - j') = (y : Int) := by
          rcases r with z | z
          · exact absurd z e
          · exact z.1
        rw [e2] at r
        exact Or.inr ⟨e2, hS o' t' x' a b' r⟩
    · rw [if_neg q]
      have q1 : ¬ o' = true := fun z => q (Or.inl z)
      have q2 : x' = 0 := by
        have : ¬ (12 * t' + x') % 12 ≠ 0 := fun z => q (Or.inr z)
        omega
      unfold Mk
      have : (l' : Int) - i' - (k' - j') < (b : Int) := by
        rcases r with z | ⟨z, z' | z'⟩
        · rcases hb with w | w <;> omega
        · rcases hb with w | w
          · omega
          · exact absurd w.2 z'.1
        · rcases hb with w | w
          · omega
          · rcases z'.2.2 with u | u
            · omega
            · exact absurd u.2.2 (by decide)
      rw [if_pos (Or.inl this)]
  exact rhs_K (σ 18) hF ht hx hv hr (fun o' t' x' i' l' j' k' a b v r w y' => ⟨(hr o' t' x' i' l' j' k' a b v r).trans (VV_z (σ 18) hF a b v w y'), VV_z (σ 18) hF a b v w y'⟩)
