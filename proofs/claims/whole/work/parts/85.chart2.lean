/-! pure: the counts exist -/
theorem rhs_0 {c : Nat → Nat → Int} {N : Nat} {sd : Nat → Int} {o : Bool} {r i l : Nat} {j k : Int} (h2 : o = false → c r 0 ≠ 2) (h3 : o = false → c r 0 = 3 → l ≠ i + 1) : rhs c N sd (fun _ _ _ _ _ _ => 0) o r i j k l = 0 := by
  have c0 : cap 0 = 0 := by unfold cap; rfl
  unfold rhs
  cases o with
  | true =>
    simp only [if_true]
    unfold rOn
    split
    · rfl
    · rw [sm_0 _ (fun d hd => by unfold spl; simp), c0]
  | false =>
    simp only [Bool.false_eq_true, if_false]
    unfold rLie
    split
    · rename_i q
      rw [if_neg (fun z => h3 rfl q z.1)]
    · split
      · rename_i q; exact absurd q (h2 rfl)
      · split
        · unfold ini; rw [sm_0 _ (fun t ht => by split <;> rfl), c0]
        · unfold rIn axs
          rw [sm_0 (f := fun dp => sm _ _) _ (fun dp hdp => sm_0 _ (fun dq hdq => by rw [Int.mul_zero]))]
          have : ((if c r 4 = 1 then (0 : Int) else 0) + (if c r 4 = 2 then 0 else 0)) = 0 := by split <;> split <;> rfl
          rw [this, c0]
theorem rhs_Z {c : Nat → Nat → Int} {N n : Nat} {sz : Nat → Nat} {hw wo : Nat → Prop} (sd : Nat → Int) (hF : CF c N sz hw wo) {T : Tb} {o : Bool} {t x i l : Nat} {j k : Int} (ht : t < N) (hx : x < sz t) (hv : Vs (flg c o (12 * t + x)) i j k l n) (hwd : wd hw wo o (12 * t + x)) (hy : (l : Int) - i - (k - j) = 0)
    (hz : ∀ (o' : Bool) (t' x' i' l' : Nat) (j' k' : Int), t' < N → x' < sz t' → Vs (flg c o' (12 * t' + x')) i' j' k' l' n → Rdy hw wo o t x ((l : Int) - i - (k - j)) o' t' x' ((l' : Int) - i' - (k' - j')) → wd hw wo o' (12 * t' + x') → (l' : Int) - i' - (k' - j') = 0 → T o' (12 * t' + x') i' j' k' l' = 0) :
    rhs c N sd T o (12 * t + x) i j k l = 0 := by
  have hc := (hF.1 t x ht hx)
  have key := rhs_K sd hF (T := T) (T' := fun _ _ _ _ _ _ => 0) ht hx hv (fun o' t' x' i' l' j' k' a b v r => ?_) (fun o' t' x' i' l' j' k' a b v r w y => ⟨hz o' t' x' i' l' j' k' a b v r w y, rfl⟩)
  · rw [key]
    refine rhs_0 (fun e q => ?_) (fun e q z => ?_)
    · subst e
      have : hw (12 * t + x) := by unfold wd at hwd; simpa using hwd
      rcases hc.2.2.2.2.2.2.2.2.1.mp this with w | w <;> omega
    · subst e
      have h6 : c (12 * t + x) 6 = 0 := by
        rcases hc.2.1 with w | w
        · exact w
        · rcases hc.2.2.2.2.2.1.mp w with v | v <;> omega
      rcases hv.2.2 with w | w
      · omega
      · have : c (12 * t + x) 6 = 1 := w.1
        omega
  · have y0 : 0 ≤ (l' : Int) - i' - (k' - j') := by have := v.1; rcases v.2.2 with z | z <;> omega
    refine hz o' t' x' i' l' j' k' a b v r ?_ ?_
    · rcases r with q | ⟨_, q | q⟩
      · omega
      · exact absurd hwd q.1
      · exact q.1.mpr hwd
    · rcases r with q | ⟨q, _⟩ <;> omega
theorem rhs_r {c : Nat → Nat → Int} {N : Nat} {sd : Nat → Int} {T : Tb} (h : ∀ o r i j k l, 0 ≤ T o r i j k l ∧ T o r i j k l ≤ 1000000000) : ∀ o r i j k l, 0 ≤ rhs c N sd T o r i j k l ∧ rhs c N sd T o r i j k l ≤ 1000000000 := by
  intro o r i j k l
  unfold rhs
  cases o with
  | true =>
    simp only [if_true]
    unfold rOn
    split
    · exact h _ _ _ _ _ _
    · refine cap_r (sm_p _ (fun d hd => ?_))
      unfold spl
      repeat' split
      all_goals first | exact Int.mul_nonneg (h _ _ _ _ _ _).1 (h _ _ _ _ _ _).1 | exact Int.le_refl 0
  | false =>
    simp only [Bool.false_eq_true, if_false]
    unfold rLie
    split
    · split <;> omega
    · split
      · split <;> omega
      · split
        · refine cap_r (sm_p _ (fun t ht => ?_))
          split
          · exact (h _ _ _ _ _ _).1
          · exact Int.le_refl 0
        · refine cap_r ?_
          unfold rIn axs
          have h1 : 0 ≤ (if c r 4 = 1 then 0 else T true (r + 1) i j k l) := by
            split
            · exact Int.le_refl 0
            · exact (h _ _ _ _ _ _).1
          have h2 : ∀ z : Int, 0 ≤ z → 0 ≤ (if c r 4 = 2 then 0 else z) := fun z hz => by
            split
            · exact Int.le_refl 0
            · exact hz
          have h3 := h2 _ (sm_p (f := fun dp => sm (fun dq => aux c N T (c r 1) i (i + dp) (fstQ j k (i + dp) + dq) l * T true (r + 1) (i + dp) j k (fstQ j k (i + dp) + dq)) (l + 1 - fstQ j k (i + dp))) (lastP j l + 1 - i) (fun dp hdp => sm_p _ (fun dq hdq => Int.mul_nonneg (sm_p _ (fun t ht => by
            split
            · exact (h _ _ _ _ _ _).1
            · exact Int.le_refl 0)) (h _ _ _ _ _ _).1)))
          omega
def Vf (c : Nat → Nat → Int) (N : Nat) (sd : Nat → Int) : Nat → Tb
  | 0 => fun _ _ _ _ _ _ => 0
  | f + 1 => rhs c N sd (Vf c N sd f)
theorem Vf_r (c : Nat → Nat → Int) (N : Nat) (sd : Nat → Int) : ∀ f o r i j k l, 0 ≤ Vf c N sd f o r i j k l ∧ Vf c N sd f o r i j k l ≤ 1000000000 := by
  intro f
  induction f with
  | zero => intro o r i j k l; exact ⟨Int.le_refl 0, by show (0 : Int) ≤ 1000000000; decide⟩
  | succ f ih => exact rhs_r ih
theorem Vf_z {c : Nat → Nat → Int} {N n : Nat} {sz : Nat → Nat} {hw wo : Nat → Prop} (sd : Nat → Int) (hF : CF c N sz hw wo) : ∀ (f : Nat) (o : Bool) (t x i l : Nat) (j k : Int), t < N → x < sz t → Vs (flg c o (12 * t + x)) i j k l n → wd hw wo o (12 * t + x) → (l : Int) - i - (k - j) = 0 → Vf c N sd f o (12 * t + x) i j k l = 0 := by
  intro f
  induction f with
  | zero => intro o t x i l j k _ _ _ _ _; rfl
  | succ f ih => intro o t x i l j k ht hx hv hwd hy; exact rhs_Z sd hF ht hx hv hwd hy (fun o' t' x' i' l' j' k' a b v _ w y => ih o' t' x' i' l' j' k' a b v w y)
noncomputable def mu (hw wo : Nat → Prop) (o : Bool) (r x : Nat) (y : Int) : Nat := (2 * y.toNat + (bI (¬ wd hw wo o r)).toNat) * 100 + 2 * (12 - x) + (if o then 1 else 0)
theorem mu_lt {hw wo : Nat → Prop} {o o' : Bool} {t x t' x' : Nat} {y y' : Int} (hy' : 0 ≤ y') (hx' : x' < 12) (h : Rdy hw wo o t x y o' t' x' y') : mu hw wo o' (12 * t' + x') x' y' < mu hw wo o (12 * t + x) x y := by
  unfold mu
  have b1 := bI_01 (¬ wd hw wo o' (12 * t' + x'))
  have b2 := bI_01 (¬ wd hw wo o (12 * t + x))
  have c1 : (if o' = true then 1 else 0) ≤ 1 := by split <;> omega
  rcases h with q | ⟨q, q' | ⟨q1, q2, q3⟩⟩
  · generalize bI (¬ wd hw wo o' (12 * t' + x')) = u at *
    generalize bI (¬ wd hw wo o (12 * t + x)) = v at *
    generalize (if o' = true then 1 else 0) = w at *
    omega
  · rw [bI_t q'.1, bI_f (fun z => z q'.2)]
    generalize (if o' = true then 1 else 0) = w at *
    omega
  · have : bI (¬ wd hw wo o' (12 * t' + x')) = bI (¬ wd hw wo o (12 * t + x)) := bI_congr (not_congr q1)
    rw [this]
    generalize bI (¬ wd hw wo o (12 * t + x)) = v at *
    rcases q3 with z | ⟨z1, z2, z3⟩
    · generalize (if o' = true then 1 else 0) = w at *
      omega
    · rw [z2, z3, z1]
      simp
      omega
theorem Vf_st {c : Nat → Nat → Int} {N n : Nat} {sz : Nat → Nat} {hw wo : Nat → Prop} (sd : Nat → Int) (hF : CF c N sz hw wo) : ∀ (m f : Nat) (o : Bool) (t x i l : Nat) (j k : Int), t < N → x < sz t → Vs (flg c o (12 * t + x)) i j k l n → mu hw wo o (12 * t + x) x ((l : Int) - i - (k - j)) < m → m ≤ f → Vf c N sd f o (12 * t + x) i j k l = Vf c N sd (f + 1) o (12 * t + x) i j k l := by
  intro m
  induction m with
  | zero => intro f o t x i l j k _ _ _ h; omega
  | succ m ih =>
    intro f o t x i l j k ht hx hv hm hf
    obtain ⟨f', rfl⟩ : ∃ f', f = f' + 1 := ⟨f - 1, by omega⟩
    refine rhs_K sd hF ht hx hv (fun o' t' x' i' l' j' k' a b v r => ?_) (fun o' t' x' i' l' j' k' a b v r w y => ⟨Vf_z sd hF f' o' t' x' i' l' j' k' a b v w y, Vf_z sd hF (f' + 1) o' t' x' i' l' j' k' a b v w y⟩)
    have y0 : 0 ≤ (l' : Int) - i' - (k' - j') := by have := v.1; rcases v.2.2 with z | z <;> omega
    have := mu_lt y0 (by have := (hF.2 t' a).2.1; omega) r
    exact ih f' o' t' x' i' l' j' k' a b v (by omega) (by omega)
def VV (c : Nat → Nat → Int) (N : Nat) (sd : Nat → Int) : Tb := Vf c N sd 2000
theorem VV_r (c : Nat → Nat → Int) (N : Nat) (sd : Nat → Int) (o r i j k l) : 0 ≤ VV c N sd o r i j k l ∧ VV c N sd o r i j k l ≤ 1000000000 := Vf_r c N sd 2000 o r i j k l
theorem VV_z {c : Nat → Nat → Int} {N n : Nat} {sz : Nat → Nat} {hw wo : Nat → Prop} (sd : Nat → Int) (hF : CF c N sz hw wo) {o : Bool} {t x i l : Nat} {j k : Int} (ht : t < N) (hx : x < sz t) (hv : Vs (flg c o (12 * t + x)) i j k l n) (hwd : wd hw wo o (12 * t + x)) (hy : (l : Int) - i - (k - j) = 0) : VV c N sd o (12 * t + x) i j k l = 0 := Vf_z sd hF 2000 o t x i l j k ht hx hv hwd hy
theorem VV_eq {c : Nat → Nat → Int} {N n : Nat} {sz : Nat → Nat} {hw wo : Nat → Prop} (sd : Nat → Int) (hF : CF c N sz hw wo) (hn : n ≤ 8) {o : Bool} {t x i l : Nat} {j k : Int} (ht : t < N) (hx : x < sz t) (hv : Vs (flg c o (12 * t + x)) i j k l n) : VV c N sd o (12 * t + x) i j k l = rhs c N sd (VV c N sd) o (12 * t + x) i j k l := by
  refine Vf_st (n := n) sd hF 1999 2000 o t x i l j k ht hx hv ?_ (by omega)
  have y8 : (l : Int) - i - (k - j) ≤ 8 := by have a1 := hv.1; have a2 := hv.2.1; rcases hv.2.2 with z | z <;> omega
  unfold mu
  have b2 := bI_01 (¬ wd hw wo o (12 * t + x))
  have c1 : (if o = true then 1 else 0) ≤ 1 := by split <;> omega
  generalize bI (¬ wd hw wo o (12 * t + x)) = v at *
  generalize (if o = true then 1 else 0) = w at *
  omega
