/-! pure: no node covers less than its least -/
def lst (c : Nat → Nat → Int) (o : Bool) (r : Nat) : Int := if o then c r 10 else c r 9
/-- what the chart needs to know of the sums -/
def CL (c : Nat → Nat → Int) (N : Nat) (sz : Nat → Nat) (hw wo : Nat → Prop) : Prop :=
  ∀ t x, t < N → x < sz t → (0 ≤ c (12 * t + x) 9 ∧ c (12 * t + x) 9 ≤ 5000) ∧ (0 ≤ c (12 * t + x) 10 ∧ c (12 * t + x) 10 ≤ 5000) ∧ (0 ≤ c (12 * t + x) 8 ∧ c (12 * t + x) 8 ≤ 5000) ∧ (0 ≤ c (12 * t + x) 11 ∧ c (12 * t + x) 11 ≤ 5000) ∧
    ((c (12 * t + x) 0 = 3 → c (12 * t + x) 9 = 1) ∧ (c (12 * t + x) 0 = 2 → c (12 * t + x) 9 = 0) ∧ (c (12 * t + x) 0 = 1 → c (12 * t + x) 9 = 1) ∧ (c (12 * t + x) 0 = 0 → c (12 * t + x) 9 = c (12 * t + x + 1) 10)) ∧
    c (12 * t + x) 10 = c (12 * t + x) 9 + (if c (12 * t + x) 5 = -1 then 0 else c (c (12 * t + x) 5).toNat 10) ∧
    (c (12 * t + x) 6 = 0 → 1 ≤ c (12 * t + x) 9) ∧ (c (12 * t + x) 7 = 0 → 1 ≤ c (12 * t + x) 10) ∧
    (hw (12 * t + x) ↔ c (12 * t + x) 8 ≠ 0) ∧ (wo (12 * t + x) ↔ c (12 * t + x) 11 ≠ 0) ∧ (hw (12 * t + x) → 1 ≤ c (12 * t + x) 9)
theorem cap_0 : cap 0 = 0 := by unfold cap; rfl
theorem mul_0 {a b : Int} (h : a = 0 ∨ b = 0) : a * b = 0 := by
  rcases h with h | h
  · rw [h, Int.zero_mul]
  · rw [h, Int.mul_zero]
theorem rhs_L {c : Nat → Nat → Int} {N : Nat} {sz : Nat → Nat} {hw wo : Nat → Prop} (sd : Nat → Int) (hF : CF c N sz hw wo) (hL : CL c N sz hw wo) {T : Tb} {o : Bool} {t x i l : Nat} {j k : Int} (ht : t < N) (hx : x < sz t) (hv : flg c o (12 * t + x) = 0 → j = -1 ∧ k = -1) (hy : (l : Int) - i - (k - j) < lst c o (12 * t + x))
    (hz : ∀ (o' : Bool) (t' x' i' l' : Nat) (j' k' : Int), t' < N → x' < sz t' → (flg c o' (12 * t' + x') = 0 → j' = -1 ∧ k' = -1) → (l' : Int) - i' - (k' - j') < lst c o' (12 * t' + x') → T o' (12 * t' + x') i' j' k' l' = 0) :
    rhs c N sd T o (12 * t + x) i j k l = 0 := by
  obtain ⟨hFc, hFt⟩ := hF
  obtain ⟨g1, g2, g3, g4, g5, g6, g7, g8, g9, g10, g11⟩ := hFc t x ht hx
  obtain ⟨m1, m2, m3, m4, m5, m6, m7, m8, m9, m10, m11⟩ := hL t x ht hx
  unfold rhs
  cases o with
  | true =>
    have fl : flg c true (12 * t + x) = c (12 * t + x) 7 := rfl
    have ll : lst c true (12 * t + x) = c (12 * t + x) 10 := rfl
    rw [fl] at hv
    rw [ll, m6] at hy
    simp only [if_true]
    unfold rOn
    by_cases q5 : c (12 * t + x) 5 = -1
    · rw [if_pos q5] at hy ⊢
      refine hz false t x i l j k ht hx (fun z => hv ?_) ?_
      · have z' : c (12 * t + x) 6 = 0 := z
        rcases g3 with w | w
        · exact w
        · rcases g7.mp w with u | u
          · omega
          · exact absurd q5 u.1
      · show _ < c (12 * t + x) 9
        omega
    · rw [if_neg q5] at hy ⊢
      obtain ⟨x', x1, x2, x3⟩ : ∃ x', x < x' ∧ x' < sz t ∧ c (12 * t + x) 5 = ((12 * t + x' : Nat) : Int) := by
        rcases g5 with z | z
        · exact absurd z q5
        · exact z
      have xn : (c (12 * t + x) 5).toNat = 12 * t + x' := by rw [x3]; omega
      rw [xn] at hy g7
      rw [sm_0 _ (fun d hd => ?_), cap_0]
      unfold spl
      rw [xn]
      by_cases q6 : c (12 * t + x) 6 = 1
      · rw [if_pos q6]
        split
        · apply mul_0
          by_cases e : ((i + d : Nat) : Int) - i - (k - j) < c (12 * t + x) 9
          · exact Or.inl (hz false t x i (i + d) j k ht hx (fun z => by have z' : c (12 * t + x) 6 = 0 := z; omega) e)
          · exact Or.inr (hz true t x' (i + d) l (-1) (-1) ht x2 (fun _ => ⟨rfl, rfl⟩) (by show _ < c (12 * t + x') 10; omega))
        · rfl
      · rw [if_neg q6]
        split
        · apply mul_0
          by_cases e : ((i + d : Nat) : Int) - i < c (12 * t + x) 9
          · exact Or.inl (hz false t x i (i + d) (-1) (-1) ht hx (fun _ => ⟨rfl, rfl⟩) (by show _ < c (12 * t + x) 9; omega))
          · refine Or.inr (hz true t x' (i + d) l j k ht x2 (fun z => hv ?_) (by show _ < c (12 * t + x') 10; omega))
            have z' : c (12 * t + x') 7 = 0 := z
            rcases g3 with w | w
            · exact w
            · rcases g7.mp w with u | u
              · exact absurd u q6
              · have := u.2; omega
        · rfl
  | false =>
    have fl : flg c false (12 * t + x) = c (12 * t + x) 6 := rfl
    have ll : lst c false (12 * t + x) = c (12 * t + x) 9 := rfl
    rw [fl] at hv
    rw [ll] at hy
    simp only [Bool.false_eq_true, if_false]
    have root : ∀ t', t' < N → 1 ≤ lst c false (12 * t') := fun t' ht' => (hL t' 0 ht' (hFt t' ht').1).2.2.2.2.2.2.2.2.2.2 (hFt t' ht').2.2.2
    unfold rLie
    by_cases k3 : c (12 * t + x) 0 = 3
    · rw [if_pos k3]
      have := m5.1 k3
      have h6 : c (12 * t + x) 6 = 0 := by
        rcases g2 with w | w
        · exact w
        · rcases g6.mp w with u | u <;> omega
      have := hv h6
      rw [if_neg (by omega)]
    rw [if_neg k3]
    by_cases k2 : c (12 * t + x) 0 = 2
    · rw [if_pos k2]
      have := m5.2.1 k2
      rw [if_neg (by omega)]
    rw [if_neg k2]
    by_cases k1 : c (12 * t + x) 0 = 1
    · rw [if_pos k1]
      have := m5.2.2.1 k1
      have h6 : c (12 * t + x) 6 = 0 := by
        rcases g2 with w | w
        · exact w
        · rcases g6.mp w with u | u <;> omega
      have hjk := hv h6
      unfold ini
      rw [sm_0 _ (fun t' ht' => ?_), cap_0]
      split
      · have := root t' ht'
        exact hz false t' 0 i l (-1) (-1) ht' (hFt t' ht').1 (fun _ => ⟨rfl, rfl⟩) (by show _ < lst c false (12 * t'); omega)
      · rfl
    rw [if_neg k1]
    have k0 : c (12 * t + x) 0 = 0 := by omega
    have hx1 := g4 k0
    have e9 : c (12 * t + x) 9 = c (12 * t + (x + 1)) 10 := m5.2.2.2 k0
    have f7 : c (12 * t + (x + 1)) 7 = 0 → j = -1 ∧ k = -1 := fun z => by
      refine hv ?_
      have z' : c (12 * t + x + 1) 7 = 0 := z
      rcases g2 with w | w
      · exact w
      · rcases g6.mp w with u | u
        · exact absurd u k2
        · have := u.2; omega
    unfold rIn
    have h1 : (if c (12 * t + x) 4 = 1 then 0 else T true (12 * t + x + 1) i j k l) = 0 := by
      split
      · rfl
      · exact hz true t (x + 1) i l j k ht hx1 f7 (by show _ < c (12 * t + (x + 1)) 10; omega)
    have h2 : axs c N T (12 * t + x) i j k l = 0 := by
      unfold axs
      refine sm_0 _ (fun dp hdp => sm_0 _ (fun dq hdq => ?_))
      generalize fstQ j k (i + dp) + dq = q'
      generalize i + dp = p
      apply mul_0
      by_cases e : (q' : Int) - p - (k - j) < c (12 * t + (x + 1)) 10
      · exact Or.inr (hz true t (x + 1) p q' j k ht hx1 f7 e)
      · refine Or.inl (sm_0 _ (fun t' ht' => ?_))
        split
        · rename_i qq
          have := root t' ht'
          exact hz false t' 0 i l (p : Int) (q' : Int) ht' (hFt t' ht').1 (fun z => by have z' : c (12 * t') 6 = 0 := z; have := qq.2; omega) (by show _ < lst c false (12 * t'); omega)
        · rfl
    rw [h1, h2]
    have : ((0 : Int) + (if c (12 * t + x) 4 = 2 then 0 else 0)) = 0 := by split <;> rfl
    rw [this, cap_0]
theorem Vf_l {c : Nat → Nat → Int} {N : Nat} {sz : Nat → Nat} {hw wo : Nat → Prop} (sd : Nat → Int) (hF : CF c N sz hw wo) (hL : CL c N sz hw wo) : ∀ (f : Nat) (o : Bool) (t x i l : Nat) (j k : Int), t < N → x < sz t → (flg c o (12 * t + x) = 0 → j = -1 ∧ k = -1) → (l : Int) - i - (k - j) < lst c o (12 * t + x) → Vf c N sd f o (12 * t + x) i j k l = 0 := by
  intro f
  induction f with
  | zero => intro o t x i l j k _ _ _ _; rfl
  | succ f ih => intro o t x i l j k ht hx hv hy; exact rhs_L sd hF hL ht hx hv hy ih
theorem VV_l {c : Nat → Nat → Int} {N n : Nat} {sz : Nat → Nat} {hw wo : Nat → Prop} (sd : Nat → Int) (hF : CF c N sz hw wo) (hL : CL c N sz hw wo) {o : Bool} {t x i l : Nat} {j k : Int} (ht : t < N) (hx : x < sz t) (hv : Vs (flg c o (12 * t + x)) i j k l n) (hy : (l : Int) - i - (k - j) < lst c o (12 * t + x)) : VV c N sd o (12 * t + x) i j k l = 0 :=
  Vf_l sd hF hL 2000 o t x i l j k ht hx (fun z => by rcases hv.2.2 with w | w; exact w.2; omega) hy
