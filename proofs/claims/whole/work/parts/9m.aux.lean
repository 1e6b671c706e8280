/-! pure: the class sets a tree into a node -/
def wq (V : Tb) (r i : Nat) (j k : Int) (l t p q : Nat) : Int := cap (V false (12 * t) i (p : Int) (q : Int) l * V true (r + 1) p j k q)
def aQ (V : Tb) (r i : Nat) (j k : Int) (l t p m : Nat) : Int := sm (fun dq => wq V r i j k l t p (fstQ j k p + dq)) m
def aP (V : Tb) (r i : Nat) (j k : Int) (l t m : Nat) : Int := sm (fun dp => aQ V r i j k l t (i + dp) (l + 1 - fstQ j k (i + dp))) m
def aT (c : Nat → Nat → Int) (V : Tb) (r i : Nat) (j k : Int) (l t : Nat) : Int := if c (12 * t) 1 = c r 1 ∧ c (12 * t) 6 = 1 then aP V r i j k l t (lastP j l + 1 - i) else 0
def ownW (c : Nat → Nat → Int) (V : Tb) (r i : Nat) (j k : Int) (l : Nat) : Int := if c r 4 = 1 then 0 else V true (r + 1) i j k l
def SA (c : Nat → Nat → Int) (N : Nat) (V : Tb) (r i : Nat) (j k : Int) (l : Nat) (way : Int) (t p q : Nat) (left : Int) : Prop := t < N ∧ (c (12 * t) 1 = c r 1 ∧ c (12 * t) 6 = 1) ∧ i ≤ p ∧ p ≤ lastP j l ∧ fstQ j k p ≤ q ∧ q ≤ l ∧ 0 ≤ left ∧ left < wq V r i j k l t p q ∧ way = ownW c V r i j k l + sm (aT c V r i j k l) t + aP V r i j k l t (p - i) + aQ V r i j k l t p (q - fstQ j k p) + left
theorem wq_r {c : Nat → Nat → Int} {N : Nat} {sd : Nat → Int} (r i : Nat) (j k : Int) (l t p q : Nat) : 0 ≤ wq (VV c N sd) r i j k l t p q ∧ wq (VV c N sd) r i j k l t p q ≤ 1000000000 := cap_r (Int.mul_nonneg (VV_r _ _ _ _ _ _ _ _ _).1 (VV_r _ _ _ _ _ _ _ _ _).1)
theorem aQ_p {c : Nat → Nat → Int} {N : Nat} {sd : Nat → Int} (r i : Nat) (j k : Int) (l t p m : Nat) : 0 ≤ aQ (VV c N sd) r i j k l t p m := sm_p _ (fun _ _ => (wq_r _ _ _ _ _ _ _ _).1)
theorem aP_p {c : Nat → Nat → Int} {N : Nat} {sd : Nat → Int} (r i : Nat) (j k : Int) (l t m : Nat) : 0 ≤ aP (VV c N sd) r i j k l t m := sm_p _ (fun _ _ => aQ_p _ _ _ _ _ _ _ _)
theorem aT_p {c : Nat → Nat → Int} {N : Nat} {sd : Nat → Int} (r i : Nat) (j k : Int) (l t : Nat) : 0 ≤ aT c (VV c N sd) r i j k l t := by
  unfold aT
  split
  · exact aP_p _ _ _ _ _ _ _
  · exact Int.le_refl 0
theorem sm_find {f : Nat → Int} {w : Int} (h0 : 0 ≤ w) : ∀ m, w < sm f m → ∃ t, t < m ∧ sm f t ≤ w ∧ w < sm f t + f t := by
  intro m
  induction m with
  | zero => intro h; rw [sm_z0] at h; omega
  | succ m ih =>
    intro h
    by_cases q : w < sm f m
    · obtain ⟨t, a, b⟩ := ih q
      exact ⟨t, by omega, b⟩
    · exact ⟨m, by omega, by omega, by rw [sm_1] at h; exact h⟩
theorem in_sum {c : Nat → Nat → Int} {N : Nat} {sz : Nat → Nat} {sd : Nat → Int} {n : Nat} {hw wo : Nat → Prop} {t x i l : Nat} {j k way : Int} (hF : CF c N sz hw wo) (hn : n ≤ 8) (ht : t < N) (hx : x < sz t) (hk : c (12 * t + x) 0 = 0) (h : LV c (VV c N sd) n (12 * t + x) i j k l way) : way < ownW c (VV c N sd) (12 * t + x) i j k l ∨ (c (12 * t + x) 4 ≠ 2 ∧ way < ownW c (VV c N sd) (12 * t + x) i j k l + sm (aT c (VV c N sd) (12 * t + x) i j k l) N) := by
  obtain ⟨v, h0, hl⟩ := h
  have e := VV_eq (n := n) sd hF hn (o := false) ht hx v.vs
  have e2 : VV c N sd false (12 * t + x) i j k l = cap (rIn c N (VV c N sd) (12 * t + x) i j k l) := by
    rw [e]
    unfold rhs
    simp only [Bool.false_eq_true, if_false]
    unfold rLie
    rw [if_neg (by omega), if_neg (by omega), if_neg (by omega)]
  rw [e2] at hl
  unfold rIn at hl
  have eo : (if c (12 * t + x) 4 = 1 then 0 else VV c N sd true (12 * t + x + 1) i j k l) = ownW c (VV c N sd) (12 * t + x) i j k l := rfl
  rw [eo] at hl
  have o0 : 0 ≤ ownW c (VV c N sd) (12 * t + x) i j k l := by
    unfold ownW
    split
    · exact Int.le_refl 0
    · exact (VV_r _ _ _ _ _ _ _ _ _).1
  by_cases q : c (12 * t + x) 4 = 2
  · left
    rw [if_pos q, Int.add_zero] at hl
    have := cap_le (ownW c (VV c N sd) (12 * t + x) i j k l)
    omega
  · right
    refine ⟨q, ?_⟩
    rw [if_neg q, axs_t] at hl
    have ce1 : ∀ x : Int, 0 ≤ x → CE (cap x) x := fun x hx => by
      have := CE_mul (b := 1) hx (by omega)
      rw [Int.mul_one, Int.mul_one] at this
      exact this
    have ce : CE (sm (aT c (VV c N sd) (12 * t + x) i j k l) N) (sm (axT c (VV c N sd) (12 * t + x) i j k l) N) := CE_sm _ (fun t' _ => by
      unfold aT axT
      split
      · exact CE_sm _ (fun dp _ => CE_sm _ (fun dq _ => ce1 _ (Int.mul_nonneg (VV_r _ _ _ _ _ _ _ _ _).1 (VV_r _ _ _ _ _ _ _ _ _).1)))
      · exact CE_refl (Int.le_refl 0))
    have ca := CE_cap (CE_add (CE_refl o0) ce)
    rw [← ca] at hl
    have := cap_le (ownW c (VV c N sd) (12 * t + x) i j k l + sm (aT c (VV c N sd) (12 * t + x) i j k l) N)
    omega
theorem SA_ex {c : Nat → Nat → Int} {N : Nat} {sz : Nat → Nat} {sd : Nat → Int} {n : Nat} {hw wo : Nat → Prop} {t x i l : Nat} {j k way : Int} (hF : CF c N sz hw wo) (hn : n ≤ 8) (ht : t < N) (hx : x < sz t) (hk : c (12 * t + x) 0 = 0) (h : LV c (VV c N sd) n (12 * t + x) i j k l way) (ho : ¬ way < ownW c (VV c N sd) (12 * t + x) i j k l) : ∃ t' p q left, SA c N (VV c N sd) (12 * t + x) i j k l way t' p q left := by
  rcases in_sum hF hn ht hx hk h with z | ⟨_, z⟩
  · exact absurd z ho
  · obtain ⟨t', a1, a2, a3⟩ := sm_find (f := aT c (VV c N sd) (12 * t + x) i j k l) (w := way - ownW c (VV c N sd) (12 * t + x) i j k l) (by omega) N (by omega)
    have am : c (12 * t') 1 = c (12 * t + x) 1 ∧ c (12 * t') 6 = 1 := by
      refine Classical.byContradiction (fun q => ?_)
      have : aT c (VV c N sd) (12 * t + x) i j k l t' = 0 := by unfold aT; rw [if_neg q]
      omega
    have ae : aT c (VV c N sd) (12 * t + x) i j k l t' = aP (VV c N sd) (12 * t + x) i j k l t' (lastP j l + 1 - i) := by unfold aT; rw [if_pos am]
    rw [ae] at a3
    obtain ⟨dp, b1, b2, b3⟩ := sm_find (f := fun dp => aQ (VV c N sd) (12 * t + x) i j k l t' (i + dp) (l + 1 - fstQ j k (i + dp))) (w := way - ownW c (VV c N sd) (12 * t + x) i j k l - sm (aT c (VV c N sd) (12 * t + x) i j k l) t') (by omega) (lastP j l + 1 - i) (by show _ < aP (VV c N sd) (12 * t + x) i j k l t' (lastP j l + 1 - i); omega)
    have be : sm (fun dp => aQ (VV c N sd) (12 * t + x) i j k l t' (i + dp) (l + 1 - fstQ j k (i + dp))) dp = aP (VV c N sd) (12 * t + x) i j k l t' dp := rfl
    rw [be] at b2 b3
    obtain ⟨dq, d1, d2, d3⟩ := sm_find (f := fun dq => wq (VV c N sd) (12 * t + x) i j k l t' (i + dp) (fstQ j k (i + dp) + dq)) (w := way - ownW c (VV c N sd) (12 * t + x) i j k l - sm (aT c (VV c N sd) (12 * t + x) i j k l) t' - aP (VV c N sd) (12 * t + x) i j k l t' dp) (by omega) (l + 1 - fstQ j k (i + dp)) (by show _ < aQ (VV c N sd) (12 * t + x) i j k l t' (i + dp) (l + 1 - fstQ j k (i + dp)); omega)
    have de : sm (fun dq => wq (VV c N sd) (12 * t + x) i j k l t' (i + dp) (fstQ j k (i + dp) + dq)) dq = aQ (VV c N sd) (12 * t + x) i j k l t' (i + dp) dq := rfl
    rw [de] at d2 d3
    refine ⟨t', i + dp, fstQ j k (i + dp) + dq, way - ownW c (VV c N sd) (12 * t + x) i j k l - sm (aT c (VV c N sd) (12 * t + x) i j k l) t' - aP (VV c N sd) (12 * t + x) i j k l t' dp - aQ (VV c N sd) (12 * t + x) i j k l t' (i + dp) dq, a1, am, by omega, by omega, by omega, by omega, by omega, by omega, ?_⟩
    rw [show i + dp - i = dp by omega, show fstQ j k (i + dp) + dq - fstQ j k (i + dp) = dq by omega]
    omega
theorem lf_r {g j k : Int} {i l n p : Nat} (hv : Vs g i j k l n) (hp1 : i ≤ p) (hp2 : p ≤ lastP j l) : p ≤ l ∧ p ≤ fstQ j k p ∧ fstQ j k p ≤ l ∧ (j = -1 → fstQ j k p = p ∧ lastP j l = l) ∧ (j ≠ -1 → ((fstQ j k p : Nat) : Int) = k ∧ ((lastP j l : Nat) : Int) = j) := by
  obtain ⟨v1, v2, v3⟩ := hv
  unfold lastP at *
  unfold fstQ
  rcases v3 with z | z
  · rw [if_pos z.2.1] at *; rw [if_pos z.2.1]; omega
  · rw [if_neg (by omega)] at *; rw [if_neg (by omega)]; omega
theorem lp_r {g j k : Int} {i l n : Nat} (hv : Vs g i j k l n) : lastP j l ≤ l ∧ i ≤ lastP j l ∧ (j = -1 → lastP j l = l) ∧ (j ≠ -1 → ((lastP j l : Nat) : Int) = j) := by
  obtain ⟨v1, v2, v3⟩ := hv
  unfold lastP
  rcases v3 with z | z
  · rw [if_pos z.2.1]; omega
  · rw [if_neg (by omega)]; omega
/-- spans of the tree and of the parts below its foot -/
theorem pq_vs {c : Nat → Nat → Int} {N : Nat} {sz : Nat → Nat} {hw wo : Nat → Prop} {n t x i l p q : Nat} {j k : Int} (hF : CF c N sz hw wo) (ht : t < N) (hx : x < sz t) (hk : c (12 * t + x) 0 = 0) (hv : Vs (c (12 * t + x) 6) i j k l n) (hp1 : i ≤ p) (hp2 : p ≤ lastP j l) (hq1 : fstQ j k p ≤ q) (hq2 : q ≤ l) : Vs 1 i (p : Int) (q : Int) l n ∧ Vs (c (12 * t + (x + 1)) 7) p j k q n := by
  have lf := lf_r hv hp1 hp2
  obtain ⟨g1, g2, g3, g4, g5, g6, g7, g8, g9, g10, g11⟩ := hF.1 t x ht hx
  have g3' := (hF.1 t (x + 1) ht (g4 hk)).2.2.1
  have h67 : c (12 * t + x) 6 = 1 ↔ c (12 * t + (x + 1)) 7 = 1 := by
    rw [g6]; exact ⟨fun z => z.elim (fun w => by omega) (fun w => w.2), fun z => Or.inr ⟨hk, z⟩⟩
  clear g1 g3 g4 g5 g6 g7 g8 g9 g10 g11
  obtain ⟨v1, v2, v3⟩ := hv
  refine ⟨⟨by omega, v2, Or.inr ⟨rfl, by omega, by omega, by omega⟩⟩, ⟨by omega, by omega, ?_⟩⟩
  rcases v3 with z | z
  · left; refine ⟨?_, z.2⟩
    rcases g3' with w | w
    · exact w
    · have := h67.mpr w; omega
  · right; exact ⟨h67.mp z.1, by omega, z.2.2.1, by omega⟩
/-- the parts cover what they must -/
theorem pq_le {c : Nat → Nat → Int} {N : Nat} {sz : Nat → Nat} {hw wo : Nat → Prop} {n t x i l p q : Nat} {j k : Int} (sd : Nat → Int) (hF : CF c N sz hw wo) (hL : CL c N sz hw wo) (ht : t < N) (hx : x < sz t) (hk : c (12 * t + x) 0 = 0) (hv : Vs (c (12 * t + x) 6) i j k l n) (hp1 : i ≤ p) (hp2 : p ≤ lastP j l) (hq1 : fstQ j k p ≤ q) (hq2 : q ≤ l) (h0 : VV c N sd true (12 * t + (x + 1)) p j k q ≠ 0) : (p : Int) + (c (12 * t + x) 9 + k - j) ≤ (q : Int) := by
  have w2 := (pq_vs hF ht hx hk hv hp1 hp2 hq1 hq2).2
  have hx1 := (hF.1 t x ht hx).2.2.2.1 hk
  have e9 : c (12 * t + x) 9 = c (12 * t + (x + 1)) 10 := (hL t x ht hx).2.2.2.2.1.2.2.2 hk
  refine Classical.byContradiction (fun z => h0 (VV_l (o := true) sd hF hL ht hx1 w2 ?_))
  show _ < c (12 * t + (x + 1)) 10
  omega
theorem nw_1 {c : Nat → Nat → Int} {N : Nat} {sz : Nat → Nat} {hw wo : Nat → Prop} {n t x i l : Nat} {j k : Int} (hL : CL c N sz hw wo) (ht : t < N) (hx : x < sz t) (hv : Vt (c (12 * t + x) 6) i j k l n) : 1 ≤ c (12 * t + x) 9 + k - j := by
  have l1 := (hL t x ht hx).1
  have l7 := (hL t x ht hx).2.2.2.2.2.2.1
  rcases hv.2.2 with z | z
  · have := l7 z.1; omega
  · omega
theorem pq_lt {c : Nat → Nat → Int} {N : Nat} {sz : Nat → Nat} {hw wo : Nat → Prop} {n t x i l p q : Nat} {j k : Int} (sd : Nat → Int) (hF : CF c N sz hw wo) (hL : CL c N sz hw wo) (ht : t < N) (hx : x < sz t) (hk : c (12 * t + x) 0 = 0) (hv : Vt (c (12 * t + x) 6) i j k l n) (hp1 : i ≤ p) (hp2 : p ≤ lastP j l) (hq1 : fstQ j k p ≤ q) (hq2 : q ≤ l) (h0 : VV c N sd true (12 * t + (x + 1)) p j k q ≠ 0) : p < q := by
  have a := pq_le sd hF hL ht hx hk hv.vs hp1 hp2 hq1 hq2 h0
  have b := nw_1 hL ht hx hv
  omega
theorem pq_vt {c : Nat → Nat → Int} {N : Nat} {sz : Nat → Nat} {hw wo : Nat → Prop} {n t x i l p q : Nat} {j k : Int} (hF : CF c N sz hw wo) (ht : t < N) (hx : x < sz t) (hk : c (12 * t + x) 0 = 0) (hv : Vt (c (12 * t + x) 6) i j k l n) (hp1 : i ≤ p) (hp2 : p ≤ lastP j l) (hq1 : fstQ j k p ≤ q) (hq2 : q ≤ l) (hpq : p < q) : Vt 1 i (p : Int) (q : Int) l n ∧ Vt (c (12 * t + (x + 1)) 7) p j k q n := by
  obtain ⟨w1, w2⟩ := pq_vs hF ht hx hk hv.vs hp1 hp2 hq1 hq2
  refine ⟨⟨w1.1, w1.2.1, ?_⟩, ⟨w2.1, w2.2.1, ?_⟩⟩
  · rcases w1.2.2 with z | z
    · exact absurd z.1 (by decide)
    · exact Or.inr ⟨z.1, z.2.1, by omega, z.2.2.2⟩
  · rcases w2.2.2 with z | z
    · exact Or.inl z
    · refine Or.inr ⟨z.1, z.2.1, ?_, z.2.2.2⟩
      rcases hv.2.2 with w | w <;> omega
theorem SA_k {c : Nat → Nat → Int} {N : Nat} {sz : Nat → Nat} {sd : Nat → Int} {n : Nat} {hw wo : Nat → Prop} {t x i l t' p q : Nat} {j k way left : Int} (hF : CF c N sz hw wo) (hL : CL c N sz hw wo) (ht : t < N) (hx : x < sz t) (hk : c (12 * t + x) 0 = 0) (hv : Vt (c (12 * t + x) 6) i j k l n) (hs : SA c N (VV c N sd) (12 * t + x) i j k l way t' p q left) : 0 < VV c N sd true (12 * t + (x + 1)) p j k q ∧ LV c (VV c N sd) n (12 * t') i (p : Int) (q : Int) l (left / VV c N sd true (12 * t + (x + 1)) p j k q) ∧ RV c (VV c N sd) n (12 * t + (x + 1)) p j k q (left % VV c N sd true (12 * t + (x + 1)) p j k q) := by
  obtain ⟨s1, s2, s3, s4, s5, s6, s7, s8, s9⟩ := hs
  have s8' : left < VV c N sd false (12 * t') i (p : Int) (q : Int) l * VV c N sd true (12 * t + (x + 1)) p j k q := by
    have := cap_le (VV c N sd false (12 * t') i (p : Int) (q : Int) l * VV c N sd true (12 * t + x + 1) p j k q)
    have e : wq (VV c N sd) (12 * t + x) i j k l t' p q = cap (VV c N sd false (12 * t') i (p : Int) (q : Int) l * VV c N sd true (12 * t + x + 1) p j k q) := rfl
    show left < VV c N sd false (12 * t') i (p : Int) (q : Int) l * VV c N sd true (12 * t + x + 1) p j k q
    omega
  have b0 : 0 ≤ VV c N sd true (12 * t + (x + 1)) p j k q := (VV_r _ _ _ _ _ _ _ _ _).1
  have tp : 0 < VV c N sd true (12 * t + (x + 1)) p j k q := by
    by_cases z : VV c N sd true (12 * t + (x + 1)) p j k q = 0
    · rw [z, Int.mul_zero] at s8'; omega
    · omega
  obtain ⟨w1, w2⟩ := pq_vt hF ht hx hk hv s3 s4 s5 s6 (pq_lt sd hF hL ht hx hk hv s3 s4 s5 s6 (by omega))
  obtain ⟨d1, d2, d3, d4, d5, d6⟩ := div_b s7 tp
  exact ⟨tp, ⟨by rw [s2.2]; exact w1, d1, Int.ediv_lt_of_lt_mul tp s8'⟩, ⟨w2, d4, d5⟩⟩
