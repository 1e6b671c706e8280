/-! pure: the class looks for the tree to be set in -/
def sF (σ σ' : St) (u x U : Nat) : Prop := ∀ o k, ¬ (o = 23 ∧ k = 0) → ¬ (o = 24 ∧ (k = 7 * U ∨ k = 7 * U + 1 ∨ k = 7 * U + 2)) → ¬ (o = 25 ∧ (k = nJ U 0 1 ∨ k = nJ U 0 3 ∨ k = nJ U 0 4 ∨ k = nJ U 0 5 ∨ k = nJ U 0 6)) → ¬ (o = 25 ∧ (k = nJ u x 1 ∨ k = nJ u x 3 ∨ k = nJ u x 4 ∨ k = nJ u x 5 ∨ k = nJ u x 6)) → σ' o k = σ o k
theorem sp_tryAuxiliary {c : Nat → Nat → Int} {N : Nat} {sz : Nat → Nat} {sd : Nat → Int} {n : Nat} {hw wo : Nat → Prop} {σ : St} {Q : Int → St → Prop} {U u t x t' i l : Nat} {j k left0 a1 a2 a3 a4 : Int} (hC : CC c N sz sd n hw wo σ) (hu : u < 8) (hU : σ 23 0 = (U : Int)) (h8 : U < 8) (huU : u < U) (ht : t < N) (hx : x < sz t) (hk : c (12 * t + x) 0 = 0) (ht' : t' < N) (hm : c (12 * t') 6 = 1) (h1 : a1 = (u : Int)) (h2 : a2 = (x : Int)) (h3 : a3 = ((12 * t + x : Nat) : Int)) (h4 : a4 = (t' : Int)) (hc : Cl σ u x i j k l left0) (hl : 0 ≤ left0 ∧ left0 < 1000000001) (hv : Vt (c (12 * t + x) 6) i j k l n)
    (hF : ∀ p q left σ', i ≤ p → p ≤ lastP j l → fstQ j k p ≤ q → q ≤ l → 0 ≤ left → left < wq (VV c N sd) (12 * t + x) i j k l t' p q → left0 = aP (VV c N sd) (12 * t + x) i j k l t' (p - i) + aQ (VV c N sd) (12 * t + x) i j k l t' p (q - fstQ j k p) + left → σ' 23 0 = ((U + 1 : Nat) : Int) → σ' 24 (7 * U) = (t' : Int) → σ' 24 (7 * U + 1) = (u : Int) → σ' 24 (7 * U + 2) = (x : Int) → Cl σ' U 0 i (p : Int) (q : Int) l (left / VV c N sd true (12 * t + (x + 1)) p j k q) → Cl σ' u x p j k q (left % VV c N sd true (12 * t + (x + 1)) p j k q) → sF σ σ' u x U → Q (U : Int) σ')
    (hN : aP (VV c N sd) (12 * t + x) i j k l t' (lastP j l + 1 - i) ≤ left0 → Q (-1) (su σ 25 (nJ u x 1) (left0 - aP (VV c N sd) (12 * t + x) i j k l t' (lastP j l + 1 - i)))) : wp_X6_tryAuxiliary a1 a2 a3 a4 Q σ := by
  obtain ⟨c1, c2, c3, c4, c5, c6, c7, c8⟩ := hC
  have s12 := (c6.2 t ht).2.1
  have f0' := (c6.2 t' ht').1
  have hx1 : x + 1 < sz t := (c6.1 t x ht hx).2.2.2.1 hk
  obtain ⟨b3, b4, b5, b6, b1⟩ := hc
  have lp := lp_r hv.vs
  have hCL := c8.2
  have vl := hv.2.1
  have z12 : x < 12 := by omega
  have zr : 12 * t + x + 1 < 192 := by omega
  have zt : 12 * t' < 192 := by omega
  have w2 := fun p q => wq_r (c := c) (N := N) (sd := sd) (12 * t + x) i j k l t' p q
  -- where the class looks
  have nb := nw_1 hCL ht hx hv
  have l9 := (hCL t x ht hx).1
  have v3 := hv.2.2
  have nwb : c (12 * t + x) 9 + k - j ≤ 5100 := by rcases v3 with z | z <;> omega
  generalize hnw : c (12 * t + x) 9 + k - j = nw at *
  have lpx : ∃ lpI : Int, (j = -1 → lpI = (l : Int) - nw) ∧ (j ≠ -1 → lpI = j) := by
    by_cases z : j = -1
    · exact ⟨(l : Int) - nw, fun _ => rfl, fun w => absurd z w⟩
    · exact ⟨j, fun w => absurd w z, fun _ => rfl⟩
  obtain ⟨lpI, lp1, lp2⟩ := lpx
  have lb : -5100 ≤ lpI ∧ lpI ≤ ((lastP j l : Nat) : Int) := by
    by_cases z : j = -1
    · have := lp1 z; have := lp.2.2.1 z; omega
    · have := lp2 z; have := lp.2.2.2 z; rcases v3 with w | w <;> omega
  have wz : ∀ p q, i ≤ p → p ≤ lastP j l → fstQ j k p ≤ q → q ≤ l → ¬ (p : Int) + nw ≤ (q : Int) → wq (VV c N sd) (12 * t + x) i j k l t' p q = 0 := by
    intro p q e1 e2 e3 e4 e5
    have z : VV c N sd true (12 * t + (x + 1)) p j k q = 0 := Classical.byContradiction (fun w => e5 (by rw [← hnw]; exact pq_le sd c6 hCL ht hx hk hv.vs e1 e2 e3 e4 w))
    show cap (VV c N sd false (12 * t') i (p : Int) (q : Int) l * VV c N sd true (12 * t + (x + 1)) p j k q) = 0
    rw [z, Int.mul_zero, cap_0]
  -- the inner loop
  have qL : ∀ (K : Int → Int → Int → Int → Int → Int → Int → Int → Int → Int → Int → Int → St → Prop) (p : Nat), i ≤ p → p ≤ lastP j l → ∀ S : Int, 0 ≤ S →
      S = aP (VV c N sd) (12 * t + x) i j k l t' (p - i) →
      (S + aQ (VV c N sd) (12 * t + x) i j k l t' p (l + 1 - fstQ j k p) ≤ left0 → K a1 a2 a3 a4 (i : Int) (l : Int) j k (left0 - S - aQ (VV c N sd) (12 * t + x) i j k l t' p (l + 1 - fstQ j k p)) nw lpI ((p + 1 : Nat) : Int) σ) →
      ∀ (m q : Nat), l + 1 - q = m → fstQ j k p ≤ q → (p : Int) + nw ≤ (q : Int) → q ≤ l + 1 → S + aQ (VV c N sd) (12 * t + x) i j k l t' p (q - fstQ j k p) ≤ left0 → wp_X6_tryAuxiliary_L98 K Q (m + 1) a1 a2 a3 a4 (i : Int) (l : Int) j k (left0 - S - aQ (VV c N sd) (12 * t + x) i j k l t' p (q - fstQ j k p)) nw lpI (p : Int) (q : Int) σ := by
    intro K p hp1 hp2 S hS0 hSe hK m
    have lf := lf_r hv.vs hp1 hp2
    induction m with
    | zero =>
      intro q e1 e2 e0 e3 e4
      unfold wp_X6_tryAuxiliary_L98
      rw [w32_id (show -2147483648 ≤ (l : Int) by omega) (by omega), w32_id (show -2147483648 ≤ (q : Int) by omega) (by omega)]
      refine ⟨fun _ x_1 ex => ?_, fun z => by omega⟩
      have eq : q - fstQ j k p = l + 1 - fstQ j k p := by omega
      rw [eq] at e4
      rw [ex, show (p : Int) + 1 = ((p + 1 : Nat) : Int) by omega, eq]
      exact hK e4
    | succ m ih =>
      intro q e1 e2 e0 e3 e4
      have zq : q ≤ l := by omega
      obtain ⟨va, vp⟩ := pq_vt c6 ht hx hk hv hp1 hp2 e2 zq (by omega)
      have eA : cT σ false (12 * t') i (p : Int) (q : Int) l = VV c N sd false (12 * t') i (p : Int) (q : Int) l := c7.1 false t' 0 i l (p : Int) (q : Int) ht' f0' (by show Vt (c (12 * t' + 0) 6) _ _ _ _ _; rw [show 12 * t' + 0 = 12 * t' from rfl, hm]; exact va)
      have eB : cT σ true (12 * t + x + 1) p j k q = VV c N sd true (12 * t + (x + 1)) p j k q := c7.1 true t (x + 1) p q j k ht hx1 vp
      have rA := VV_r c N sd false (12 * t') i (p : Int) (q : Int) l
      have rB := VV_r c N sd true (12 * t + (x + 1)) p j k q
      have mb := mul_b rA rB
      have A0 := aQ_p (c := c) (N := N) (sd := sd) (12 * t + x) i j k l t' p (q - fstQ j k p)
      have wqe : wq (VV c N sd) (12 * t + x) i j k l t' p q = cap (VV c N sd false (12 * t') i (p : Int) (q : Int) l * VV c N sd true (12 * t + (x + 1)) p j k q) := rfl
      have nxt : aQ (VV c N sd) (12 * t + x) i j k l t' p (q + 1 - fstQ j k p) = aQ (VV c N sd) (12 * t + x) i j k l t' p (q - fstQ j k p) + wq (VV c N sd) (12 * t + x) i j k l t' p q := by
        unfold aQ
        rw [show q + 1 - fstQ j k p = (q - fstQ j k p) + 1 by omega, sm_1, show fstQ j k p + (q - fstQ j k p) = q by omega]
      have z1 : l + 1 - (q + 1) = m := by omega
      have z2 : fstQ j k p ≤ q + 1 := by omega
      have z0 : (p : Int) + nw ≤ ((q + 1 : Nat) : Int) := by omega
      have z3 : q + 1 ≤ l + 1 := by omega
      have z4 : (q : Int) + 1 = ((q + 1 : Nat) : Int) := by omega
      have wr := w2 p q
      unfold wp_X6_tryAuxiliary_L98
      rw [w32_id (show -2147483648 ≤ (l : Int) by omega) (by omega), w32_id (show -2147483648 ≤ (q : Int) by omega) (by omega)]
      refine ⟨fun z => by omega, fun _ => sp_row1 (t := t') (x := 0) h4 rfl ?_⟩
      refine sp_nodeWays (r := 12 * t') va c1 zt rfl rfl rfl (fun x_6 ex6 => ?_)
      rw [eA, w32_id (show -2147483648 ≤ VV c N sd false (12 * t') i (p : Int) (q : Int) l by omega) (by omega)] at ex6
      refine sp_partsWays (r := 12 * t + x) vp c1 zr h3 rfl rfl ?_
      rw [eB, ex6, w32_id (show -2147483648 ≤ VV c N sd true (12 * t + (x + 1)) p j k q by omega) (by omega)]
      refine sp_cut (by omega) ?_
      rw [← wqe, w32_id (show -2147483648 ≤ wq (VV c N sd) (12 * t + x) i j k l t' p q by omega) (by omega), w32_id (show -2147483648 ≤ left0 - S - aQ (VV c N sd) (12 * t + x) i j k l t' p (q - fstQ j k p) by omega) (by omega)]
      have go : S + aQ (VV c N sd) (12 * t + x) i j k l t' p (q + 1 - fstQ j k p) ≤ left0 → wp_X6_tryAuxiliary_B222 K (fun z0 z1 z2 z3 z4 z5 z6 z7 z8 z9 z10 z11 z12 σ => wp_X6_tryAuxiliary_L98 K Q (m + 1) z0 z1 z2 z3 z4 z5 z6 z7 z8 z9 z10 z11 z12 σ) a1 a2 a3 a4 (i : Int) (l : Int) j k (left0 - S - aQ (VV c N sd) (12 * t + x) i j k l t' p (q - fstQ j k p)) nw lpI (p : Int) (q : Int) (wq (VV c N sd) (12 * t + x) i j k l t' p q) Q σ := by
        intro hle
        unfold wp_X6_tryAuxiliary_B222
        intro x_1 ex1 x_2 ex2
        have := ih (q + 1) z1 z2 z0 z3 hle
        rw [nxt, show left0 - S - (aQ (VV c N sd) (12 * t + x) i j k l t' p (q - fstQ j k p) + wq (VV c N sd) (12 * t + x) i j k l t' p q) = left0 - S - aQ (VV c N sd) (12 * t + x) i j k l t' p (q - fstQ j k p) - wq (VV c N sd) (12 * t + x) i j k l t' p q by omega] at this
        rw [ex1, ex2, z4]
        exact this
      refine ⟨fun z => go ?_, fun z => ⟨fun y => go (by rw [nxt]; omega), fun y => ?_⟩⟩
      · have tz : VV c N sd true (12 * t + (x + 1)) p j k q = 0 := by omega
        rw [nxt, wqe, tz, Int.mul_zero, cap_0]
        omega
      · have hd := iDiv_n (x := left0 - S - aQ (VV c N sd) (12 * t + x) i j k l t' p (q - fstQ j k p)) (y := VV c N sd true (12 * t + (x + 1)) p j k q) (by omega) (by omega)
        have ztl : ¬ VV c N sd true (12 * t + (x + 1)) p j k q = 0 := by omega
        refine sp_addUse hU h8 (fun σ1 y1 y2 y3 y4 y5 => ⟨ztl, ?_⟩)
        rw [hd.1, hd.2]
        refine sp_lay6 (u := U) (x := 0) (i := i) (l := l) h8 (by omega) rfl rfl rfl rfl (fun σ2 g1 g2 => ⟨ztl, ?_⟩)
        refine sp_lay6 (u := u) (x := x) (i := p) (l := q) hu z12 h1 h2 rfl rfl (fun σ3 g3 g4 => ?_)
        have n24 : ∀ k', σ3 24 k' = σ1 24 k' := fun k' => by rw [g4 24 k' (fun z => by omega), g2 24 k' (fun z => by omega)]
        refine hF p q _ σ3 hp1 hp2 e2 zq (by omega) (by omega) (by rw [← hSe]; omega) (by rw [g4 23 0 (fun z => by omega), g2 23 0 (fun z => by omega)]; exact y1) (by rw [n24, y2]; exact h4) (by rw [n24, y3]; exact h1) (by rw [n24, y4]; exact h2) (Cl_nF g1 g4 z12 (by omega) (fun z => by omega)) g3 (fun o k' q1 q2 q3 q4 => ?_)
        rw [g4 o k' q4, g2 o k' q3]
        exact y5 o k' q1 q2
  -- nothing is beyond where the class looks
  have aQz : ∀ p m, i ≤ p → p ≤ lastP j l → fstQ j k p + m ≤ l + 1 → (∀ q, fstQ j k p ≤ q → q < fstQ j k p + m → ¬ (p : Int) + nw ≤ (q : Int)) → aQ (VV c N sd) (12 * t + x) i j k l t' p m = 0 := by
    intro p m e1 e2 e3 e4
    exact sm_0 _ (fun dq hdq => wz p (fstQ j k p + dq) e1 e2 (by omega) (by omega) (e4 _ (by omega) (by omega)))
  have out : ∀ p q, i ≤ p → p ≤ lastP j l → lpI < (p : Int) → q ≤ l → ¬ (p : Int) + nw ≤ (q : Int) := by
    intro p q e1 e2 e3 e4
    by_cases z : j = -1
    · have := lp1 z; omega
    · have := lp2 z; have := lp.2.2.2 z; omega
  have aPz : ∀ m, i + m ≤ lastP j l + 1 → lpI < ((i + m : Nat) : Int) → aP (VV c N sd) (12 * t + x) i j k l t' (lastP j l + 1 - i) = aP (VV c N sd) (12 * t + x) i j k l t' m := by
    intro m e1 e2
    refine sm_ext _ (by omega) (fun d a b => ?_)
    have lf := lf_r hv.vs (show i ≤ i + d by omega) (show i + d ≤ lastP j l by omega)
    exact aQz (i + d) (l + 1 - fstQ j k (i + d)) (by omega) (by omega) (by omega) (fun q _ hq => out (i + d) q (by omega) (by omega) (by omega) (by omega))
  have pL : ∀ (m p : Nat), (lpI + 1 - (p : Int)).toNat = m → i ≤ p → (p : Int) ≤ lpI + 1 → aP (VV c N sd) (12 * t + x) i j k l t' (p - i) ≤ left0 → wp_X6_tryAuxiliary_L79 Q (m + 1) a1 a2 a3 a4 (i : Int) (l : Int) j k (left0 - aP (VV c N sd) (12 * t + x) i j k l t' (p - i)) nw lpI (p : Int) σ := by
    intro m
    induction m with
    | zero =>
      intro p e1 e2 e3 e4
      unfold wp_X6_tryAuxiliary_L79
      rw [w32_id (show -2147483648 ≤ lpI by omega) (by omega), w32_id (show -2147483648 ≤ (p : Int) by omega) (by omega)]
      refine ⟨fun _ => ?_, fun z => by omega⟩
      have eq := aPz (p - i) (by omega) (by omega)
      rw [← eq] at e4 ⊢
      exact sp_setNodeCell (w := 1) hu z12 (by omega) h1 h2 rfl (hN e4)
    | succ m ih =>
      intro p e1 e2 e3 e4
      have zp : p ≤ lastP j l := by omega
      have lf := lf_r hv.vs e2 zp
      have P0 := aP_p (c := c) (N := N) (sd := sd) (12 * t + x) i j k l t' (p - i)
      have nxt : aP (VV c N sd) (12 * t + x) i j k l t' (p + 1 - i) = aP (VV c N sd) (12 * t + x) i j k l t' (p - i) + aQ (VV c N sd) (12 * t + x) i j k l t' p (l + 1 - fstQ j k p) := by
        unfold aP
        rw [show p + 1 - i = (p - i) + 1 by omega, sm_1, show i + (p - i) = p by omega]
      unfold wp_X6_tryAuxiliary_L79
      rw [w32_id (show -2147483648 ≤ lpI by omega) (by omega), w32_id (show -2147483648 ≤ (p : Int) by omega) (by omega)]
      refine ⟨fun z => by omega, fun _ x_2 ex2 => ?_⟩
      have xq : x_2 = (if (p : Int) + nw < k then k else (p : Int) + nw) := by
        rw [ex2]
        unfold iMax
        have wk : w32 k = k := by rcases v3 with z | z; exact w32_id (by omega) (by omega); exact w32_id (by omega) (by omega)
        rw [wk, w32_id (show -2147483648 ≤ (p : Int) + nw by omega) (by omega)]
      have xr : ((fstQ j k p : Nat) : Int) ≤ x_2 ∧ (p : Int) + nw ≤ x_2 ∧ x_2 ≤ 6000 ∧ (∀ q : Nat, fstQ j k p ≤ q → (q : Int) < x_2 → ¬ (p : Int) + nw ≤ (q : Int)) := by
        rw [xq]
        by_cases z : j = -1
        · have f1 := (lf.2.2.2.1 z).1
          have kk : k = -1 := by rcases v3 with w | w <;> omega
          rw [if_neg (by omega)]
          refine ⟨by omega, by omega, by omega, fun q _ hq => by omega⟩
        · have f1 := (lf.2.2.2.2 z).1
          split
          · refine ⟨by omega, by omega, by rcases v3 with w | w <;> omega, fun q _ hq => by omega⟩
          · refine ⟨by omega, by omega, by omega, fun q _ hq => by omega⟩
      have hK : aP (VV c N sd) (12 * t + x) i j k l t' (p - i) + aQ (VV c N sd) (12 * t + x) i j k l t' p (l + 1 - fstQ j k p) ≤ left0 → wp_X6_tryAuxiliary_L79 Q (m + 1) a1 a2 a3 a4 (i : Int) (l : Int) j k (left0 - aP (VV c N sd) (12 * t + x) i j k l t' (p - i) - aQ (VV c N sd) (12 * t + x) i j k l t' p (l + 1 - fstQ j k p)) nw lpI ((p + 1 : Nat) : Int) σ := fun hle => by
        have := ih (p + 1) (by omega) (by omega) (by omega) (by rw [nxt]; exact hle)
        rw [nxt, show left0 - (aP (VV c N sd) (12 * t + x) i j k l t' (p - i) + aQ (VV c N sd) (12 * t + x) i j k l t' p (l + 1 - fstQ j k p)) = left0 - aP (VV c N sd) (12 * t + x) i j k l t' (p - i) - aQ (VV c N sd) (12 * t + x) i j k l t' p (l + 1 - fstQ j k p) by omega] at this
        exact this
      by_cases ov : (l : Int) < x_2
      · have z0 := aQz p (l + 1 - fstQ j k p) e2 zp (by omega) (fun q a b => xr.2.2.2 q a (by omega))
        refine ⟨1, ?_⟩
        unfold wp_X6_tryAuxiliary_L98
        rw [w32_id (show -2147483648 ≤ (l : Int) by omega) (by omega), w32_id (show -2147483648 ≤ x_2 by omega) (by omega)]
        refine ⟨fun _ x_3 ex3 => ?_, fun z => absurd ov z⟩
        rw [ex3, show (p : Int) + 1 = ((p + 1 : Nat) : Int) by omega]
        rw [z0, Int.add_zero, Int.sub_zero] at hK
        exact hK e4
      · have z0 := aQz p (x_2.toNat - fstQ j k p) e2 zp (by omega) (fun q a b => xr.2.2.2 q a (by omega))
        have := qL (fun z0 z1 z2 z3 z4 z5 z6 z7 z8 z9 z10 z11 σ => wp_X6_tryAuxiliary_L79 Q (m + 1) z0 z1 z2 z3 z4 z5 z6 z7 z8 z9 z10 z11 σ) p e2 zp (aP (VV c N sd) (12 * t + x) i j k l t' (p - i)) P0 rfl hK (l + 1 - x_2.toNat) x_2.toNat rfl (by omega) (by omega) (by omega) (by rw [z0]; omega)
        rw [z0, Int.sub_zero, show ((x_2.toNat : Nat) : Int) = x_2 by omega] at this
        exact ⟨_, this⟩
  have go : ∃ nn, wp_X6_tryAuxiliary_L79 Q nn a1 a2 a3 a4 (i : Int) (l : Int) j k left0 nw lpI (i : Int) σ := by
    by_cases q : (i : Int) ≤ lpI + 1
    · have := pL _ i rfl (Nat.le_refl i) q (by rw [Nat.sub_self]; show 0 ≤ _; exact hl.1)
      rw [Nat.sub_self, show aP (VV c N sd) (12 * t + x) i j k l t' 0 = 0 from rfl, Int.sub_zero] at this
      exact ⟨_, this⟩
    · refine ⟨1, ?_⟩
      have eq := aPz 0 (by omega) (by omega)
      rw [show aP (VV c N sd) (12 * t + x) i j k l t' 0 = 0 from rfl] at eq
      rw [eq, Int.sub_zero] at hN
      unfold wp_X6_tryAuxiliary_L79
      rw [w32_id (show -2147483648 ≤ lpI by omega) (by omega), w32_id (show -2147483648 ≤ (i : Int) by omega) (by omega)]
      exact ⟨fun _ => sp_setNodeCell (w := 1) hu z12 (by omega) h1 h2 rfl (hN hl.1), fun z => by omega⟩
  have e9 : nd σ t x 9 = c (12 * t + x) 9 := c5 t x 9 ht hx (by omega)
  have z16 : t ≤ 16 := by omega
  unfold wp_X6_tryAuxiliary
  refine sp_nodeCell (w := 3) hu z12 (by omega) h1 h2 rfl ?_
  refine sp_nodeCell (w := 4) hu z12 (by omega) h1 h2 rfl ?_
  refine sp_nodeCell (w := 5) hu z12 (by omega) h1 h2 rfl ?_
  refine sp_nodeCell (w := 6) hu z12 (by omega) h1 h2 rfl ?_
  refine sp_nodeCell (w := 1) hu z12 (by omega) h1 h2 rfl ?_
  rw [b3, b4, b5, b6, b1]
  unfold wp_X0_narrowest wp_X0_lastBegin
  refine sp_cell (t := t) (x := x) (w := 9) h3 rfl z16 z12 (by omega) ?_
  rw [e9, hnw]
  have wj : w32 j = j := by rcases v3 with z | z; exact w32_id (by omega) (by omega); exact w32_id (by omega) (by omega)
  rw [wj]
  refine ⟨fun z => ?_, fun z => ?_⟩
  · rw [lp2 z] at go; exact go
  · rw [← lp1 z]; exact go
theorem sp_startAuxiliary {c : Nat → Nat → Int} {N : Nat} {sz : Nat → Nat} {sd : Nat → Int} {n : Nat} {hw wo : Nat → Prop} {σ : St} {Q : Int → St → Prop} {U u t x i l : Nat} {j k way a1 a2 a3 : Int} (hC : CC c N sz sd n hw wo σ) (hu : u < 8) (hU : σ 23 0 = (U : Int)) (h8 : ¬ way < ownW c (VV c N sd) (12 * t + x) i j k l → U < 8) (huU : u < U) (hU8 : U ≤ 8) (ht : t < N) (hx : x < sz t) (hk : c (12 * t + x) 0 = 0) (h1 : a1 = (u : Int)) (h2 : a2 = (x : Int)) (h3 : a3 = ((12 * t + x : Nat) : Int)) (hc : Cl σ u x i j k l way) (hv : LV c (VV c N sd) n (12 * t + x) i j k l way)
    (hP : way < ownW c (VV c N sd) (12 * t + x) i j k l → Q (-1) σ)
    (hF : ∀ t' p q left σ', SA c N (VV c N sd) (12 * t + x) i j k l way t' p q left → σ' 23 0 = ((U + 1 : Nat) : Int) → σ' 24 (7 * U) = (t' : Int) → σ' 24 (7 * U + 1) = (u : Int) → σ' 24 (7 * U + 2) = (x : Int) → Cl σ' U 0 i (p : Int) (q : Int) l (left / VV c N sd true (12 * t + (x + 1)) p j k q) → Cl σ' u x p j k q (left % VV c N sd true (12 * t + (x + 1)) p j k q) → sF σ σ' u x U → Q (U : Int) σ') : wp_X6_startAuxiliary a1 a2 a3 Q σ := by
  have hC0 := hC
  obtain ⟨c1, c2, c3, c4, c5, c6, c7, c8⟩ := hC
  have s12 := (c6.2 t ht).2.1
  have hx1 : x + 1 < sz t := (c6.1 t x ht hx).2.2.2.1 hk
  have hc0 := hc
  obtain ⟨b3, b4, b5, b6, b1⟩ := hc
  have z12 : x < 12 := by omega
  have z16 : t ≤ 16 := by omega
  have vs := hv.1
  have w0 := hv.2.1
  have wV : way < 1000000001 := by have := (VV_r c N sd false (12 * t + x) i j k l).2; have := hv.2.2; omega
  have e4 : nd σ t x 4 = c (12 * t + x) 4 := c5 t x 4 ht hx (by omega)
  have m4 : 0 ≤ c (12 * t + x) 4 ∧ c (12 * t + x) 4 ≤ 2 := by rw [← e4]; exact ((c4 t ht).2.2.2.2.2.1 x hx).2.2.2.1
  have e1 : nd σ t x 1 = c (12 * t + x) 1 := c5 t x 1 ht hx (by omega)
  have nmr : 0 ≤ c (12 * t + x) 1 ∧ c (12 * t + x) 1 < 32 := ⟨(c6.1 t x ht hx).2.2.2.2.2.2.2.2.2.2.1, (c6.1 t x ht hx).2.2.2.2.2.2.2.2.2.2.2.1⟩
  have ow : 0 ≤ ownW c (VV c N sd) (12 * t + x) i j k l ∧ ownW c (VV c N sd) (12 * t + x) i j k l ≤ 1000000000 := by
    unfold ownW
    split
    · omega
    · exact VV_r _ _ _ _ _ _ _ _ _
  have smp := fun m => sm_p (f := aT c (VV c N sd) (12 * t + x) i j k l) m (fun d _ => aT_p _ _ _ _ _ d)
  -- after a tree was found
  have done : ∀ (m : Nat) (t' : Nat) (σ' : St), t' ≤ N → σ' 3 4 = (N : Int) → Q (U : Int) σ' → wp_X6_startAuxiliary_L104 Q (m + 1) a1 a2 a3 (U : Int) (t' : Int) σ' := by
    intro m t' σ' hle h34 hq
    unfold wp_X6_startAuxiliary_L104
    rw [h34, w32_id (show -2147483648 ≤ (N : Int) by omega) (by omega), w32_id (show -2147483648 ≤ (t' : Int) by omega) (by omega), w32_id (show -2147483648 ≤ (U : Int) by omega) (by omega)]
    exact ⟨fun _ => hq, fun _ => ⟨fun _ => hq, fun z => by omega⟩⟩
  have loop : ¬ way < ownW c (VV c N sd) (12 * t + x) i j k l → ∀ (m t' : Nat) (σ1 : St), N - t' = m → t' ≤ N → (∀ o k, ¬ (o = 25 ∧ k = nJ u x 1) → σ1 o k = σ o k) → σ1 25 (nJ u x 1) = way - ownW c (VV c N sd) (12 * t + x) i j k l - sm (aT c (VV c N sd) (12 * t + x) i j k l) t' → sm (aT c (VV c N sd) (12 * t + x) i j k l) t' ≤ way - ownW c (VV c N sd) (12 * t + x) i j k l → wp_X6_startAuxiliary_L104 Q (m + 1 + 1) a1 a2 a3 (-1) (t' : Int) σ1 := by
    intro ho m
    have U8 := h8 ho
    induction m with
    | zero =>
      intro t' σ1 g1 g2 g3 g4 g5
      exfalso
      rw [show t' = N by omega] at g5
      rcases in_sum c6 c1 ht hx hk hv with z | ⟨_, z⟩
      · exact ho z
      · omega
    | succ m ih =>
      intro t' σ1 g1 g2 g3 g4 g5
      have zt : t' < N := by omega
      have zt16 : t' ≤ 16 := by omega
      have z1 : N - (t' + 1) = m := by omega
      have z2 : t' + 1 ≤ N := by omega
      have z3 : (t' : Int) + 1 = ((t' + 1 : Nat) : Int) := by omega
      have z4 : ¬ (N : Int) ≤ (t' : Int) := by omega
      have ft := c6.2 t' zt
      have low : ∀ o k, o < 23 → σ1 o k = σ o k := fun o k q => g3 o k (fun z => by omega)
      have hC1 : CC c N sz sd n hw wo σ1 := CC_fr hC0 low
      have r1 : nd σ1 t' 0 1 = c (12 * t') 1 := (low 11 _ (by omega)).trans (c5 t' 0 1 zt ft.1 (by omega))
      have r6 : nd σ1 t' 0 6 = c (12 * t') 6 := (low 11 _ (by omega)).trans (c5 t' 0 6 zt ft.1 (by omega))
      have x1 : nd σ1 t x 1 = c (12 * t + x) 1 := by rw [← e1]; exact low 11 _ (by omega)
      have q6 : c (12 * t') 6 = 0 ∨ c (12 * t') 6 = 1 := (c6.1 t' 0 zt ft.1).2.1
      have q1 : 0 ≤ c (12 * t') 1 ∧ c (12 * t') 1 < 32 := ⟨(c6.1 t' 0 zt ft.1).2.2.2.2.2.2.2.2.2.2.1, (c6.1 t' 0 zt ft.1).2.2.2.2.2.2.2.2.2.2.2.1⟩
      have s0 := smp t'
      have skip : aT c (VV c N sd) (12 * t + x) i j k l t' = 0 → wp_X6_startAuxiliary_B175 (fun z0 z1 z2 z3 z4 σ => wp_X6_startAuxiliary_L104 Q (m + 1 + 1) z0 z1 z2 z3 z4 σ) a1 a2 a3 (-1) (t' : Int) Q σ1 := by
        intro hz
        unfold wp_X6_startAuxiliary_B175
        intro x_1 ex
        rw [ex, z3]
        exact ih (t' + 1) σ1 z1 z2 g3 (by rw [sm_1, hz, Int.add_zero]; exact g4) (by rw [sm_1, hz, Int.add_zero]; exact g5)
      unfold wp_X6_startAuxiliary_L104
      rw [low 3 4 (by omega), c3, w32_id (show -2147483648 ≤ (N : Int) by omega) (by omega), w32_id (show -2147483648 ≤ (t' : Int) by omega) (by omega)]
      refine ⟨fun z => absurd z z4, fun _ => ⟨fun z => absurd (by decide) z, fun _ => sp_rootLabel zt16 ?_⟩⟩
      refine sp_cell (t := t) (x := x) (w := 1) h3 rfl z16 z12 (by omega) ?_
      rw [r1, x1, w32_id (show -2147483648 ≤ c (12 * t') 1 by omega) (by omega), w32_id (show -2147483648 ≤ c (12 * t + x) 1 by omega) (by omega)]
      refine ⟨fun q => skip (by unfold aT; rw [if_neg (fun z => q z.1)]), fun q => sp_isAux zt16 (by rw [r6]; exact q6) ?_⟩
      rw [r6, w32_id (show -2147483648 ≤ c (12 * t') 6 by omega) (by omega)]
      refine ⟨fun z => skip (by unfold aT; rw [if_neg (fun w => by omega)]), fun z => ?_⟩
      have m6 : c (12 * t') 6 = 1 := by omega
      have ae : aT c (VV c N sd) (12 * t + x) i j k l t' = aP (VV c N sd) (12 * t + x) i j k l t' (lastP j l + 1 - i) := by unfold aT; rw [if_pos ⟨q, m6⟩]
      have U1 : σ1 23 0 = (U : Int) := by rw [g3 23 0 (fun z => by omega)]; exact hU
      rw [U1, w32_id (show -2147483648 ≤ (U : Int) by omega) (by omega)]
      have cl1 : Cl σ1 u x i j k l (way - ownW c (VV c N sd) (12 * t + x) i j k l - sm (aT c (VV c N sd) (12 * t + x) i j k l) t') := by
        have ne : ∀ w, w ≠ 1 → w < 7 → σ1 25 (nJ u x w) = σ 25 (nJ u x w) := fun w a b => g3 25 _ (fun z => a (nJ_inj z12 b z12 (by omega) z.2).2.2)
        exact ⟨by rw [ne 3 (by omega) (by omega)]; exact b3, by rw [ne 4 (by omega) (by omega)]; exact b4, by rw [ne 5 (by omega) (by omega)]; exact b5, by rw [ne 6 (by omega) (by omega)]; exact b6, g4⟩
      refine ⟨fun y => by omega, fun _ => ?_⟩
      refine sp_tryAuxiliary (U := U) (t' := t') hC1 hu U1 U8 huU ht hx hk zt m6 h1 h2 h3 rfl cl1 (by omega) vs (fun p qq left σ2 i1 i2 i3 i4 i5 i6 i7 y1 y2 y3 y4 y5 y6 y7 => ?_) (fun hle => ?_)
      · unfold wp_X6_startAuxiliary_B175
        intro x_1 ex
        rw [ex, z3]
        refine done (m + 1) (t' + 1) σ2 z2 (by rw [y7 3 4 (fun z => by omega) (fun z => by omega) (fun z => by omega) (fun z => by omega), low 3 4 (by omega)]; exact c3) ?_
        refine hF t' p qq left σ2 ⟨zt, ⟨q, m6⟩, i1, i2, i3, i4, i5, i6, by omega⟩ y1 y2 y3 y4 y5 y6 (fun o k' p1 p2 p3 p4 => ?_)
        rw [y7 o k' p1 p2 p3 p4]
        exact g3 o k' (fun z => p4 ⟨z.1, Or.inl z.2⟩)
      · unfold wp_X6_startAuxiliary_B175
        intro x_1 ex
        rw [ex, z3]
        refine ih (t' + 1) _ z1 z2 (fun o k' p => by rw [su_ko _ _ p]; exact g3 o k' p) (by rw [su_at, sm_1, ae]; omega) (by rw [sm_1, ae]; omega)
  have b75 : ∀ own : Int, own = ownW c (VV c N sd) (12 * t + x) i j k l → wp_X6_startAuxiliary_B75 a1 a2 a3 way own Q σ := by
    intro own ho
    unfold wp_X6_startAuxiliary_B75
    rw [ho, w32_id (show -2147483648 ≤ ownW c (VV c N sd) (12 * t + x) i j k l by omega) (by omega), w32_id (show -2147483648 ≤ way by omega) (by omega)]
    refine ⟨fun z => sp_setNodeCell (w := 1) hu z12 (by omega) h1 h2 rfl ?_, fun z => hP (by omega)⟩
    have := loop (by omega) N 0 (su σ 25 (nJ u x 1) (way - ownW c (VV c N sd) (12 * t + x) i j k l)) (by omega) (by omega) (fun o k' p => su_ko _ _ p) (by rw [su_at, sm_z0, Int.sub_zero]) (by rw [sm_z0]; omega)
    exact ⟨_, this⟩
  unfold wp_X6_startAuxiliary wp_X6_startAuxiliary_B27
  refine sp_nodeCell (w := 1) hu z12 (by omega) h1 h2 rfl ?_
  rw [b1]
  refine sp_cell (t := t) (x := x) (w := 4) h3 rfl z16 z12 (by omega) ?_
  rw [e4, w32_id (show -2147483648 ≤ c (12 * t + x) 4 by omega) (by omega)]
  refine ⟨fun z => ⟨fun _ => b75 0 (by unfold ownW; rw [if_pos z]), fun y => absurd w32_0 y⟩, fun z => ⟨fun y => absurd y (by decide), fun _ => ?_⟩⟩
  refine sp_nodeCell (w := 3) hu z12 (by omega) h1 h2 rfl ?_
  refine sp_nodeCell (w := 4) hu z12 (by omega) h1 h2 rfl ?_
  refine sp_nodeCell (w := 5) hu z12 (by omega) h1 h2 rfl ?_
  refine sp_nodeCell (w := 6) hu z12 (by omega) h1 h2 rfl ?_
  rw [b3, b4, b5, b6]
  have lp := lp_r vs.vs
  have vp : Vt (c (12 * t + (x + 1)) 7) i j k l n := by
    obtain ⟨g1, g2, g3, g4, g5, g6, g7, g8, g9, g10, g11⟩ := c6.1 t x ht hx
    have g3' := (c6.1 t (x + 1) ht hx1).2.2.1
    have h67 : c (12 * t + x) 6 = 1 ↔ c (12 * t + (x + 1)) 7 = 1 := by
      rw [g6]; exact ⟨fun z => z.elim (fun w => by clear g5; omega) (fun w => w.2), fun z => Or.inr ⟨hk, z⟩⟩
    clear g1 g3 g4 g5 g6 g7 g8 g9 g10 g11
    obtain ⟨v1, v2, v3⟩ := vs
    refine ⟨v1, v2, ?_⟩
    rcases v3 with z | z
    · left; refine ⟨?_, z.2⟩
      rcases g3' with w | w
      · exact w
      · have := h67.mpr w; omega
    · right; exact ⟨h67.mp z.1, z.2⟩
  refine sp_partsWays (r := 12 * t + x) vp c1 (by omega) h3 rfl rfl (b75 _ ?_)
  unfold ownW
  rw [if_neg z]
  exact c7.1 true t (x + 1) i l j k ht hx1 vp
