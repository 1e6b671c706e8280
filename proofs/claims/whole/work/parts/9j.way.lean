/-! pure: the class unfolds a way: cells -/
def nJ (u x w : Nat) : Nat := 7 * (12 * u + x) + w
theorem nJ_inj {u x w u' x' w' : Nat} (hx : x < 12) (hw : w < 7) (hx' : x' < 12) (hw' : w' < 7) (h : nJ u x w = nJ u' x' w') : u = u' ∧ x = x' ∧ w = w' := by unfold nJ at h; omega
theorem nJ_ix {u x w : Nat} {a1 a2 a3 : Int} (hu : u < 8) (hx : x < 12) (hw : w < 7) (h1 : a1 = (u : Int)) (h2 : a2 = (x : Int)) (h3 : a3 = (w : Int)) : (0 ≤ w32 ((a1 * 12 + a2) * 7 + a3) ∧ w32 ((a1 * 12 + a2) * 7 + a3) < 672) ∧ (w32 ((a1 * 12 + a2) * 7 + a3)).toNat = nJ u x w := by
  subst h1 h2 h3
  unfold nJ
  rw [w32_id (by omega) (by omega)]; omega
theorem sp_setNodeCell {Q : St → Prop} {σ : St} {u x w : Nat} {a1 a2 a3 v : Int} (hu : u < 8) (hx : x < 12) (hw : w < 7) (h1 : a1 = (u : Int)) (h2 : a2 = (x : Int)) (h3 : a3 = (w : Int)) (h : Q (su σ 25 (nJ u x w) v)) : wp_X6_setNodeCell a1 a2 a3 v Q σ := by
  have b := nJ_ix hu hx hw h1 h2 h3
  unfold wp_X6_setNodeCell
  refine ⟨b.1, fun σ1 e => ?_⟩
  rw [e, b.2]
  exact h
theorem sp_nodeCell {Q : Int → St → Prop} {σ : St} {u x w : Nat} {a1 a2 a3 : Int} (hu : u < 8) (hx : x < 12) (hw : w < 7) (h1 : a1 = (u : Int)) (h2 : a2 = (x : Int)) (h3 : a3 = (w : Int)) (h : Q (σ 25 (nJ u x w)) σ) : wp_X6_nodeCell a1 a2 a3 Q σ := by
  have b := nJ_ix hu hx hw h1 h2 h3
  unfold wp_X6_nodeCell
  refine ⟨b.1, ?_⟩
  rw [b.2]
  exact h
theorem sp_useCell {Q : Int → St → Prop} {σ : St} {u w : Nat} {a1 a2 : Int} (hu : u < 8) (hw : w < 7) (h1 : a1 = (u : Int)) (h2 : a2 = (w : Int)) (h : Q (σ 24 (7 * u + w)) σ) : wp_X6_useCell a1 a2 Q σ := by
  subst h1 h2
  unfold wp_X6_useCell
  rw [w32_id (by omega) (by omega), show ((u : Int) * 7 + (w : Int)).toNat = 7 * u + w by omega]
  exact ⟨by omega, h⟩
/-- a node of a use, laid -/
def Cl (σ : St) (u x i : Nat) (j k : Int) (l : Nat) (way : Int) : Prop := σ 25 (nJ u x 3) = (i : Int) ∧ σ 25 (nJ u x 4) = (l : Int) ∧ σ 25 (nJ u x 5) = j ∧ σ 25 (nJ u x 6) = k ∧ σ 25 (nJ u x 1) = way
/-- all but the laid cells of a node stand -/
def nF (σ σ' : St) (u x : Nat) : Prop := ∀ o k, ¬ (o = 25 ∧ (k = nJ u x 1 ∨ k = nJ u x 3 ∨ k = nJ u x 4 ∨ k = nJ u x 5 ∨ k = nJ u x 6)) → σ' o k = σ o k
theorem sp_lay6 {Q : St → Prop} {σ : St} {u x i l : Nat} {j k way a1 a2 a3 a4 : Int} (hu : u < 8) (hx : x < 12) (h1 : a1 = (u : Int)) (h2 : a2 = (x : Int)) (h3 : a3 = (i : Int)) (h4 : a4 = (l : Int)) (h : ∀ σ', Cl σ' u x i j k l way → nF σ σ' u x → Q σ') : wp_X6_lay a1 a2 a3 a4 j k way Q σ := by
  unfold wp_X6_lay
  refine sp_setNodeCell (w := 3) hu hx (by omega) h1 h2 rfl ?_
  refine sp_setNodeCell (w := 4) hu hx (by omega) h1 h2 rfl ?_
  refine sp_setNodeCell (w := 5) hu hx (by omega) h1 h2 rfl ?_
  refine sp_setNodeCell (w := 6) hu hx (by omega) h1 h2 rfl ?_
  refine sp_setNodeCell (w := 1) hu hx (by omega) h1 h2 rfl ?_
  have ne : ∀ w w', w ≠ w' → w < 7 → w' < 7 → ¬ ((25 : Nat) = 25 ∧ nJ u x w = nJ u x w') := fun w w' a b c z => a (nJ_inj hx b hx c z.2).2.2
  refine h _ ⟨?_, ?_, ?_, ?_, ?_⟩ (fun o k' q => ?_)
  · rw [su_ko _ _ (ne _ _ (by omega) (by omega) (by omega)), su_ko _ _ (ne _ _ (by omega) (by omega) (by omega)), su_ko _ _ (ne _ _ (by omega) (by omega) (by omega)), su_ko _ _ (ne _ _ (by omega) (by omega) (by omega)), su_at]; exact h3
  · rw [su_ko _ _ (ne _ _ (by omega) (by omega) (by omega)), su_ko _ _ (ne _ _ (by omega) (by omega) (by omega)), su_ko _ _ (ne _ _ (by omega) (by omega) (by omega)), su_at]; exact h4
  · rw [su_ko _ _ (ne _ _ (by omega) (by omega) (by omega)), su_ko _ _ (ne _ _ (by omega) (by omega) (by omega)), su_at]
  · rw [su_ko _ _ (ne _ _ (by omega) (by omega) (by omega)), su_at]
  · rw [su_at]
  · rw [su_ko _ _ (fun z => q ⟨z.1, by omega⟩), su_ko _ _ (fun z => q ⟨z.1, by omega⟩), su_ko _ _ (fun z => q ⟨z.1, by omega⟩), su_ko _ _ (fun z => q ⟨z.1, by omega⟩), su_ko _ _ (fun z => q ⟨z.1, by omega⟩)]
theorem Cl_nF {σ σ' : St} {u x u' x' i l : Nat} {j k way : Int} (h : Cl σ u' x' i j k l way) (f : nF σ σ' u x) (hx : x < 12) (hx' : x' < 12) (hne : ¬ (u' = u ∧ x' = x)) : Cl σ' u' x' i j k l way := by
  have g : ∀ w, w < 7 → σ' 25 (nJ u' x' w) = σ 25 (nJ u' x' w) := fun w hw => f _ _ (fun z => by
    rcases z.2 with q | q | q | q | q
    all_goals
      have := nJ_inj hx' hw hx (by omega) q
      exact hne ⟨this.1, this.2.1⟩)
  exact ⟨by rw [g 3 (by omega)]; exact h.1, by rw [g 4 (by omega)]; exact h.2.1, by rw [g 5 (by omega)]; exact h.2.2.1, by rw [g 6 (by omega)]; exact h.2.2.2.1, by rw [g 1 (by omega)]; exact h.2.2.2.2⟩
theorem Cl_of {σ σ' : St} {u x i l : Nat} {j k way : Int} (h : Cl σ u x i j k l way) (g : ∀ w, w < 7 → σ' 25 (nJ u x w) = σ 25 (nJ u x w)) : Cl σ' u x i j k l way := ⟨by rw [g 3 (by omega)]; exact h.1, by rw [g 4 (by omega)]; exact h.2.1, by rw [g 5 (by omega)]; exact h.2.2.1, by rw [g 6 (by omega)]; exact h.2.2.2.1, by rw [g 1 (by omega)]; exact h.2.2.2.2⟩
def uF (σ σ' : St) (U : Nat) : Prop := ∀ o k, ¬ (o = 23 ∧ k = 0) → ¬ (o = 24 ∧ (k = 7 * U ∨ k = 7 * U + 1 ∨ k = 7 * U + 2)) → σ' o k = σ o k
theorem sp_addUse {Q : Int → St → Prop} {σ : St} {U : Nat} {t o a : Int} (hU : σ 23 0 = (U : Int)) (h8 : U < 8) (h : ∀ σ', σ' 23 0 = ((U + 1 : Nat) : Int) → σ' 24 (7 * U) = t → σ' 24 (7 * U + 1) = o → σ' 24 (7 * U + 2) = a → uF σ σ' U → Q (U : Int) σ') : wp_X6_addUse t o a Q σ := by
  unfold wp_X6_addUse
  intro x_1 ex
  rw [hU] at ex
  subst ex
  intro σ2 e2
  rw [w32_id (show -2147483648 ≤ (U : Int) * 7 + 0 by omega) (by omega), w32_id (show -2147483648 ≤ (U : Int) * 7 + 1 by omega) (by omega), w32_id (show -2147483648 ≤ (U : Int) * 7 + 2 by omega) (by omega), show ((U : Int) * 7 + 0).toNat = 7 * U by omega, show ((U : Int) * 7 + 1).toNat = 7 * U + 1 by omega, show ((U : Int) * 7 + 2).toNat = 7 * U + 2 by omega]
  refine ⟨by omega, fun σ3 e3 => ⟨by omega, fun σ4 e4 => ⟨by omega, fun σ5 e5 => ?_⟩⟩⟩
  refine h σ5 ?_ ?_ ?_ ?_ (fun o' k' q1 q2 => ?_)
  · rw [e5, su_ko _ _ (by omega), e4, su_ko _ _ (by omega), e3, su_ko _ _ (by omega), e2, su_at, hU]; omega
  · rw [e5, su_ko _ _ (by omega), e4, su_ko _ _ (by omega), e3, su_at]
  · rw [e5, su_ko _ _ (by omega), e4, su_at]
  · rw [e5, su_at]
  · rw [e5, su_ko _ _ (by omega), e4, su_ko _ _ (by omega), e3, su_ko _ _ (by omega), e2, su_ko _ _ q1]
/-- what unfolding may lean on -/
def CC (c : Nat → Nat → Int) (N : Nat) (sz : Nat → Nat) (sd : Nat → Int) (n : Nat) (hw wo : Nat → Prop) (σ : St) : Prop := n ≤ 8 ∧ N ≤ 16 ∧ σ 3 4 = (N : Int) ∧ (∀ t, t < N → FT σ t (sz t)) ∧ (∀ t x w, t < N → x < sz t → w < 12 → nd σ t x w = c (12 * t + x) w) ∧ CF c N sz hw wo ∧ RD c N sz sd n σ ∧ σ 17 0 = (n : Int) ∧ CL c N sz hw wo
theorem CC_fr {c : Nat → Nat → Int} {N : Nat} {sz : Nat → Nat} {sd : Nat → Int} {n : Nat} {hw wo : Nat → Prop} {σ σ' : St} (h : CC c N sz sd n hw wo σ) (f : ∀ o k, o < 23 → σ' o k = σ o k) : CC c N sz sd n hw wo σ' := by
  obtain ⟨a1, a2, a3, a4, a5, a6, a7, a8⟩ := h
  refine ⟨a1, a2, by rw [f 3 4 (by omega)]; exact a3, fun t ht => FT_fr (a4 t ht) (f 10 t (by omega)) (fun x w _ _ => f 11 _ (by omega)) (by rw [f 7 3 (by omega)]; exact Int.le_refl _) (by rw [f 4 3 (by omega)]; exact Int.le_refl _), fun t x w q1 q2 q3 => by rw [← a5 t x w q1 q2 q3]; exact f 11 _ (by omega), a6, ⟨fun o t x i l j k q1 q2 v => ?_, fun nm i l q1 q2 q3 q4 => ?_, fun nm i p q l q1 q2 q3 q4 q5 q6 => ?_⟩, by rw [f 17 0 (by omega)]; exact a8.1, a8.2⟩
  · rw [← a7.1 o t x i l j k q1 q2 v, cT_ar, cT_ar]
    exact f _ _ (by cases o <;> decide)
  · rw [← a7.2.1 nm i l q1 q2 q3 q4]; exact f _ _ (by omega)
  · rw [← a7.2.2 nm i p q l q1 q2 q3 q4 q5 q6]; exact f _ _ (by omega)
theorem sp_rootLabel {Q : Int → St → Prop} {σ : St} {t : Nat} (ht : t ≤ 16) (h : Q (nd σ t 0 1) σ) : wp_X1_rootLabel (t : Int) Q σ := by
  unfold wp_X1_rootLabel
  unfold wp_X1_row
  exact sp_cell (t := t) (x := 0) (w := 1) (by omega) rfl ht (by omega) (by omega) h
theorem sp_isAux {Q : Int → St → Prop} {σ : St} {t : Nat} (ht : t ≤ 16) (h6 : nd σ t 0 6 = 0 ∨ nd σ t 0 6 = 1) (h : Q (nd σ t 0 6) σ) : wp_X1_isAuxiliary (t : Int) Q σ := by
  unfold wp_X1_isAuxiliary
  unfold wp_X1_row
  exact sp_hasFoot (t := t) (x := 0) (by omega) ht (by omega) h6 ⟨h6, h⟩
theorem sp_row1 {Q : Int → St → Prop} {σ : St} {t x : Nat} {a b : Int} (h1 : a = (t : Int)) (h2 : b = (x : Int)) (h : Q ((12 * t + x : Nat) : Int) σ) : wp_X1_row a b Q σ := by
  unfold wp_X1_row
  rw [h1, h2, show (t : Int) * 12 + (x : Int) = ((12 * t + x : Nat) : Int) by omega]
  exact h
def fI (c : Nat → Nat → Int) (V : Tb) (nm : Int) (i l : Nat) : Nat → Int := fun t => if c (12 * t) 1 = nm ∧ c (12 * t) 6 = 0 then V false (12 * t) i (-1) (-1) l else 0
theorem ini_fI (c : Nat → Nat → Int) (N : Nat) (V : Tb) (nm : Int) (i l : Nat) : ini c N V nm i l = sm (fI c V nm i l) N := rfl
theorem sm_mono {f : Nat → Int} (h : ∀ d, 0 ≤ f d) {a b : Nat} (hab : a ≤ b) : sm f a ≤ sm f b := by
  induction b with
  | zero => rw [show a = 0 by omega]; exact Int.le_refl _
  | succ b ih =>
    by_cases e : a = b + 1
    · rw [e]; exact Int.le_refl _
    · rw [sm_1]
      have := ih (by omega)
      have := h b
      omega
theorem fI_r (c : Nat → Nat → Int) (N : Nat) (sd : Nat → Int) (nm : Int) (i l t : Nat) : 0 ≤ fI c (VV c N sd) nm i l t ∧ fI c (VV c N sd) nm i l t ≤ 1000000000 := by
  unfold fI
  split
  · exact VV_r _ _ _ _ _ _ _ _ _
  · omega
/-- a tree for a label, and which of its ways -/
def SI (c : Nat → Nat → Int) (N : Nat) (V : Tb) (nm : Int) (i l : Nat) (way : Int) (t : Nat) (left : Int) : Prop := t < N ∧ (c (12 * t) 1 = nm ∧ c (12 * t) 6 = 0) ∧ 0 ≤ left ∧ left < V false (12 * t) i (-1) (-1) l ∧ way = sm (fI c V nm i l) t + left
theorem sp_startInitial {c : Nat → Nat → Int} {N : Nat} {sz : Nat → Nat} {sd : Nat → Int} {n : Nat} {hw wo : Nat → Prop} {σ : St} {Q : Int → St → Prop} {U i l : Nat} {nm of at_ way a4 a5 : Int} (hC : CC c N sz sd n hw wo σ) (hU : σ 23 0 = (U : Int)) (h8 : U < 8) (hnm : 0 ≤ nm ∧ nm < 16) (hil : i ≤ l) (hln : l ≤ n) (h4 : a4 = (i : Int)) (h5 : a5 = (l : Int)) (hway : 0 ≤ way ∧ way < 1000000000) (hlt : way < ini c N (VV c N sd) nm i l)
    (h : ∀ t left σ', SI c N (VV c N sd) nm i l way t left → σ' 23 0 = ((U + 1 : Nat) : Int) → σ' 24 (7 * U) = (t : Int) → σ' 24 (7 * U + 1) = of → σ' 24 (7 * U + 2) = at_ → Cl σ' U 0 i (-1) (-1) l left → (∀ o k, ¬ (o = 23 ∧ k = 0) → ¬ (o = 24 ∧ (k = 7 * U ∨ k = 7 * U + 1 ∨ k = 7 * U + 2)) → ¬ (o = 25 ∧ (k = nJ U 0 1 ∨ k = nJ U 0 3 ∨ k = nJ U 0 4 ∨ k = nJ U 0 5 ∨ k = nJ U 0 6)) → σ' o k = σ o k) → Q (U : Int) σ') : wp_X6_startInitial nm of at_ a4 a5 way Q σ := by
  obtain ⟨c1, c2, c3, c4, c5, c6, c7, c8⟩ := hC
  have f0 := fun t => (fI_r c N sd nm i l t).1
  have loop : ∀ (m t : Nat), N - t = m → t ≤ N → sm (fI c (VV c N sd) nm i l) t ≤ way → wp_X6_startInitial_L7 Q (m + 1) nm of at_ a4 a5 (way - sm (fI c (VV c N sd) nm i l) t) (t : Int) σ := by
    intro m
    induction m with
    | zero =>
      intro t e1 e2 e3
      rw [show t = N by omega, ← ini_fI] at e3
      omega
    | succ m ih =>
      intro t e1 e2 e3
      have z0 : t < N := by omega
      have z1 : N - (t + 1) = m := by omega
      have z2 : t + 1 ≤ N := by omega
      have z3 : (t : Int) + 1 = ((t + 1 : Nat) : Int) := by omega
      have z4 : ¬ (N : Int) ≤ (t : Int) := by omega
      have z6 : t < 16 := by omega
      have s0 := sm_p (f := fI c (VV c N sd) nm i l) t (fun d _ => f0 d)
      have ft := c6.2 t z0
      have c1r : nd σ t 0 1 = c (12 * t) 1 := c5 t 0 1 z0 ft.1 (by omega)
      have c6r : nd σ t 0 6 = c (12 * t) 6 := c5 t 0 6 z0 ft.1 (by omega)
      have g6 : c (12 * t) 6 = 0 ∨ c (12 * t) 6 = 1 := (c6.1 t 0 z0 ft.1).2.1
      have g1 : 0 ≤ c (12 * t) 1 ∧ c (12 * t) 1 < 32 := ⟨(c6.1 t 0 z0 ft.1).2.2.2.2.2.2.2.2.2.2.1, (c6.1 t 0 z0 ft.1).2.2.2.2.2.2.2.2.2.2.2.1⟩
      have row0 : (t : Int) * 12 + 0 = ((12 * t + 0 : Nat) : Int) := by omega
      have skip : fI c (VV c N sd) nm i l t = 0 → ∀ x_1 : Int, x_1 = (t : Int) + 1 → wp_X6_startInitial_L7 Q (m + 1) nm of at_ a4 a5 (way - sm (fI c (VV c N sd) nm i l) t) x_1 σ := by
        intro hz x_1 ex
        rw [ex, z3]
        have := ih (t + 1) z1 z2 (by rw [sm_1, hz]; omega)
        rw [sm_1, hz, Int.add_zero] at this
        exact this
      unfold wp_X6_startInitial_L7 wp_X6_startInitial_B119
      rw [c3, hU, w32_id (show -2147483648 ≤ (N : Int) by omega) (by omega), w32_id (show -2147483648 ≤ (t : Int) by omega) (by omega), w32_id (show -2147483648 ≤ (U : Int) by omega) (by omega)]
      refine ⟨fun z => absurd z z4, fun _ => ⟨fun z => by omega, fun _ => ?_⟩⟩
      refine sp_rootLabel (by omega) ?_
      rw [c1r, w32_id (show -2147483648 ≤ c (12 * t) 1 by omega) (by omega), w32_id (show -2147483648 ≤ nm by omega) (by omega)]
      refine ⟨fun q => skip (by unfold fI; rw [if_neg (fun z => q z.1)]), fun q => ?_⟩
      refine sp_isAux (by omega) (by rw [c6r]; exact g6) ?_
      rw [c6r]
      refine ⟨fun q6 => sp_row1 (t := t) (x := 0) rfl rfl ?_, fun q6 => ?_⟩
      · have q6' : c (12 * t) 6 = 0 := by rw [w32_id (by omega) (by omega)] at q6; exact q6
        have vv : Vt 0 i (-1) (-1) l n := ⟨hil, hln, Or.inl ⟨rfl, rfl, rfl⟩⟩
        have eT : cT σ false (12 * t) i (-1) (-1) l = VV c N sd false (12 * t) i (-1) (-1) l := c7.1 false t 0 i l (-1) (-1) z0 ft.1 ⟨hil, hln, Or.inl ⟨q6', rfl, rfl⟩⟩
        have ef : fI c (VV c N sd) nm i l t = VV c N sd false (12 * t) i (-1) (-1) l := by unfold fI; rw [if_pos ⟨q, q6'⟩]
        have vr := VV_r c N sd false (12 * t) i (-1) (-1) l
        refine sp_nodeWays (r := 12 * t) vv c1 (by omega) rfl h4 h5 ?_
        rw [eT, w32_id (show -2147483648 ≤ VV c N sd false (12 * t) i (-1) (-1) l by omega) (by omega), w32_id (show -2147483648 ≤ way - sm (fI c (VV c N sd) nm i l) t by omega) (by omega)]
        refine ⟨fun z x_9 e9 x_1 ex => ?_, fun z => ?_⟩
        · rw [ex, z3, e9]
          have := ih (t + 1) z1 z2 (by rw [sm_1, ef]; omega)
          rw [sm_1, ef, show way - (sm (fI c (VV c N sd) nm i l) t + VV c N sd false (12 * t) i (-1) (-1) l) = way - sm (fI c (VV c N sd) nm i l) t - VV c N sd false (12 * t) i (-1) (-1) l by omega] at this
          exact this
        · refine sp_addUse hU h8 (fun σ1 a1 a2 a3 a4 a5 => ?_)
          refine sp_lay6 (u := U) (x := 0) (i := i) (l := l) h8 (by omega) rfl rfl h4 h5 (fun σ2 b1 b2 => ?_)
          have n25 : ∀ o k, o ≠ 25 → σ2 o k = σ1 o k := fun o k q => b2 o k (fun z => q z.1)
          refine h t _ σ2 ⟨z0, ⟨q, q6'⟩, by omega, by omega, by omega⟩ (by rw [n25 23 0 (by omega)]; exact a1) (by rw [n25 24 _ (by omega)]; exact a2) (by rw [n25 24 _ (by omega)]; exact a3) (by rw [n25 24 _ (by omega)]; exact a4) b1 (fun o k q1 q2 q3 => by rw [b2 o k q3]; exact a5 o k q1 q2)
      · have q6' : c (12 * t) 6 ≠ 0 := by rw [w32_id (by omega) (by omega)] at q6; exact q6
        exact skip (by unfold fI; rw [if_neg (fun z => q6' z.2)])
  unfold wp_X6_startInitial
  have := loop N 0 (by omega) (by omega) (by rw [sm_z0]; exact hway.1)
  rw [sm_z0, Int.sub_zero] at this
  exact ⟨_, this⟩
