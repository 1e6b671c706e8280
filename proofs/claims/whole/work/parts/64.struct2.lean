/-! pure: the shape is kept by each token -/
theorem tnS_sz {σ : St} {o w cap s e : Nat} (hN : NmI σ o w cap) : σ o 3 ≤ tnS σ o w cap s e o 3 ∧ (tnR σ o w cap s e ≠ -1 → 0 ≤ tnR σ o w cap s e ∧ tnR σ o w cap s e < tnS σ o w cap s e o 3) := by
  have h1 := hN.2.1
  unfold tnS tnR
  rcases fdN_r (s := s) (e := e) hN with q | ⟨q1, q2⟩
  · rw [q]
    simp only [ne_eq, not_true_eq_false, if_false]
    by_cases z : σ o 3 = (cap : Int)
    · rw [if_pos z, if_pos z]; exact ⟨Int.le_refl _, fun y => absurd rfl y⟩
    · rw [if_neg z, if_neg z, addN_sz]; exact ⟨by omega, fun _ => by omega⟩
  · rw [if_pos (show fdN σ o w s e ≠ -1 by omega), if_pos (show fdN σ o w s e ≠ -1 by omega)]
    exact ⟨Int.le_refl _, fun _ => ⟨q1, q2⟩⟩
theorem PK_lab {σ : St} {t n s e : Nat} (hP : PI σ t n) (h : PK σ t n) (h03 : σ 12 4 = 0 ∨ σ 12 4 = 3) (hr : tnR σ 4 8 16 s e ≠ -1) : PK (labS σ s e) t n := by
  obtain ⟨hJ, hr0, hw, hw2, hl, f0, f1⟩ := h
  have hN4 := hP.2.1
  obtain ⟨s1, s2⟩ := tnS_sz (s := s) (e := e) hN4
  have g : ∀ x k, ¬ (x = 12 ∧ (k = 4 ∨ k = 6 ∨ k = 7 ∨ k = 8)) → ¬ (x = 4 ∧ k = 3) → x ≠ 5 → x ≠ 6 → labS σ s e x k = σ x k := fun x k a b c d => by
    unfold labS
    rw [su_ko _ _ (by omega), su_ko _ _ (by omega), su_ko _ _ (by omega), su_ko _ _ (by omega), tnS_fr _ (by omega) (by omega) (by omega)]
  have gnd : ∀ x w, nd (labS σ s e) t x w = nd σ t x w := fun x w => g 11 _ (by omega) (by omega) (by omega) (by omega)
  have e4 : labS σ s e 12 4 = 1 := by unfold labS; rw [su_at]
  have e6 : labS σ s e 12 6 = tnR σ 4 8 16 s e := by unfold labS; rw [su_ko _ _ (by omega), su_ko _ _ (by omega), su_ko _ _ (by omega), su_at]
  have e43 : labS σ s e 4 3 = tnS σ 4 8 16 s e 4 3 := by unfold labS; rw [su_ko _ _ (by omega), su_ko _ _ (by omega), su_ko _ _ (by omega), su_ko _ _ (by omega)]
  have e5 := g 12 5 (by omega) (by omega) (by omega) (by omega)
  have e12 := g 12 12 (by omega) (by omega) (by omega) (by omega)
  have e9 := g 12 9 (by omega) (by omega) (by omega) (by omega)
  have e11 := g 12 11 (by omega) (by omega) (by omega) (by omega)
  have e73 := g 7 3 (by omega) (by omega) (by omega) (by omega)
  unfold PK
  rw [e4, e5, e12, e9, e6, e11, e73, e43]
  simp only [gnd]
  refine ⟨PJ_st hJ (fun _ _ => rfl) (fun _ _ => rfl) (by rcases h03 with q | q <;> rw [q] <;> decide) (Or.inl rfl), fun x hx => ?_, hw, hw2, fun _ => s2 hr, f0, f1⟩
  obtain ⟨r1, r2, r3, r4, r5, r6⟩ := hr0 x hx
  exact ⟨r1, r2, r3, fun y => by have := r4 y; omega, r5, r6⟩
theorem PK_mark {σ : St} {t n : Nat} (h : PK σ t n) (h1 : σ 12 4 = 1) (v : Int) : PK (su (su σ 12 8 v) 12 4 2) t n := by
  obtain ⟨hJ, hr0, hw, hw2, hl, f0, f1⟩ := h
  have g : ∀ x i, ¬ (x = 12 ∧ (i = 4 ∨ i = 8)) → su (su σ 12 8 v) 12 4 2 x i = σ x i := fun x i c => by rw [su_ko _ _ (by omega), su_ko _ _ (by omega)]
  have gnd : ∀ x w, nd (su (su σ 12 8 v) 12 4 2) t x w = nd σ t x w := fun x w => g 11 _ (by omega)
  unfold PK
  rw [su_at, g 12 5 (by omega), g 12 12 (by omega), g 12 9 (by omega), g 12 6 (by omega), g 12 11 (by omega), g 7 3 (by omega), g 4 3 (by omega)]
  simp only [gnd]
  exact ⟨PJ_st hJ (fun _ _ => rfl) (fun _ _ => rfl) (by rw [h1]; decide) (Or.inr rfl), hr0, hw, hw2, fun _ => hl (Or.inl h1), f0, f1⟩
theorem PK_close {σ : St} {t n : Nat} (h : PK σ t n) (h3 : σ 12 4 = 3) : PK (closeS σ t) t n := by
  obtain ⟨hJ, hr0, hw, hw2, hl, f0, f1⟩ := h
  have g : ∀ x i, ¬ (x = 12 ∧ (i = 4 ∨ i = 5)) → closeS σ t x i = σ x i := fun x i c => by
    unfold closeS
    rw [su_ko _ _ (by omega), su_ko _ _ (by omega)]
  have gnd : ∀ x w, nd (closeS σ t) t x w = nd σ t x w := fun x w => g 11 _ (by omega)
  have e4 : closeS σ t 12 4 = if nd σ t (σ 12 5).toNat 2 = -1 then 4 else 3 := by unfold closeS; rw [su_at]
  have e5 : closeS σ t 12 5 = nd σ t (σ 12 5).toNat 2 := by unfold closeS; rw [su_ko _ _ (by omega), su_at]
  unfold PK
  rw [e4, e5, g 12 12 (by omega), g 12 9 (by omega), g 12 6 (by omega), g 12 11 (by omega), g 7 3 (by omega), g 4 3 (by omega)]
  simp only [gnd]
  exact ⟨PJ_close hJ (fun _ _ => rfl) (fun _ _ => rfl) h3 rfl rfl, hr0, hw, hw2, fun q => by rcases q with q | q <;> split at q <;> exact absurd q (by decide), f0, f1⟩
/-- a leaf: σ1 is σ with other scratch numbers -/
theorem PK_leaf {σ σ1 : St} {t n : Nat} {k nme : Int} (hn : n < 12) (h : PK σ t n) (hcur : -1 ≤ σ 12 5 ∧ σ 12 5 < (n : Int)) (h4 : σ 12 4 ≠ 4) (hk : k = 1 ∨ k = 2 ∨ k = 3) (gnd : ∀ x w, nd σ1 t x w = nd σ t x w) (g5 : σ1 12 5 = σ 12 5) (g7 : σ 7 3 ≤ σ1 7 3) (g4 : σ 4 3 ≤ σ1 4 3) (hnm : 0 ≤ nme ∧ (k = 3 → nme < σ1 7 3) ∧ (k ≠ 3 → nme < σ1 4 3))
    (hw3 : (k = 3 → σ1 12 12 = 1) ∧ (k ≠ 3 → σ1 12 12 = σ 12 12)) (hf2 : (k = 2 → 1 ≤ σ1 12 9 ∧ (σ1 12 9 = 1 → σ 12 9 = 0 ∧ σ1 12 11 = nme)) ∧ (k ≠ 2 → σ1 12 9 = σ 12 9 ∧ σ1 12 11 = σ 12 11)) : PK (leafS σ1 t n k nme) t (n + 1) := by
  have hk03 : 0 ≤ k ∧ k ≤ 3 := by clear h; omega
  have hkne : k ≠ 0 := by clear h; omega
  obtain ⟨hJ, hr0, hw, hw2, hl, f0, f1⟩ := h
  have hcur1 : -1 ≤ σ1 12 5 ∧ σ1 12 5 < (n : Int) := by rw [g5]; exact hcur
  have g : ∀ x i, x ≠ 11 → x ≠ 10 → ¬ (x = 12 ∧ i = 4) → leafS σ1 t n k nme x i = σ1 x i := fun x i a b c => by
    unfold leafS
    rw [su_ko _ _ (by omega), aRow_fr _ _ _ _ _ _ (by omega) (by omega)]
  have gl : ∀ x w, nd (leafS σ1 t n k nme) t x w = nd (aRow σ1 t n k nme (σ1 12 5)) t x w := fun x w => by unfold leafS; exact nd_su _ _ (by omega)
  have v : ∀ x w, x < 12 → w < 12 → nd (leafS σ1 t n k nme) t x w = _ := fun x w hx hw => (gl x w).trans (aRow_nd σ1 (t := t) (t' := t) k nme (σ1 12 5) hn hx hw hcur1)
  have k0 : ∀ x, x < n → nd (leafS σ1 t n k nme) t x 0 = nd σ t x 0 := fun x hx => by rw [v x 0 (by omega) (by omega), if_neg (by omega), if_neg (by omega), gnd]
  have k2 : ∀ x, x < n → nd (leafS σ1 t n k nme) t x 2 = nd σ t x 2 := fun x hx => by rw [v x 2 (by omega) (by omega), if_neg (by omega), if_neg (by omega), gnd]
  have k1 : ∀ x, x < n → nd (leafS σ1 t n k nme) t x 1 = nd σ t x 1 := fun x hx => by rw [v x 1 (by omega) (by omega), if_neg (by omega), if_neg (by omega), gnd]
  have kn0 : nd (leafS σ1 t n k nme) t n 0 = k := by rw [v n 0 (by omega) (by omega), if_pos ⟨rfl, rfl⟩, if_pos rfl]
  have kn1 : nd (leafS σ1 t n k nme) t n 1 = nme := by rw [v n 1 (by omega) (by omega), if_pos ⟨rfl, rfl⟩, if_neg (by omega), if_pos rfl]
  have kn2 : nd (leafS σ1 t n k nme) t n 2 = σ 12 5 := by rw [v n 2 (by omega) (by omega), if_pos ⟨rfl, rfl⟩, if_neg (by omega), if_neg (by omega), if_pos rfl, g5]
  have kn4 : nd (leafS σ1 t n k nme) t n 4 = 0 := by rw [v n 4 (by omega) (by omega), if_pos ⟨rfl, rfl⟩, if_neg (by omega), if_neg (by omega), if_neg (by omega), if_neg (by omega), if_pos rfl]
  have e4 : leafS σ1 t n k nme 12 4 = if σ 12 5 = -1 then 4 else 3 := by unfold leafS; rw [su_at, g5]
  have hpd : Pd (fun x => nd σ1 t x 2) n := fun x hx => by simp only [gnd]; exact hJ.1 x hx
  have hr1 : ∀ x, x < n → True ∧ 0 ≤ nd σ1 t x 1 ∧ (nd σ1 t x 0 = 3 → nd σ1 t x 1 < σ1 7 3) ∧ (nd σ1 t x 0 ≠ 3 → nd σ1 t x 1 < σ1 4 3) ∧ (0 ≤ nd σ1 t x 4 ∧ nd σ1 t x 4 ≤ 2) ∧ nd σ1 t x 3 = chc (fun y => nd σ1 t y 2) n (x : Int) := fun x hx => by
    simp only [gnd]
    obtain ⟨r1, r2, r3, r4, r5, r6⟩ := hr0 x hx
    exact ⟨r1, r2, fun y => by have := r3 y; omega, fun y => by have := r4 y; omega, r5, r6⟩
  refine ⟨?_, PK_rows hn hpd hcur1 hr1 (by rw [g 7 3 (by omega) (by omega) (by omega)]; exact Int.le_refl _) (by rw [g 4 3 (by omega) (by omega) (by omega)]; exact Int.le_refl _) (by rw [g 7 3 (by omega) (by omega) (by omega), g 4 3 (by omega) (by omega) (by omega)]; exact hnm) (by rw [kn4]; omega) (fun x w hx hw _ => gl x w) (fun x hx => by rw [v x 4 (by omega) (by omega), if_neg (by omega), if_neg (by omega)]), ?_, ?_, fun q => ?_, ?_, ?_⟩
  · rw [e4, g 12 5 (by omega) (by omega) (by omega), g5]
    exact PJ_add hJ k0 k2 kn0 kn2 h4 hk03 (Or.inl ⟨hkne, rfl, rfl⟩)
  · rw [g 12 12 (by omega) (by omega) (by omega)]
    by_cases q : k = 3
    · exact Or.inl (hw3.1 q)
    · rw [hw3.2 q]
      rcases hw with z | ⟨z, z2⟩
      · exact Or.inl z
      · refine Or.inr ⟨z, fun x hx => ?_⟩
        by_cases y : x = n
        · rw [y, kn0]; exact q
        · rw [k0 x (by omega)]; exact z2 x (by omega)
  · rw [g 12 12 (by omega) (by omega) (by omega)]
    intro z
    by_cases q : k = 3
    · exact ⟨n, by omega, by rw [kn0]; exact q⟩
    · rw [hw3.2 q] at z
      obtain ⟨x, hx, hx2⟩ := hw2 z
      exact ⟨x, by omega, by rw [k0 x hx]; exact hx2⟩
  · rw [e4] at q
    rcases q with q | q <;> split at q <;> exact absurd q (by decide)
  · rw [g 12 9 (by omega) (by omega) (by omega)]
    intro z x hx
    by_cases q : k = 2
    · have := (hf2.1 q).1; omega
    · rw [(hf2.2 q).1] at z
      by_cases y : x = n
      · rw [y, kn0]; exact q
      · rw [k0 x (by omega)]; exact f0 z x (by omega)
  · rw [g 12 9 (by omega) (by omega) (by omega), g 12 11 (by omega) (by omega) (by omega)]
    intro z
    by_cases q : k = 2
    · obtain ⟨z0, z1⟩ := (hf2.1 q).2 z
      refine ⟨n, by omega, by rw [kn0]; exact q, by rw [kn1]; exact z1.symm, fun x hx hx2 => ?_⟩
      by_cases y : x = n
      · exact y
      · rw [k0 x (by omega)] at hx2; exact absurd hx2 (f0 z0 x (by omega))
    · rw [(hf2.2 q).1] at z
      obtain ⟨f, a1, a2, a3, a4⟩ := f1 z
      refine ⟨f, by omega, by rw [k0 f a1]; exact a2, by rw [k1 f a1, (hf2.2 q).2]; exact a3, fun x hx hx2 => ?_⟩
      by_cases y : x = n
      · rw [y, kn0] at hx2; exact absurd hx2 q
      · rw [k0 x (by omega)] at hx2; exact a4 x (by omega) hx2
theorem PK_open {σ : St} {t n : Nat} (hn : n < 12) (h : PK σ t n) (hcur : -1 ≤ σ 12 5 ∧ σ 12 5 < (n : Int)) (h12 : σ 12 4 = 1 ∨ σ 12 4 = 2) (hmk : 0 ≤ σ 12 8 ∧ σ 12 8 ≤ 2) : PK (openS σ t n) t (n + 1) := by
  have h4 : σ 12 4 ≠ 4 := by rcases h12 with q | q <;> rw [q] <;> decide
  obtain ⟨hJ, hr0, hw, hw2, hl, f0, f1⟩ := h
  have hl2 := hl h12
  have g : ∀ x i, x ≠ 11 → x ≠ 10 → ¬ (x = 12 ∧ (i = 4 ∨ i = 5)) → openS σ t n x i = σ x i := fun x i a b c => by
    unfold openS
    rw [su_ko _ _ (by omega), sn_fr _ _ a, su_ko _ _ (by omega), aRow_fr _ _ _ _ _ _ (by omega) (by omega)]
  have gl : ∀ x w, x < 12 → w < 12 → w ≠ 4 → nd (openS σ t n) t x w = nd (aRow σ t n 0 (σ 12 6) (σ 12 5)) t x w := fun x w hx hw hw4 => by
    unfold openS
    rw [nd_su _ _ (by omega), nd_sn _ _ hn (by omega) hx hw, if_neg (by omega), nd_su _ _ (by omega)]
  have v : ∀ x w, x < 12 → w < 12 → w ≠ 4 → nd (openS σ t n) t x w = _ := fun x w hx hw hw4 => (gl x w hx hw hw4).trans (aRow_nd σ (t := t) (t' := t) 0 (σ 12 6) (σ 12 5) hn hx hw hcur)
  have k0 : ∀ x, x < n → nd (openS σ t n) t x 0 = nd σ t x 0 := fun x hx => by rw [v x 0 (by omega) (by omega) (by omega), if_neg (by omega), if_neg (by omega)]
  have k2 : ∀ x, x < n → nd (openS σ t n) t x 2 = nd σ t x 2 := fun x hx => by rw [v x 2 (by omega) (by omega) (by omega), if_neg (by omega), if_neg (by omega)]
  have k1 : ∀ x, x < n → nd (openS σ t n) t x 1 = nd σ t x 1 := fun x hx => by rw [v x 1 (by omega) (by omega) (by omega), if_neg (by omega), if_neg (by omega)]
  have k4 : ∀ x, x < n → nd (openS σ t n) t x 4 = nd σ t x 4 := fun x hx => by
    unfold openS
    rw [nd_su _ _ (by omega), nd_sn _ _ hn (by omega) (by omega) (by omega), if_neg (by omega), nd_su _ _ (by omega), aRow_nd σ 0 (σ 12 6) (σ 12 5) hn (by omega) (by omega) hcur, if_neg (by omega), if_neg (by omega)]
  have kn0 : nd (openS σ t n) t n 0 = 0 := by rw [v n 0 (by omega) (by omega) (by omega), if_pos ⟨rfl, rfl⟩, if_pos rfl]
  have kn2 : nd (openS σ t n) t n 2 = σ 12 5 := by rw [v n 2 (by omega) (by omega) (by omega), if_pos ⟨rfl, rfl⟩, if_neg (by omega), if_neg (by omega), if_pos rfl]
  have kn4 : nd (openS σ t n) t n 4 = σ 12 8 := by unfold openS; rw [nd_su _ _ (by omega), nd_sn _ _ hn (by omega) hn (by omega), if_pos ⟨rfl, rfl, rfl⟩]
  have e4 : openS σ t n 12 4 = 0 := by unfold openS; rw [su_at]
  have e5 : openS σ t n 12 5 = (n : Int) := by unfold openS; rw [su_ko _ _ (by omega), sn_fr _ _ (by omega), su_at]
  have g73 := g 7 3 (by omega) (by omega) (by omega)
  have g43 := g 4 3 (by omega) (by omega) (by omega)
  refine ⟨?_, PK_rows hn hJ.1 hcur hr0 (by rw [g73]; exact Int.le_refl _) (by rw [g43]; exact Int.le_refl _) (by rw [g73, g43]; exact ⟨hl2.1, fun q => absurd q (by decide), fun _ => hl2.2⟩) (by rw [kn4]; exact hmk) gl k4, ?_, ?_, fun q => ?_, ?_, ?_⟩
  · rw [e4, e5]
    exact PJ_add hJ k0 k2 kn0 kn2 h4 ⟨by decide, by decide⟩ (Or.inr ⟨rfl, rfl, rfl⟩)
  · rw [g 12 12 (by omega) (by omega) (by omega)]
    rcases hw with z | ⟨z, z2⟩
    · exact Or.inl z
    · refine Or.inr ⟨z, fun x hx => ?_⟩
      by_cases y : x = n
      · rw [y, kn0]; decide
      · rw [k0 x (by omega)]; exact z2 x (by omega)
  · rw [g 12 12 (by omega) (by omega) (by omega)]
    intro z
    obtain ⟨x, hx, hx2⟩ := hw2 z
    exact ⟨x, by omega, by rw [k0 x hx]; exact hx2⟩
  · rw [e4] at q
    rcases q with q | q <;> exact absurd q (by decide)
  · rw [g 12 9 (by omega) (by omega) (by omega)]
    intro z x hx
    by_cases y : x = n
    · rw [y, kn0]; decide
    · rw [k0 x (by omega)]; exact f0 z x (by omega)
  · rw [g 12 9 (by omega) (by omega) (by omega), g 12 11 (by omega) (by omega) (by omega)]
    intro z
    obtain ⟨f, a1, a2, a3, a4⟩ := f1 z
    refine ⟨f, by omega, by rw [k0 f a1]; exact a2, by rw [k1 f a1]; exact a3, fun x hx hx2 => ?_⟩
    by_cases y : x = n
    · rw [y, kn0] at hx2; exact absurd hx2 (by decide)
    · rw [k0 x (by omega)] at hx2; exact a4 x (by omega) hx2
