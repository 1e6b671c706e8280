theorem PI_open {σ : St} {t n : Nat} (hP : PI σ t n) (hn : n < 12) : PI (openS σ t n) t (n + 1) := by
  obtain ⟨hI, hN4, hN7, h34, ht, hsz, hn12, hp, hpar, hst, hst2, hst3, hfe, hmk⟩ := hP
  have g : ∀ x i, x ≠ 11 → ¬ (x = 10 ∧ i = t) → ¬ (x = 12 ∧ (i = 4 ∨ i = 5)) → openS σ t n x i = σ x i := fun x i a b c => by
    unfold openS
    rw [su_ko _ _ (by omega), sn_fr _ _ a, su_ko _ _ (by omega), aRow_fr _ _ _ _ _ _ (by omega) b]
  have gnd : ∀ x, x < 12 → nd (openS σ t n) t x 2 = nd (aRow σ t n 0 (σ 12 6) (σ 12 5)) t x 2 := fun x hx => by
    unfold openS
    rw [nd_su _ _ (by omega), nd_sn _ _ hn (by omega) hx (by omega), if_neg (by omega), nd_su _ _ (by omega)]
  have e4 : openS σ t n 12 4 = 0 := by unfold openS; rw [su_at]
  have e5 : openS σ t n 12 5 = (n : Int) := by unfold openS; rw [su_ko _ _ (by omega), sn_fr _ _ (by omega), su_at]
  have e10 : openS σ t n 10 t = ((n + 1 : Nat) : Int) := by unfold openS; rw [su_ko _ _ (by omega), sn_fr _ _ (by omega), su_ko _ _ (by omega), aRow_sz]
  refine ⟨TpI_of hI (g 1 1 (by omega) (by omega) (by omega)) (fun k => g 2 k (by omega) (by omega) (by omega)), NmI_of hN4 (g 4 0 (by omega) (by omega) (by omega)) (g 4 3 (by omega) (by omega) (by omega)) (fun k => g 5 k (by omega) (by omega) (by omega)) (fun k => g 6 k (by omega) (by omega) (by omega)), NmI_of hN7 (g 7 0 (by omega) (by omega) (by omega)) (g 7 3 (by omega) (by omega) (by omega)) (fun k => g 8 k (by omega) (by omega) (by omega)) (fun k => g 9 k (by omega) (by omega) (by omega)), by rw [g 3 4 (by omega) (by omega) (by omega)]; exact h34, ht, e10, by omega, by rw [e5]; omega, fun x hx => ?_, by rw [e4]; omega, fun q => by rw [e4] at q; omega, fun q => by rw [e4] at q; omega, by rw [g 12 9 (by omega) (by omega) (by omega)]; omega, by rw [g 12 8 (by omega) (by omega) (by omega)]; exact hmk⟩
  rw [gnd x (by omega), aRow_nd σ 0 _ _ hn (by omega) (by omega) hp]
  by_cases e : x = n
  · rw [if_pos ⟨rfl, e⟩, if_neg (by omega), if_neg (by omega), if_pos rfl]; omega
  · rw [if_neg (by omega), if_neg (by omega)]; exact hpar x (by omega)
theorem PI_close {σ : St} {t n : Nat} (hP : PI σ t n) (hp0 : σ 12 5 ≠ -1) : PI (closeS σ t) t n := by
  obtain ⟨hI, hN4, hN7, h34, ht, hsz, hn12, hp, hpar, hst, hst2, hst3, hfe, hmk⟩ := hP
  have hx := hpar (σ 12 5).toNat (by omega)
  have g : ∀ x i, ¬ (x = 12 ∧ (i = 4 ∨ i = 5)) → closeS σ t x i = σ x i := fun x i c => by
    unfold closeS
    rw [su_ko _ _ (by omega), su_ko _ _ (by omega)]
  have gnd : ∀ x w, nd (closeS σ t) t x w = nd σ t x w := fun x w => g 11 _ (by omega)
  have e4 : closeS σ t 12 4 = if nd σ t (σ 12 5).toNat 2 = -1 then 4 else 3 := by unfold closeS; rw [su_at]
  have e5 : closeS σ t 12 5 = nd σ t (σ 12 5).toNat 2 := by unfold closeS; rw [su_ko _ _ (by omega), su_at]
  refine ⟨TpI_of hI (g 1 1 (by omega)) (fun k => g 2 k (by omega)), NmI_of hN4 (g 4 0 (by omega)) (g 4 3 (by omega)) (fun k => g 5 k (by omega)) (fun k => g 6 k (by omega)), NmI_of hN7 (g 7 0 (by omega)) (g 7 3 (by omega)) (fun k => g 8 k (by omega)) (fun k => g 9 k (by omega)), by rw [g 3 4 (by omega)]; exact h34, ht, by rw [g 10 t (by omega)]; exact hsz, hn12, by rw [e5]; omega, fun x hx => by rw [gnd]; exact hpar x hx, ?_, fun q => ?_, fun q z => ?_, by rw [g 12 9 (by omega)]; exact hfe, by rw [g 12 8 (by omega)]; exact hmk⟩
  · rw [e4]; split <;> omega
  · rw [e4] at q; split at q <;> omega
  · rw [e5] at z; rw [e4, if_pos z] at q; omega
theorem PI_mark {σ : St} {t n : Nat} (hP : PI σ t n) (hn : n < 12) {v : Int} (hv : 0 ≤ v ∧ v ≤ 2) : PI (su (su σ 12 8 v) 12 4 2) t n := by
  obtain ⟨hI, hN4, hN7, h34, ht, hsz, hn12, hp, hpar, hst, hst2, hst3, hfe, hmk⟩ := hP
  have g : ∀ x i, ¬ (x = 12 ∧ (i = 4 ∨ i = 8)) → su (su σ 12 8 v) 12 4 2 x i = σ x i := fun x i c => by rw [su_ko _ _ (by omega), su_ko _ _ (by omega)]
  have gnd : ∀ x w, nd (su (su σ 12 8 v) 12 4 2) t x w = nd σ t x w := fun x w => g 11 _ (by omega)
  have e4 : su (su σ 12 8 v) 12 4 2 12 4 = 2 := by rw [su_at]
  refine ⟨TpI_of hI (g 1 1 (by omega)) (fun k => g 2 k (by omega)), NmI_of hN4 (g 4 0 (by omega)) (g 4 3 (by omega)) (fun k => g 5 k (by omega)) (fun k => g 6 k (by omega)), NmI_of hN7 (g 7 0 (by omega)) (g 7 3 (by omega)) (fun k => g 8 k (by omega)) (fun k => g 9 k (by omega)), by rw [g 3 4 (by omega)]; exact h34, ht, by rw [g 10 t (by omega)]; exact hsz, hn12, by rw [g 12 5 (by omega)]; exact hp, fun x hx => by rw [gnd]; exact hpar x hx, by rw [e4]; omega, fun q => hn, fun q => by rw [e4] at q; omega, by rw [g 12 9 (by omega)]; exact hfe, by rw [su_ko _ _ (by omega), su_at]; exact hv⟩
/-- how many nodes a token leaves -/
theorem PI_tok {σ : St} {t n s e : Nat} {K : Int} (hP : PI σ t n) (hT : Tk σ K s e) (hc : tokC σ n K s e = 0) : ∃ n', PI (tokS σ t n K s e) t n' ∧ n ≤ n' ∧ n' ≤ n + 1 := by
  have hP0 := hP
  obtain ⟨hI, hN4, hN7, h34, ht, hsz, hn12, hp, hpar, hst, hst2, hst3, hfe, hmk⟩ := hP
  obtain ⟨t1, t2, t3, t4, t5, t6, t7, t8, t9⟩ := hT
  have node : nodeC σ n K s e = 0 → ∃ n', PI (nodeS σ t n K s e) t n' ∧ n ≤ n' ∧ n' ≤ n + 1 := by
    intro h
    unfold nodeS
    rw [if_pos h]
    unfold nodeC at h
    by_cases k2 : K = 2
    · rw [if_pos k2] at h ⊢
      by_cases q : n < 12
      · rw [if_pos q] at h
        by_cases r : tnR σ 4 8 16 s e = -1
        · rw [if_pos r] at h; exact absurd h (by decide)
        · exact ⟨n, PI_lab hP0 q (t7 k2) r, by omega, by omega⟩
      · rw [if_neg q] at h; exact absurd h (by decide)
    · rw [if_neg k2] at h ⊢
      by_cases k3 : K = 3
      · rw [if_pos k3] at h
        by_cases q : n < 12
        · refine ⟨n + 1, ?_, by omega, by omega⟩
          have g : ∀ x k, ¬ (x = 12 ∧ k = 12) → ¬ (x = 7 ∧ k = 3) → x ≠ 8 → x ≠ 9 → su (tnS σ 7 12 32 s e) 12 12 1 x k = σ x k := fun x k a b c d => by rw [su_ko _ _ (by omega), tnS_fr _ (by omega) (by omega) (by omega)]
          have g2 : ∀ x k, x ≠ 12 → su (tnS σ 7 12 32 s e) 12 12 1 x k = tnS σ 7 12 32 s e x k := fun x k a => by rw [su_ko _ _ (by omega)]
          unfold wordS
          refine PI_leaf (hfe2 := by rw [g 12 9 (by omega) (by omega) (by omega) (by omega)]; omega) ⟨TpI_of hI (g 1 1 (by omega) (by omega) (by omega) (by omega)) (fun k => g 2 k (by omega) (by omega) (by omega) (by omega)), NmI_of hN4 (g 4 0 (by omega) (by omega) (by omega) (by omega)) (g 4 3 (by omega) (by omega) (by omega) (by omega)) (fun k => g 5 k (by omega) (by omega) (by omega) (by omega)) (fun k => g 6 k (by omega) (by omega) (by omega) (by omega)), NmI_of (NmI_tn hN7 (t8 k3) hI.2.2) (g2 7 0 (by omega)) (g2 7 3 (by omega)) (fun k => g2 8 k (by omega)) (fun k => g2 9 k (by omega)), by rw [g 3 4 (by omega) (by omega) (by omega) (by omega)]; exact h34, ht, by rw [g 10 t (by omega) (by omega) (by omega) (by omega)]; exact hsz, by rw [g 12 5 (by omega) (by omega) (by omega) (by omega)]; exact hp, fun x hx => by
            unfold nd
            rw [g 11 _ (by omega) (by omega) (by omega) (by omega)]
            exact hpar x hx, by rw [g 12 8 (by omega) (by omega) (by omega) (by omega)]; exact hmk⟩ q
        · rw [if_neg q] at h; exact absurd h (by decide)
      · rw [if_neg k3] at h; exact absurd h (by decide)
  unfold tokC at hc
  unfold tokS
  by_cases s0 : σ 12 4 = 0
  · rw [if_pos s0] at hc ⊢
    exact node hc
  rw [if_neg s0] at hc ⊢
  by_cases s1 : σ 12 4 = 1
  · rw [if_pos s1] at hc ⊢
    have hn := hst2 (Or.inl s1)
    unfold kindC at hc
    unfold kindS
    by_cases q : K = 4 ∧ (σ 2 s = 40 ∨ σ 2 s = 33 ∨ σ 2 s = 42 ∨ σ 2 s = 43 ∨ σ 2 s = 45)
    · rw [if_pos q.1]
      by_cases c1 : σ 2 s = 40
      · rw [if_pos c1]; exact ⟨n + 1, PI_open hP0 hn, by omega, by omega⟩
      rw [if_neg c1]
      by_cases c2 : σ 2 s = 33
      · rw [if_pos c2]; exact ⟨n + 1, PI_leaf (hfe2 := by omega) ⟨hI, hN4, hN7, h34, ht, hsz, hp, hpar, hmk⟩ hn, by omega, by omega⟩
      rw [if_neg c2]
      by_cases c3 : σ 2 s = 42
      · rw [if_pos c3]
        have g : ∀ x k, ¬ (x = 12 ∧ (k = 9 ∨ k = 10 ∨ k = 11)) → footS σ x k = σ x k := fun x k a => footS_fr σ a
        have e9 : footS σ 12 9 = σ 12 9 + 1 := by
          unfold footS
          split
          · rw [su_ko _ _ (by omega), su_ko _ _ (by omega), su_at]
          · rw [su_at]
        refine ⟨n + 1, PI_leaf (hfe2 := by rw [e9]; omega) ⟨TpI_of hI (g 1 1 (by omega)) (fun k => g 2 k (by omega)), NmI_of hN4 (g 4 0 (by omega)) (g 4 3 (by omega)) (fun k => g 5 k (by omega)) (fun k => g 6 k (by omega)), NmI_of hN7 (g 7 0 (by omega)) (g 7 3 (by omega)) (fun k => g 8 k (by omega)) (fun k => g 9 k (by omega)), by rw [g 3 4 (by omega)]; exact h34, ht, by rw [g 10 t (by omega)]; exact hsz, by rw [g 12 5 (by omega)]; exact hp, fun x hx => by
            unfold nd
            rw [g 11 _ (by omega)]
            exact hpar x hx, by rw [g 12 8 (by omega)]; exact hmk⟩ hn, by omega, by omega⟩
      rw [if_neg c3]
      by_cases c4 : σ 2 s = 43
      · rw [if_pos c4]; exact ⟨n, PI_mark hP0 hn (by omega), by omega, by omega⟩
      rw [if_neg c4]
      by_cases c5 : σ 2 s = 45
      · rw [if_pos c5]; exact ⟨n, PI_mark hP0 hn (by omega), by omega, by omega⟩
      exact absurd q.2 (by omega)
    · rw [if_neg q] at hc; exact absurd hc (by decide)
  rw [if_neg s1] at hc ⊢
  by_cases s2 : σ 12 4 = 2
  · rw [if_pos s2] at hc ⊢
    by_cases q : K = 4 ∧ σ 2 s = 40
    · rw [if_pos q]; exact ⟨n + 1, PI_open hP0 (hst2 (Or.inr s2)), by omega, by omega⟩
    · rw [if_neg q] at hc; exact absurd hc (by decide)
  rw [if_neg s2] at hc ⊢
  by_cases s3 : σ 12 4 = 3
  · rw [if_pos s3] at hc ⊢
    by_cases q : K = 4 ∧ σ 2 s = 41
    · rw [if_pos q]; exact ⟨n, PI_close hP0 (hst3 s3), by omega, by omega⟩
    · rw [if_neg q] at hc ⊢; exact node hc
  rw [if_neg s3] at hc
  exact absurd hc (by decide)
