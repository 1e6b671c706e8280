/-! pure: tree(), both worlds -/
theorem ct_bad {σ : St} (h : ctC σ ≠ 0) {o k : Nat} (h1 : o ≠ 1) (h2 : ¬ (o = 12 ∧ k < 2)) : ctS σ o k = σ o k := by
  have e : ctT σ = ld σ := by
    unfold ctC at h
    unfold ctT
    split
    · rfl
    · rename_i q
      rw [if_neg q] at h
      have nod : nodeC (ld σ) (nOf σ) (Kc σ) (Sc σ) (Ec σ) ≠ 0 → nodeS (ld σ) (tOf σ) (nOf σ) (Kc σ) (Sc σ) (Ec σ) = ld σ := fun z => by unfold nodeS; rw [if_neg z]
      unfold tokC at h
      unfold tokS
      split
      · rename_i s0; rw [if_pos s0] at h; exact nod h
      rename_i s0; rw [if_neg s0] at h
      split
      · rename_i s1; rw [if_pos s1] at h
        unfold kindC at h
        unfold kindS
        split at h
        · exact absurd rfl h
        · rename_i z
          split
          · rename_i k4
            rw [if_neg (fun y => z ⟨k4, by omega⟩), if_neg (fun y => z ⟨k4, by omega⟩), if_neg (fun y => z ⟨k4, by omega⟩), if_neg (fun y => z ⟨k4, by omega⟩), if_neg (fun y => z ⟨k4, by omega⟩)]
          · rfl
      rename_i s1; rw [if_neg s1] at h
      split
      · rename_i s2; rw [if_pos s2] at h
        split at h
        · exact absurd rfl h
        · rename_i z; rw [if_neg z]
      rename_i s2; rw [if_neg s2] at h
      split
      · rename_i s3; rw [if_pos s3] at h
        split at h
        · exact absurd rfl h
        · rename_i z; rw [if_neg z]; exact nod h
      · rfl
  unfold ctS
  rw [e, su_ko _ _ (by omega), su_ko _ _ (by omega)]
  exact Tf_tk σ _ o k (by omega)
theorem stop_u {σ : St} {i j : Nat} (hi : chn σ i) (hj : chn σ j) (si : cdone (cN σ i) ∨ ctC (cN σ i) ≠ 0) (sj : cdone (cN σ j) ∨ ctC (cN σ j) ≠ 0) : i = j := by
  rcases Nat.lt_trichotomy i j with q | q | q
  · have := hj i q
    rcases si with z | z
    · exact absurd z this.1
    · exact absurd this.2 z
  · exact q
  · have := hi j q
    rcases sj with z | z
    · exact absurd z this.1
    · exact absurd this.2 z
/-- a text that was refused leaves what anyone sees, the fault aside -/
theorem RR_bad {σ τ S τ' : St} {N : Nat} {sz : Nat → Nat} {c : Int} (h : RR σ τ N sz) (hF : FrT σ S N) (h4 : NmI S 4 8 16) (h7 : NmI S 7 12 32) (hk : 0 ≤ S 12 8 ∧ S 12 8 ≤ 2) (h3 : τ' 0 3 = c) (hR : RNs S τ') (hM : Mnm τ') (hm : MFk (su τ 0 0 0) τ' N) : RR (tBad σ S c) (mBad τ τ') N sz := by
  obtain ⟨f1, f2, f3, f4, f5, f6⟩ := hF
  obtain ⟨m1, m2, m3⟩ := hm
  have F : ∀ o k, (o = 0 ∧ k ≠ 7) ∨ o = 2 ∨ o = 3 ∨ 13 ≤ o → tBad σ S c o k = σ o k := by
    intro o k q
    unfold tBad
    rw [su_ko _ _ (by omega), su_ko _ _ (by omega), su_ko _ _ (by omega), su_ko _ _ (by omega)]
    exact f1 o k (by omega) (by omega)
  have G : ∀ o k, (o = 1 ∨ 17 ≤ o) → mBad τ τ' o k = τ o k := by
    intro o k q
    unfold mBad
    rw [su_ko _ _ (by omega), su_ko _ _ (by omega), su_ko _ _ (by omega), m1 o k q, su_ko _ _ (by omega)]
  have G0 : ∀ i, i ≠ 0 → i ≠ 2 → i ≠ 3 → i ≠ 4 → (i < 27 ∨ 34 < i) → mBad τ τ' 0 i = τ 0 i := by
    intro i q0 q2 q3 q4 q
    unfold mBad
    by_cases e10 : i = 10
    · rw [e10, su_at]
    · rw [su_ko _ _ (by omega)]
      by_cases e7 : i = 7
      · rw [e7, su_at]
      · rw [su_ko _ _ (by omega), su_ko _ _ (by omega), m2 i q3 q4 e7 e10 q, su_ko _ _ (by omega)]
  have Gr : ∀ o i, 6 ≤ o → o ≤ 16 → (∀ y, y < 12 → i ≠ 12 * N + y) → mBad τ τ' o i = τ o i := by
    intro o i a b q
    unfold mBad
    rw [su_ko _ _ (by omega), su_ko _ _ (by omega), su_ko _ _ (by omega), m3 o i a b q, su_ko _ _ (by omega)]
  have Gn : ∀ o i, 2 ≤ o → o ≤ 5 → mBad τ τ' o i = τ' o i := by
    intro o i a b
    unfold mBad
    rw [su_ko _ _ (by omega), su_ko _ _ (by omega), su_ko _ _ (by omega)]
  have Fn : ∀ o k, 4 ≤ o → o ≤ 9 → ¬ (o = 4 ∧ k = 3) → ¬ (o = 7 ∧ k = 3) → tBad σ S c o k = S o k := by
    intro o k a b q1 q2
    unfold tBad
    rw [su_ko _ _ (by omega), su_ko _ _ (by omega), su_ko _ _ q2, su_ko _ _ q1]
  have t43 : tBad σ S c 4 3 = σ 4 3 := by unfold tBad; rw [su_ko _ _ (by omega), su_ko _ _ (by omega), su_ko _ _ (by omega), su_at]
  have t73 : tBad σ S c 7 3 = σ 7 3 := by unfold tBad; rw [su_ko _ _ (by omega), su_ko _ _ (by omega), su_at]
  have t11 : tBad σ S c 1 1 = 0 := by unfold tBad; rw [su_ko _ _ (by omega), su_at]
  have t07 : tBad σ S c 0 7 = c := by unfold tBad; rw [su_at]
  have tnd : ∀ t x w, t < N → x < 12 → w < 12 → nd (tBad σ S c) t x w = nd σ t x w := by
    intro t x w a b d
    unfold tBad
    rw [nd_su _ _ (by omega), nd_su _ _ (by omega), nd_su _ _ (by omega), nd_su _ _ (by omega)]
    exact f5 t x w (by omega) b d
  have u02 : mBad τ τ' 0 2 = 0 := by unfold mBad; rw [su_ko _ _ (by omega), su_ko _ _ (by omega), su_at]
  have u03 : mBad τ τ' 0 3 = c := by unfold mBad; rw [su_ko _ _ (by omega), su_ko _ _ (by omega), su_ko _ _ (by omega)]; exact h3
  have u07 : mBad τ τ' 0 7 = τ 0 7 := G0 7 (by omega) (by omega) (by omega) (by omega) (by omega)
  have u10 : mBad τ τ' 0 10 = τ 0 10 := G0 10 (by omega) (by omega) (by omega) (by omega) (by omega)
  refine RR.mk' ?_ ?_ ?_ ?_ ?_ ?_ ?_ ?_ ?_ ?_ h.N16 ?_ ?_ (fun t ht => ?_) (fun t ht => ?_) ?_ ?_ ?_ ?_ ?_ ?_ ?_ ?_ ?_ ?_ ?_ ?_ ?_ ?_ ?_ ?_ ?_
  · exact ⟨by rw [t11]; omega, by rw [t11]; omega, fun k => by rw [F 2 k (by omega)]; exact h.tp.2.2 k⟩
  · exact ⟨by rw [u02]; omega, by rw [u02]; omega⟩
  · intro k; rw [G 1 k (by omega)]; exact h.r1 k
  · rw [t11, u02]
  · intro k hk; unfold tlen at hk; rw [t11] at hk; exact absurd hk (by omega)
  · refine ⟨by rw [Fn 4 0 (by omega) (by omega) (by omega) (by omega)]; exact h4.1, by rw [t43]; exact h.n4.2.1, by rw [t43]; exact h.n4.2.2.1, fun k => by rw [Fn _ k (by omega) (by omega) (by omega) (by omega)]; exact h4.2.2.2.1 k, fun k => by rw [Fn _ k (by omega) (by omega) (by omega) (by omega)]; exact h4.2.2.2.2 k⟩
  · refine ⟨by rw [Fn 7 0 (by omega) (by omega) (by omega) (by omega)]; exact h7.1, by rw [t73]; exact h.n7.2.1, by rw [t73]; exact h.n7.2.2.1, fun k => by rw [Fn _ k (by omega) (by omega) (by omega) (by omega)]; exact h7.2.2.2.1 k, fun k => by rw [Fn _ k (by omega) (by omega) (by omega) (by omega)]; exact h7.2.2.2.2 k⟩
  · refine ⟨⟨by rw [t43, u07]; exact h.rn.1.1, fun k hk => ?_⟩, ⟨by rw [t73, u10]; exact h.rn.2.1, fun k hk => ?_⟩⟩
    · rw [t43] at hk
      obtain ⟨r1, r2⟩ := hR.1.2 k (by have := f2.2.1; omega)
      rw [Fn _ k (by omega) (by omega) (by omega) (by omega), Gn 3 k (by omega) (by omega)]
      refine ⟨r1, fun i hi => ?_⟩
      rw [Fn _ _ (by omega) (by omega) (by omega) (by omega), Gn 2 _ (by omega) (by omega)]
      exact r2 i hi
    · rw [t73] at hk
      obtain ⟨r1, r2⟩ := hR.2.2 k (by have := f3.2.1; omega)
      rw [Fn _ k (by omega) (by omega) (by omega) (by omega), Gn 5 k (by omega) (by omega)]
      refine ⟨r1, fun i hi => ?_⟩
      rw [Fn _ _ (by omega) (by omega) (by omega) (by omega), Gn 4 _ (by omega) (by omega)]
      exact r2 i hi
  · exact Mnm_nw hM (fun x k q => Gn x k (by omega) (by omega))
  · intro a b hab hb z
    rw [t73] at hb
    have g3 : ∀ k : Nat, (k : Int) < σ 7 3 → S 9 k = σ 9 k := f3.2.2.1
    have g4 : ∀ j : Nat, (j : Int) < ((12 : Nat) : Int) * σ 7 3 → S 8 j = σ 8 j := f3.2.2.2
    rw [Fn 9 a (by omega) (by omega) (by omega) (by omega), Fn 9 b (by omega) (by omega) (by omega) (by omega), g3 a (by omega), g3 b hb] at z
    refine h.dw a b hab hb ⟨z.1, fun i hi => ?_⟩
    have lb := h.n7.2.2.2.1 b
    rw [show 7 + 2 = 9 from rfl] at lb
    have := z.2 i hi
    rw [Fn 8 _ (by omega) (by omega) (by omega) (by omega), Fn 8 _ (by omega) (by omega) (by omega) (by omega), g4 _ (by omega), g4 _ (by omega)] at this
    exact this
  · rw [F 3 4 (by omega)]; exact h.c34
  · rw [G0 23 (by omega) (by omega) (by omega) (by omega) (by omega)]; exact h.c23
  · refine FT_fr (h.ft t ht) ?_ (fun x w a b => tnd t x w ht a b) (by rw [t73]; exact Int.le_refl _) (by rw [t43]; exact Int.le_refl _)
    unfold tBad
    rw [su_ko _ _ (by omega), su_ko _ _ (by omega), su_ko _ _ (by omega), su_ko _ _ (by omega)]
    exact f4 t (by omega)
  · exact FR_fr (h.ft t ht).2.2.2.1.1 (RR_sz h t ht) (h.fr t ht) (fun x w a b => tnd t x w ht a b) (G 17 t (by omega)) (fun o x a b d => Gr o _ a b (fun y hy => by omega))
  · have : tBad σ S c 12 8 = S 12 8 := by unfold tBad; rw [su_ko _ _ (by omega), su_ko _ _ (by omega), su_ko _ _ (by omega), su_ko _ _ (by omega)]
    rw [this]; exact hk
  · exact NmI_fr h.n14 (fun x k a b => F x k (by omega))
  · exact RN_fr h.rs (fun x k a b => F x k (by omega)) (G0 26 (by omega) (by omega) (by omega) (by omega) (by omega)) (fun k => G 19 k (by omega)) (fun k => G 18 k (by omega))
  · rw [t07, u03]
  · rw [F 0 9 (by omega), G0 36 (by omega) (by omega) (by omega) (by omega) (by omega)]; exact h.wys
  · rw [F 0 9 (by omega)]; exact h.wyr
  · rw [F 0 9 (by omega), G0 35 (by omega) (by omega) (by omega) (by omega) (by omega)]; exact h.wsr
  · exact CB_fr h.cb (fun x k a b => F x k (by omega))
  · exact MB_fr h.mb (fun x k a b => G x k (by omega))
  · intro d hd; rw [F 18 d (by omega)]; exact h.sdr d hd
  · intro q
    rw [F 0 9 (by omega)] at q
    exact RDY_fr (RR_sz h) (h.rdy q) (F 17 0 (by omega)) (F 0 8 (by omega)) (F 0 9 (by omega)) tnd (fun o k a b => F o k (by omega)) (G0 26 (by omega) (by omega) (by omega) (by omega) (by omega)) (G0 37 (by omega) (by omega) (by omega) (by omega) (by omega)) (fun o k a b => G o k (by omega))
  · rw [F 23 0 (by omega), G0 42 (by omega) (by omega) (by omega) (by omega) (by omega)]; exact h.us
  · rw [F 23 0 (by omega)]; exact h.usr
  · intro k hk
    rw [F 23 0 (by omega)] at hk
    rw [F 24 k (by omega), G 23 k (by omega)]; exact h.usc k hk
  · rw [F 26 0 (by omega), G0 50 (by omega) (by omega) (by omega) (by omega) (by omega)]; exact h.ws
  · rw [F 26 0 (by omega)]; exact h.wsr2
  · intro k hk
    rw [F 26 0 (by omega)] at hk
    rw [F 27 k (by omega), G 29 k (by omega)]; exact h.wsc k hk
