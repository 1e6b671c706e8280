/-! pure: the reference's labelled and readTree -/
theorem sp_slab {Q R : Int → St → Prop} {σ0 τ0 τ : St} {t n j : Nat} (hC : SC σ0 τ0 t) (hB : OwB Q σ0 τ0 t) (hQ : ∀ τ', Q 0 τ' → R 0 τ') (h : SL σ0 τ0 τ t n j) (hst : cN σ0 j 12 4 = 0 ∨ cN σ0 j 12 4 = 3) (hK2 : tkK (bM τ0) (mlen τ0) (pN (bM τ0) (mlen τ0) j) = 2)
    (hR : ∀ j' τ', j < j' → SL σ0 τ0 τ' t (n + 1) j' → (cN σ0 j' 12 4 = 0 ∨ cN σ0 j' 12 4 = 3 ∨ cN σ0 j' 12 4 = 4) → R 1 τ') : wp_X9_labelled R τ := by
  obtain ⟨hch, hP, hPK, hMP, hF, hl, hK, h03⟩ := h
  obtain ⟨s1, s2, s3, s4, s5⟩ := SC_step hC hP hK
  rw [hK2] at s1 s2 s4
  have hnd : ¬ cdone (cN σ0 j) := fun z => by have := z.2; omega
  have lo : ∀ o i, o ≠ 1 → ld (cN σ0 j) o i = cN σ0 j o i := fun o i q => ld_o _ q
  have tN : tokC (ld (cN σ0 j)) n 2 (tkS (bM τ0) (mlen τ0) (pN (bM τ0) (mlen τ0) j)) (pN (bM τ0) (mlen τ0) (j + 1)) = nodeC (ld (cN σ0 j)) n 2 (tkS (bM τ0) (mlen τ0) (pN (bM τ0) (mlen τ0) j)) (pN (bM τ0) (mlen τ0) (j + 1)) := by
    unfold tokC
    rw [lo 12 4 (by omega)]
    rcases hst with q | q
    · rw [if_pos q]
    · rw [if_neg (by omega), if_neg (by omega), if_neg (by omega), if_pos q, if_neg (by omega)]
  have tS : tokS (ld (cN σ0 j)) t n 2 (tkS (bM τ0) (mlen τ0) (pN (bM τ0) (mlen τ0) j)) (pN (bM τ0) (mlen τ0) (j + 1)) = nodeS (ld (cN σ0 j)) t n 2 (tkS (bM τ0) (mlen τ0) (pN (bM τ0) (mlen τ0) j)) (pN (bM τ0) (mlen τ0) (j + 1)) := by
    unfold tokS
    rw [lo 12 4 (by omega)]
    rcases hst with q | q
    · rw [if_pos q]
    · rw [if_neg (by omega), if_neg (by omega), if_neg (by omega), if_pos q, if_neg (by omega)]
  rw [tN] at s1
  rw [tS] at s2
  generalize hs : tkS (bM τ0) (mlen τ0) (pN (bM τ0) (mlen τ0) j) = s at *
  have hle := pN_le (bM τ0) (mlen τ0) (j + 1)
  have hge : s ≤ pN (bM τ0) (mlen τ0) (j + 1) := by rw [← hs]; exact tkE_ge _ _ _
  have hw8 : pN (bM τ0) (mlen τ0) (j + 1) - s ≤ 8 := by rw [← hs]; exact (tkE_l hK2).1
  have hbt : ∀ k, s ≤ k → k < pN (bM τ0) (mlen τ0) (j + 1) → bM τ0 k < 128 := fun k a b => by
    have := isLb_r (tk_label hK2 (by rw [hs]; exact a) b)
    omega
  have hm1000 := (mlen_eq hC.1).2
  generalize he : pN (bM τ0) (mlen τ0) (j + 1) = e at *
  obtain ⟨m1, m2, m3, m4, m5, m6⟩ := hMP
  obtain ⟨l1, l2, l3⟩ := hl
  have hPl : PI (ld (cN σ0 j)) t n := PI_tf hP (Tf_tk _ _)
  have n0 : τ 0 31 = -1 → n = 0 := fun q => PK_n0 hPK (by omega) (by rw [← m6]; exact q)
  have mt : mTk (bM τ0) (mlen τ0) (pN (bM τ0) (mlen τ0) j) = 1 := by
    rcases mTk_k hK with q | q | q | q
    · omega
    · exact q.2
    · omega
    · omega
  unfold wp_X9_labelled
  intro x1 ex1 x2 ex2
  rw [l2, hs] at ex1
  rw [m1.2.2.1] at ex2
  subst ex1; subst ex2
  refine sp_mnewlabel (σ := ld (cN σ0 j)) (s := s) (e := e) m1 n0 hPl.2.1 (RN_of m4.1 (lo 4 3 (by omega)) (fun k => lo 5 k (by omega)) (fun k => lo 6 k (by omega)) rfl (fun _ => rfl) (fun _ => rfl)) m5.1 m5.2.1 (fun k => by rw [hF.1 1 k (by omega)]; exact hC.2.1 k) (by rw [l2, hs]) (by rw [l3, he]) (by rw [l1]; exact mt) hge (by omega) hw8 (tk_bytes hC.2.1 hF hle s5 hbt) (fun q => ?_) (fun hn hr τ1 τa g gN gl gR hw => ?_)
  · refine ⟨fun _ => hQ _ (SC_bad hC hB hch hP hK hnd (c := 3) ?_ (by decide) (by rw [hs]) m4 m5 hF), fun z => absurd w32_0 z⟩
    rw [s1]
    unfold nodeC
    rw [if_pos rfl]
    rcases q with q | q
    · rw [if_neg (by omega)]
    · rw [if_pos q]; split <;> rfl
  refine ⟨fun z => absurd z (by decide), fun _ => ?_⟩
  have hc0 : nodeC (ld (cN σ0 j)) n 2 s e = 0 := by unfold nodeC; rw [if_pos rfl, if_pos hn, if_neg hr]
  have hnS : nodeS (ld (cN σ0 j)) t n 2 s e = labS (ld (cN σ0 j)) s e := by unfold nodeS; rw [if_pos hc0, if_pos rfl]
  rw [hc0] at s1
  rw [hnS] at s2
  have hch' : chn σ0 (j + 1) := chain_ext hch hnd s1
  have c1 : ∀ o i, o ≠ 1 → ¬ (o = 4 ∧ i = 3) → o ≠ 5 → o ≠ 6 → ¬ (o = 12 ∧ (i < 2 ∨ i = 4 ∨ (6 ≤ i ∧ i ≤ 8))) → cN σ0 (j + 1) o i = cN σ0 j o i := fun o i a b c d f => by
    rw [s2, su_ko _ _ (by omega), su_ko _ _ (by omega)]
    unfold labS
    rw [su_ko _ _ (by omega), su_ko _ _ (by omega), su_ko _ _ (by omega), su_ko _ _ (by omega), tnS_fr _ (by omega) (by omega) (by omega), lo o i a]
  have c2 : ∀ o i, o ≠ 12 → cN σ0 (j + 1) o i = tnS (ld (cN σ0 j)) 4 8 16 s e o i := fun o i a => by
    rw [s2, su_ko _ _ (by omega), su_ko _ _ (by omega)]
    unfold labS
    rw [su_ko _ _ (by omega), su_ko _ _ (by omega), su_ko _ _ (by omega), su_ko _ _ (by omega)]
  have d4 : cN σ0 (j + 1) 12 4 = 1 := by rw [s2, su_ko _ _ (by omega), su_ko _ _ (by omega)]; unfold labS; rw [su_at]
  have d8 : cN σ0 (j + 1) 12 8 = 0 := by rw [s2, su_ko _ _ (by omega), su_ko _ _ (by omega)]; unfold labS; rw [su_ko _ _ (by omega), su_at]
  have d7 : cN σ0 (j + 1) 12 7 = (s : Int) := by rw [s2, su_ko _ _ (by omega), su_ko _ _ (by omega)]; unfold labS; rw [su_ko _ _ (by omega), su_ko _ _ (by omega), su_at]
  have d6 : cN σ0 (j + 1) 12 6 = tnR (ld (cN σ0 j)) 4 8 16 s e := by rw [s2, su_ko _ _ (by omega), su_ko _ _ (by omega)]; unfold labS; rw [su_ko _ _ (by omega), su_ko _ _ (by omega), su_ko _ _ (by omega), su_at]
  obtain ⟨n', hP', hPK', h10'⟩ := SC_inv hC hch'
  have hnn : n' = n := by
    have h10n := hP.2.2.2.2.2.1
    rw [c1 10 t (by omega) (by omega) (by omega) (by omega) (by omega)] at h10'
    omega
  subst hnn
  have gnd : ∀ x w, nd (cN σ0 (j + 1)) t x w = nd (cN σ0 j) t x w := fun x w => c1 11 _ (by omega) (by omega) (by omega) (by omega) (by omega)
  have hLB : LB σ0 τ0 τ1 τa t n' (j + 1) s := by
    refine ⟨hch', hP', hn, MN_of m1 (fun o i z => g o i (by omega) (by omega) (by omega)), by rw [c1 12 5 (by omega) (by omega) (by omega) (by omega) (by omega), g 0 31 (by omega) (by omega) (by omega)]; exact m6, MPn_of m2 (fun x w _ => gnd x w) (fun o i _ _ => g o i (by omega) (by omega) (by omega)), MPf_nw m3 (Nat.le_refl _) (c1 12 9 (by omega) (by omega) (by omega) (by omega) (by omega)) (c1 12 10 (by omega) (by omega) (by omega) (by omega) (by omega)) (g 0 32 (by omega) (by omega) (by omega)) (g 0 33 (by omega) (by omega) (by omega)) (g 0 34 (by omega) (by omega) (by omega)) (fun x _ => gnd x 0), ⟨?_, ?_⟩, ?_, ⟨τa, by rw [d6]; exact hw, fun _ _ _ _ => rfl⟩, by rw [d8]; exact hw.2.2.2.1.2.2.2.2, (hF.trans (MFr_nm (fun o k a b => g o k (by omega) (by omega) (by omega)))).trans (MFr_nw hw hn), d7, by omega, by rw [hw.1 0 3 (by omega) (by omega), g 0 3 (by omega) (by omega) (by omega)]; exact h03⟩
    · exact RN_of gN (c2 4 3 (by omega)) (fun k => c2 5 k (by omega)) (fun k => c2 6 k (by omega)) rfl (fun _ => rfl) (fun _ => rfl)
    · exact RN_of m4.2 (c1 7 3 (by omega) (by omega) (by omega) (by omega) (by omega)) (fun k => c1 8 k (by omega) (by omega) (by omega) (by omega) (by omega)) (fun k => c1 9 k (by omega) (by omega) (by omega) (by omega) (by omega)) (g 0 10 (by omega) (by omega) (by omega)) (fun k => g 5 k (by omega) (by omega) (by omega)) (fun k => g 4 k (by omega) (by omega) (by omega))
    · exact ⟨gl, gR, fun k => by rw [g 5 k (by omega) (by omega) (by omega)]; exact m5.2.2.1 k, fun k => by rw [g 4 k (by omega) (by omega) (by omega)]; exact m5.2.2.2 k⟩
  refine sp_lnx hC hB (fun τ' z => ⟨fun y => absurd w32_0 y, fun _ => hQ τ' z⟩) hLB (by rw [hw.1 0 29 (by omega) (by omega), g 0 29 (by omega) (by omega) (by omega), l3, he]) (fun τ2 h2 ld2 k2 => ⟨fun _ => ?_, fun y => absurd y (by decide)⟩)
  have hm := mTk_r (τ0 := τ0) k2
  have l21 := ld2.1
  have hq2 := LB_q h2
  have h23 : τ2 0 23 = (t : Int) := by rw [hq2 0 23 (by omega), g 0 23 (by omega) (by omega) (by omega)]; exact m1.1
  have hw27 : w32 (τ2 0 27) = mTk (bM τ0) (mlen τ0) (pN (bM τ0) (mlen τ0) (j + 1)) := by rw [l21]; exact w32_id (by omega) (by omega)
  obtain ⟨hh, hhn⟩ := hereN (x := (n' : Int)) h23 m1.2.1 (by omega)
  rw [show ((n' : Int)).toNat = n' by omega] at hhn
  have hR34 : ∀ τ', SL σ0 τ0 τ' t (n' + 1) (j + 1 + 1) → (cN σ0 (j + 1 + 1) 12 4 = 3 ∨ cN σ0 (j + 1 + 1) 12 4 = 4) → R 1 τ' := fun τ' a b => hR _ τ' (by omega) a (Or.inr b)
  have sgn : ∀ v : Int, (v = 1 ∧ mTk (bM τ0) (mlen τ0) (pN (bM τ0) (mlen τ0) (j + 1)) = 43) ∨ (v = 2 ∧ mTk (bM τ0) (mlen τ0) (pN (bM τ0) (mlen τ0) (j + 1)) = 45) → wp_X9_labelled_B184 (n' : Int) (12 * (τ2 0 23) + (n' : Int)) v R τ2 := fun v hv => sp_lsign hC hB hQ h2 ld2 k2 d4 hv (fun τ' a b => hR _ τ' (by omega) a (Or.inl b))
  have b161 : (mTk (bM τ0) (mlen τ0) (pN (bM τ0) (mlen τ0) (j + 1)) = 43 ∨ mTk (bM τ0) (mlen τ0) (pN (bM τ0) (mlen τ0) (j + 1)) = 45) → wp_X9_labelled_B161 (n' : Int) R τ2 := by
    intro q
    unfold wp_X9_labelled_B161 wp_X9_here
    simp only []
    rw [hw27]
    exact ⟨fun z => sgn 2 (by omega), fun z => sgn 1 (by omega)⟩
  have b194 : mTk (bM τ0) (mlen τ0) (pN (bM τ0) (mlen τ0) (j + 1)) ≠ 33 → mTk (bM τ0) (mlen τ0) (pN (bM τ0) (mlen τ0) (j + 1)) ≠ 42 → mTk (bM τ0) (mlen τ0) (pN (bM τ0) (mlen τ0) (j + 1)) ≠ 43 → mTk (bM τ0) (mlen τ0) (pN (bM τ0) (mlen τ0) (j + 1)) ≠ 45 → wp_X9_labelled_B194 (n' : Int) R τ2 := fun y1 y2 y3 y4 => sp_l194 hC hB hQ h2 ld2 k2 (Or.inr ⟨d4, by rw [l21]; exact ⟨y1, y2, y3, y4⟩⟩) (fun τ' a b => hR _ τ' (by omega) a (Or.inl b))
  rw [hw27]
  refine ⟨fun y33 => ⟨fun y42 => ⟨fun y => b161 (Or.inl y), fun y43 => ⟨fun y45 => b194 y33 y42 y43 y45, fun y => b161 (Or.inr y)⟩⟩, fun y42 => ?_⟩, fun y33 => ?_⟩
  · -- '*'
    unfold wp_X9_here
    refine ⟨hh, fun σ9 e9 => ?_⟩
    rw [hhn] at e9
    have hf := h2.2.2.2.2.2.2.1
    have r32 : -1 ≤ τ2 0 32 ∧ τ2 0 32 < (n' : Int) := by rw [hq2 0 32 (by omega)]; exact hf.2.2.2.1
    have r34 : -1 ≤ τ2 0 34 ∧ τ2 0 34 ≤ 1000 := by rw [hq2 0 34 (by omega)]; exact hf.2.2.2.2
    have g9 : ∀ i, σ9 0 i = τ2 0 i := fun i => by rw [e9, su_ko _ _ (by omega)]
    have w32' : w32 (τ2 0 32) = τ2 0 32 := w32_id (by omega) (by omega)
    have w34' : w32 (τ2 0 34) = τ2 0 34 := w32_id (by omega) (by omega)
    have fin : ∀ (y34 y33 y32 : Int) (σa σb σc : St), σa = su σ9 0 34 y34 → σb = su σa 0 33 y33 → σc = su σb 0 32 y32 → (y34 = if τ2 0 32 ≠ -1 ∧ τ2 0 34 < 0 then (s : Int) else τ2 0 34) → (y33 = if τ2 0 32 = -1 then (s : Int) else τ2 0 33) → (y32 = if τ2 0 32 = -1 then (n' : Int) else τ2 0 32) → wp_X9_next (fun r3 σ2 => (r3 = 0 ∨ r3 = 1) ∧ R r3 σ2) σc := by
      intro y34 y33 y32 σa σb σc ea eb ec q1 q2 q3
      refine sp_lfoot (R := fun r3 σ2 => (r3 = 0 ∨ r3 = 1) ∧ R r3 σ2) (τ := τ2) hC hB (fun τ' z => ⟨Or.inl rfl, hQ τ' z⟩) h2 ld2 k2 d4 d8 y42 ?_ ?_ ?_ ?_ ?_ (fun τ' a b => ⟨Or.inr rfl, hR34 τ' a b⟩)
      · rw [ec, su_ko _ _ (by omega), eb, su_ko _ _ (by omega), ea, su_ko _ _ (by omega), e9, su_at]
      · intro o i a b
        rw [ec, su_ko _ _ (by omega), eb, su_ko _ _ (by omega), ea, su_ko _ _ (by omega), e9, su_ko _ _ (by omega)]
      · rw [ec, su_ko _ _ (by omega), eb, su_ko _ _ (by omega), ea, su_at, q1]
      · rw [ec, su_ko _ _ (by omega), eb, su_at, q2]
      · rw [ec, su_at, q3]
    have b95 : ∀ y34 : Int, (y34 = if τ2 0 32 ≠ -1 ∧ τ2 0 34 < 0 then (s : Int) else τ2 0 34) → wp_X9_labelled_B95 (s : Int) (n' : Int) y34 R σ9 := by
      intro y34 q1
      unfold wp_X9_labelled_B95
      intro σa ea
      have ga : ∀ i, i ≠ 34 → σa 0 i = τ2 0 i := fun i z => by rw [ea, su_ko _ _ (by omega), g9]
      rw [ga 32 (by omega), ga 33 (by omega), w32']
      unfold wp_X9_labelled_B115 wp_X9_labelled_B135
      refine ⟨fun z σb eb => ?_, fun z σb eb => ?_⟩
      · rw [show σb 0 32 = τ2 0 32 by rw [eb, su_ko _ _ (by omega), ga 32 (by omega)], w32']
        exact ⟨fun _ σc ec => fin _ _ _ σa σb σc ea eb ec q1 (by rw [if_neg z]) (by rw [if_neg z]), fun y => absurd y z⟩
      · rw [show σb 0 32 = τ2 0 32 by rw [eb, su_ko _ _ (by omega), ga 32 (by omega)], w32']
        exact ⟨fun y => absurd z y, fun _ σc ec => fin _ _ _ σa σb σc ea eb ec q1 (by rw [if_pos z]) (by rw [if_pos z])⟩
    rw [g9 32, g9 34, w32', w34']
    unfold wp_X9_labelled_B91
    rw [g9 34]
    refine ⟨fun z => b95 _ (by rw [if_neg (fun y => y.1 z)]), fun z => ⟨fun y => b95 _ (by rw [if_neg (fun w => by have := w.2; omega)]), fun y => b95 _ (by rw [if_pos ⟨z, by omega⟩])⟩⟩
  · -- '!'
    unfold wp_X9_here
    refine ⟨hh, fun σ9 e9 => ?_⟩
    rw [hhn] at e9
    exact sp_lsub (R := fun r14 σ13 => (r14 = 0 ∨ r14 = 1) ∧ R r14 σ13) (τ := τ2) hC hB (fun τ' z => ⟨Or.inl rfl, hQ τ' z⟩) h2 ld2 k2 d4 d8 y33 e9 (fun τ' a b => ⟨Or.inr rfl, hR34 τ' a b⟩)
