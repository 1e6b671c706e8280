/-! pure: a labelled node on both sides, whole -/
theorem SY_leafL {S σ0 τ0 τ1 τ τ' : St} {t n j pl : Nat} {k v w : Int} (hC : SC σ0 τ0 t) (h : LB σ0 τ0 τ1 τ t n j pl) (hl : Ld (bM τ0) (mlen τ0) τ j) (hch' : chn σ0 (j + 1)) (hs2 : cN σ0 (j + 1) = su (su (leafS S t n k (cN σ0 j 12 6)) 12 0 v) 12 1 w) (hS : ∀ o i, o ≠ 1 → ¬ (o = 12 ∧ (i = 9 ∨ i = 10 ∨ i = 11)) → S o i = cN σ0 j o i)
    (e6 : τ' 6 (12 * t + n) = k) (hr : ∀ o i, ¬ (o = 6 ∧ i = 12 * t + n) → ¬ (o = 0 ∧ 32 ≤ i ∧ i ≤ 34) → τ' o i = τ o i) (h8 : cN σ0 j 12 8 = 0) (hf : MPf (leafS S t n k (cN σ0 j 12 6)) τ' t (n + 1)) : SY σ0 τ0 τ' t (n + 1) (j + 1) := by
  obtain ⟨hch, hP, hn, hMN, h31, hb, hf0, hRN, hMn, ⟨τa, hw, ga⟩, h10, hF, h7, hpl, h03⟩ := h
  have hp := hP.2.2.2.2.2.2.2.1
  have hM1 : MP (leafS S t n k (cN σ0 j 12 6)) τ' t (n + 1) := by
    refine MP_leaf (τ1 := τ1) (τa := τa) hn (by rw [hS 12 5 (by omega) (by omega)]; exact hp) hMN (by rw [hS 12 5 (by omega) (by omega)]; exact h31) (MPn_of hb (fun x w _ => by unfold nd; rw [hS 11 _ (by omega) (by omega)]) (fun _ _ _ _ => rfl)) hw e6 (fun o i a c => ?_) hf (RNs_nw hRN (fun o i a b => hS o i (by omega) (by omega)) (fun _ _ _ => rfl)) hMn
    rw [hr o i a (by omega)]
    by_cases q : o = 10 ∧ i = 12 * t + n
    · rw [q.1, q.2, h10, h8, hw.2.2.2.1.2.2.2.2]
    · exact ga o i q (by omega)
  refine SY_mk hC hch' (by rw [hs2, su_ko _ _ (by omega), su_ko _ _ (by omega), leafS_10]) (by rw [hs2]; exact MP_sm hM1 (fun o k a b => by rw [su_ko _ _ (by omega), su_ko _ _ (by omega)])) (hF.trans (MFr_row hn (fun o i a b => hr o i (by omega) (by omega)))) (by rw [hr 0 29 (by omega) (by omega)]; exact hl.2.2) (by rw [hr 0 3 (by omega) (by omega)]; exact h03)
/-- '!' -/
theorem sp_lsub {Q R : Int → St → Prop} {σ0 τ0 τ1 τ τ' : St} {t n j pl : Nat} (hC : SC σ0 τ0 t) (hB : OwB Q σ0 τ0 t) (hQ : ∀ τ', Q 0 τ' → R 0 τ') (h : LB σ0 τ0 τ1 τ t n j pl) (hl : Ld (bM τ0) (mlen τ0) τ j) (hK : tkK (bM τ0) (mlen τ0) (pN (bM τ0) (mlen τ0) j) ≠ 1) (hst : cN σ0 j 12 4 = 1) (h8 : cN σ0 j 12 8 = 0) (ht : mTk (bM τ0) (mlen τ0) (pN (bM τ0) (mlen τ0) j) = 33)
    (e : τ' = su τ 6 (12 * t + n) 1) (hR : ∀ τ', SL σ0 τ0 τ' t (n + 1) (j + 1) → (cN σ0 (j + 1) 12 4 = 3 ∨ cN σ0 (j + 1) 12 4 = 4) → R 1 τ') : wp_X9_next R τ' := by
  have h' := h
  have hq := LB_q h
  obtain ⟨hch, hP, hn, hMN, h31, hb, hf, hRN, hMn, -, h10, hF, h7, hpl, h03⟩ := h'
  obtain ⟨s1, s2, s3, s4, s5⟩ := SC_step hC hP hK
  have lo : ∀ o i, o ≠ 1 → ld (cN σ0 j) o i = cN σ0 j o i := fun o i q => ld_o _ q
  have hnd : ¬ cdone (cN σ0 j) := fun z => by have := z.2; omega
  rw [mTk_sg (by omega) hK] at ht
  have hbs := ld_b s5 ht.1
  rw [ht.2] at hbs
  rw [ht.1] at s1 s2
  have hc0 : ctC (cN σ0 j) = 0 := by
    rw [s1]
    unfold tokC kindC
    rw [lo 12 4 (by omega), if_neg (by omega), if_pos hst, if_pos ⟨rfl, Or.inr (Or.inl hbs)⟩]
  have hS : tokS (ld (cN σ0 j)) t n 4 (tkS (bM τ0) (mlen τ0) (pN (bM τ0) (mlen τ0) j)) (pN (bM τ0) (mlen τ0) (j + 1)) = leafS (ld (cN σ0 j)) t n 1 (cN σ0 j 12 6) := by
    unfold tokS kindS
    rw [lo 12 4 (by omega), if_neg (by omega), if_pos hst, if_pos rfl, if_neg (by omega), if_pos hbs, lo 12 6 (by omega)]
  rw [hS] at s2
  have hp := hP.2.2.2.2.2.2.2.1
  have g : ∀ o i, ¬ (o = 6 ∧ i = 12 * t + n) → τ' o i = τ o i := fun o i z => by rw [e, su_ko _ _ z]
  have hSY := SY_leafL (τ' := τ') hC h hl (chain_ext hch hnd hc0) s2 (fun o i a b => lo o i a) (by rw [e, su_at]) (fun o i a b => g o i a) h8 (by
    refine MPf_nw hf (by omega) (by rw [leafS_12 _ (by omega), lo 12 9 (by omega)]) (by rw [leafS_12 _ (by omega), lo 12 10 (by omega)]) (by rw [g 0 32 (by omega), hq 0 32 (by omega)]) (by rw [g 0 33 (by omega), hq 0 33 (by omega)]) (by rw [g 0 34 (by omega), hq 0 34 (by omega)]) (fun x hx => ?_)
    rw [leafS_nd, aRow_nd _ _ _ _ hn (by omega) (by omega) (by rw [lo 12 5 (by omega)]; exact hp), if_neg (by omega), if_neg (by omega)]
    unfold nd
    rw [lo 11 _ (by omega)])
  refine sp_nx hC hB hQ hSY (fun τ2 h2 => hR τ2 h2 ?_)
  rw [s2, su_ko _ _ (by omega), su_ko _ _ (by omega)]
  unfold leafS
  rw [su_at]
  split
  · exact Or.inr rfl
  · exact Or.inl rfl
/-- '*' -/
theorem sp_lfoot {Q R : Int → St → Prop} {σ0 τ0 τ1 τ τ' : St} {t n j pl : Nat} (hC : SC σ0 τ0 t) (hB : OwB Q σ0 τ0 t) (hQ : ∀ τ', Q 0 τ' → R 0 τ') (h : LB σ0 τ0 τ1 τ t n j pl) (hl : Ld (bM τ0) (mlen τ0) τ j) (hK : tkK (bM τ0) (mlen τ0) (pN (bM τ0) (mlen τ0) j) ≠ 1) (hst : cN σ0 j 12 4 = 1) (h8 : cN σ0 j 12 8 = 0) (ht : mTk (bM τ0) (mlen τ0) (pN (bM τ0) (mlen τ0) j) = 42)
    (e6 : τ' 6 (12 * t + n) = 2) (er : ∀ o i, ¬ (o = 6 ∧ i = 12 * t + n) → ¬ (o = 0 ∧ 32 ≤ i ∧ i ≤ 34) → τ' o i = τ o i) (e34 : τ' 0 34 = if τ 0 32 ≠ -1 ∧ τ 0 34 < 0 then (pl : Int) else τ 0 34) (e33 : τ' 0 33 = if τ 0 32 = -1 then (pl : Int) else τ 0 33) (e32 : τ' 0 32 = if τ 0 32 = -1 then (n : Int) else τ 0 32) (hR : ∀ τ', SL σ0 τ0 τ' t (n + 1) (j + 1) → (cN σ0 (j + 1) 12 4 = 3 ∨ cN σ0 (j + 1) 12 4 = 4) → R 1 τ') : wp_X9_next R τ' := by
  have h' := h
  have hq := LB_q h
  obtain ⟨hch, hP, hn, hMN, h31, hb, hf, hRN, hMn, -, h10, hF, h7, hpl, h03⟩ := h'
  obtain ⟨s1, s2, s3, s4, s5⟩ := SC_step hC hP hK
  have lo : ∀ o i, o ≠ 1 → ld (cN σ0 j) o i = cN σ0 j o i := fun o i q => ld_o _ q
  have hnd : ¬ cdone (cN σ0 j) := fun z => by have := z.2; omega
  rw [mTk_sg (by omega) hK] at ht
  have hbs := ld_b s5 ht.1
  rw [ht.2] at hbs
  rw [ht.1] at s1 s2
  have hc0 : ctC (cN σ0 j) = 0 := by
    rw [s1]
    unfold tokC kindC
    rw [lo 12 4 (by omega), if_neg (by omega), if_pos hst, if_pos ⟨rfl, Or.inr (Or.inr (Or.inl hbs))⟩]
  have hS : tokS (ld (cN σ0 j)) t n 4 (tkS (bM τ0) (mlen τ0) (pN (bM τ0) (mlen τ0) j)) (pN (bM τ0) (mlen τ0) (j + 1)) = leafS (footS (ld (cN σ0 j))) t n 2 (cN σ0 j 12 6) := by
    unfold tokS kindS
    rw [lo 12 4 (by omega), if_neg (by omega), if_pos hst, if_pos rfl, if_neg (by omega), if_neg (by omega), if_pos hbs, lo 12 6 (by omega)]
  rw [hS] at s2
  have hp := hP.2.2.2.2.2.2.2.1
  have hfe := hP.2.2.2.2.2.2.2.2.2.2.2.2.1
  have fo : ∀ o i, o ≠ 1 → ¬ (o = 12 ∧ (i = 9 ∨ i = 10 ∨ i = 11)) → footS (ld (cN σ0 j)) o i = cN σ0 j o i := fun o i a b => by rw [footS_fr _ b, lo o i a]
  have f9 : footS (ld (cN σ0 j)) 12 9 = cN σ0 j 12 9 + 1 := by
    unfold footS
    split
    · rw [su_ko _ _ (by omega), su_ko _ _ (by omega), su_at, lo 12 9 (by omega)]
    · rw [su_at, lo 12 9 (by omega)]
  have f10 : footS (ld (cN σ0 j)) 12 10 = if cN σ0 j 12 9 + 1 ≤ 2 then (pl : Int) else cN σ0 j 12 10 := by
    unfold footS
    rw [lo 12 9 (by omega)]
    split
    · rw [su_ko _ _ (by omega), su_at, lo 12 7 (by omega), h7]
    · rw [su_ko _ _ (by omega), lo 12 10 (by omega)]
  have hcur : -1 ≤ footS (ld (cN σ0 j)) 12 5 ∧ footS (ld (cN σ0 j)) 12 5 < (n : Int) := by rw [fo 12 5 (by omega) (by omega)]; exact hp
  have hSY := SY_leafL (τ' := τ') hC h hl (chain_ext hch hnd hc0) s2 fo e6 er h8 (by
    rw [hq 0 32 (by omega)] at e32 e33 e34
    rw [hq 0 33 (by omega)] at e33
    rw [hq 0 34 (by omega)] at e34
    obtain ⟨g0, g1, g2, g3, g4⟩ := hf
    have ndn : nd (leafS (footS (ld (cN σ0 j))) t n 2 (cN σ0 j 12 6)) t n 0 = 2 := by rw [leafS_nd, aRow_nd _ _ _ _ hn (by omega) (by omega) hcur, if_pos ⟨rfl, rfl⟩, if_pos rfl]
    unfold MPf
    rw [leafS_12 _ (by omega), leafS_12 _ (by omega), f9, f10]
    by_cases z0 : cN σ0 j 12 9 = 0
    · obtain ⟨y1, y2⟩ := g0 z0
      rw [if_pos y1] at e32 e33
      rw [if_neg (fun z => z.1 y1)] at e34
      rw [e32, e33, e34, if_pos (by omega)]
      refine ⟨fun z => by omega, fun _ => ⟨by omega, by rw [show ((n : Int)).toNat = n by omega]; exact ndn, rfl, y2⟩, fun z => by omega, by omega, by omega⟩
    · have y0 : τ1 0 32 ≠ -1 := by
        by_cases z1 : cN σ0 j 12 9 = 1
        · exact (g1 z1).1
        · exact (g2 (by omega)).1
      rw [if_neg y0] at e32 e33
      by_cases z1 : cN σ0 j 12 9 = 1
      · obtain ⟨y1, y2, y3, y4⟩ := g1 z1
        rw [if_pos ⟨y0, by omega⟩] at e34
        rw [e32, e34, if_pos (by omega)]
        exact ⟨fun z => by omega, fun z => by omega, fun _ => ⟨y0, rfl, by omega⟩, ⟨by omega, by omega⟩, by omega, by omega⟩
      · obtain ⟨y1, y2, y3⟩ := g2 (by omega)
        rw [if_neg (fun z => by have := z.2; omega)] at e34
        rw [e32, e34, if_neg (by omega)]
        exact ⟨fun z => by omega, fun z => by omega, fun _ => ⟨y0, y2, y3⟩, ⟨by omega, by omega⟩, by omega, by omega⟩)
  refine sp_nx hC hB hQ hSY (fun τ2 h2 => hR τ2 h2 ?_)
  rw [s2, su_ko _ _ (by omega), su_ko _ _ (by omega)]
  unfold leafS
  rw [su_at]
  split
  · exact Or.inr rfl
  · exact Or.inl rfl
/-- '+' or '-', then '(' -/
theorem sp_lsign {Q R : Int → St → Prop} {σ0 τ0 τ1 τ : St} {t n j pl : Nat} {v : Int} (hC : SC σ0 τ0 t) (hB : OwB Q σ0 τ0 t) (hQ : ∀ τ', Q 0 τ' → R 0 τ') (h : LB σ0 τ0 τ1 τ t n j pl) (hl : Ld (bM τ0) (mlen τ0) τ j) (hK : tkK (bM τ0) (mlen τ0) (pN (bM τ0) (mlen τ0) j) ≠ 1) (hst : cN σ0 j 12 4 = 1) (hv : (v = 1 ∧ mTk (bM τ0) (mlen τ0) (pN (bM τ0) (mlen τ0) j) = 43) ∨ (v = 2 ∧ mTk (bM τ0) (mlen τ0) (pN (bM τ0) (mlen τ0) j) = 45))
    (hR : ∀ τ', SL σ0 τ0 τ' t (n + 1) (j + 2) → cN σ0 (j + 2) 12 4 = 0 → R 1 τ') : wp_X9_labelled_B184 (n : Int) (12 * (τ 0 23) + (n : Int)) v R τ := by
  have h' := h
  have hq := LB_q h
  obtain ⟨hch, hP, hn, hMN, h31, hb, hf, hRN, hMn, ⟨τa, hw, ga⟩, h10, hF, h7, hpl, h03⟩ := h'
  obtain ⟨s1, s2, s3, s4, s5⟩ := SC_step hC hP hK
  have lo : ∀ o i, o ≠ 1 → ld (cN σ0 j) o i = cN σ0 j o i := fun o i q => ld_o _ q
  have hnd : ¬ cdone (cN σ0 j) := fun z => by have := z.2; omega
  obtain ⟨hh, hhn⟩ := hereN (x := (n : Int)) (show τ 0 23 = (t : Int) by rw [hq 0 23 (by omega)]; exact hMN.1) hMN.2.1 (by omega)
  unfold wp_X9_labelled_B184
  refine ⟨hh, fun σ1 e1 => ?_⟩
  rw [hhn, show ((n : Int)).toNat = n by omega] at e1
  have hbs : tkK (bM τ0) (mlen τ0) (pN (bM τ0) (mlen τ0) j) = 4 ∧ ld (cN σ0 j) 2 (tkS (bM τ0) (mlen τ0) (pN (bM τ0) (mlen τ0) j)) = if v = 1 then 43 else 45 := by
    rcases hv with q | q
    · have := (mTk_sg (by omega) hK).mp q.2
      exact ⟨this.1, by rw [ld_b s5 this.1, this.2, if_pos q.1]⟩
    · have := (mTk_sg (by omega) hK).mp q.2
      exact ⟨this.1, by rw [ld_b s5 this.1, this.2, if_neg (by omega)]⟩
  rw [hbs.1] at s1 s2
  have hc0 : ctC (cN σ0 j) = 0 := by
    rw [s1]
    unfold tokC kindC
    rw [lo 12 4 (by omega), if_neg (by omega), if_pos hst, if_pos]
    refine ⟨rfl, ?_⟩
    rw [hbs.2]
    rcases hv with q | q
    · rw [if_pos q.1]; simp
    · rw [if_neg (by omega)]; simp
  have hS : tokS (ld (cN σ0 j)) t n 4 (tkS (bM τ0) (mlen τ0) (pN (bM τ0) (mlen τ0) j)) (pN (bM τ0) (mlen τ0) (j + 1)) = su (su (ld (cN σ0 j)) 12 8 v) 12 4 2 := by
    unfold tokS kindS
    rw [lo 12 4 (by omega), if_neg (by omega), if_pos hst, if_pos rfl, hbs.2]
    rcases hv with q | q
    · simp [q.1]
    · simp [q.1]
  rw [hS] at s2
  have g : ∀ o i, ¬ (o = 10 ∧ i = 12 * t + n) → σ1 o i = τ o i := fun o i z => by rw [e1, su_ko _ _ z]
  have c1 : ∀ o i, o ≠ 1 → ¬ (o = 12 ∧ (i < 2 ∨ i = 4 ∨ i = 8)) → cN σ0 (j + 1) o i = cN σ0 j o i := fun o i a b => by rw [s2, su_ko _ _ (by omega), su_ko _ _ (by omega), su_ko _ _ (by omega), su_ko _ _ (by omega), lo o i a]
  have gnd : ∀ x w, nd (cN σ0 (j + 1)) t x w = nd (cN σ0 j) t x w := fun x w => c1 11 _ (by omega) (by omega)
  have hch' : chn σ0 (j + 1) := chain_ext hch hnd hc0
  obtain ⟨n', hP', hPK', h10'⟩ := SC_inv hC hch'
  have hnn : n' = n := by
    have h10n := hP.2.2.2.2.2.1
    rw [c1 10 t (by omega) (by omega)] at h10'
    omega
  subst hnn
  have hLB : LB σ0 τ0 τ1 σ1 t n' (j + 1) pl := by
    refine ⟨hch', hP', hn, hMN, by rw [c1 12 5 (by omega) (by omega)]; exact h31, MPn_of hb (fun x w _ => gnd x w) (fun _ _ _ _ => rfl), MPf_nw hf (Nat.le_refl _) (c1 12 9 (by omega) (by omega)) (c1 12 10 (by omega) (by omega)) rfl rfl rfl (fun x _ => gnd x 0), RNs_nw hRN (fun o i a b => c1 o i (by omega) (by omega)) (fun _ _ _ => rfl), hMn, ⟨τa, by rw [c1 12 6 (by omega) (by omega)]; exact hw, fun o i a b => by rw [g o i a]; exact ga o i a b⟩, ?_, hF.trans (MFr_row hn (fun o i a b => g o i (by omega))), by rw [c1 12 7 (by omega) (by omega)]; exact h7, hpl, by rw [g 0 3 (by omega)]; exact h03⟩
    rw [e1, su_at, s2, su_ko _ _ (by omega), su_ko _ _ (by omega), su_ko _ _ (by omega), su_at]
  refine sp_lnx (R := fun r3 σ2 => (¬ w32 r3 = 0 → wp_X9_labelled_B194 (n' : Int) R σ2) ∧ (w32 r3 = 0 → R 0 σ2)) hC hB (fun τ' z => ⟨fun y => absurd w32_0 y, fun _ => hQ τ' z⟩) hLB (by rw [g 0 29 (by omega)]; exact hl.2.2) (fun τ' h2 l2 k2 => ⟨fun _ => ?_, fun y => absurd y (by decide)⟩)
  refine sp_l194 hC hB hQ h2 l2 k2 (Or.inl ?_) hR
  rw [s2, su_ko _ _ (by omega), su_ko _ _ (by omega), su_at]
