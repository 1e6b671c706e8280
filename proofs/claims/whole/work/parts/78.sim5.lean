/-! pure: a labelled node on both sides -/
/-- the class has a label, but no row yet; the reference has its row -/
def LB (σ0 τ0 τ1 τb : St) (t n j pl : Nat) : Prop := chn σ0 j ∧ PI (cN σ0 j) t n ∧ n < 12 ∧ MN τ1 t n ∧ τ1 0 31 = cN σ0 j 12 5 ∧ MPn (cN σ0 j) τ1 t n ∧ MPf (cN σ0 j) τ1 t n ∧ RNs (cN σ0 j) τ1 ∧ Mnm τ1 ∧ (∃ τa, NwN τ1 τa t n 0 (cN σ0 j 12 6) ∧ (∀ o i, ¬ (o = 10 ∧ i = 12 * t + n) → ¬ (o = 0 ∧ 27 ≤ i ∧ i ≤ 29) → τb o i = τa o i)) ∧ τb 10 (12 * t + n) = cN σ0 j 12 8 ∧ MFr τ0 τb t ∧ cN σ0 j 12 7 = (pl : Int) ∧ pl ≤ 1000 ∧ τb 0 3 = 0
theorem LB_q {σ0 τ0 τ1 τb : St} {t n j pl : Nat} (h : LB σ0 τ0 τ1 τb t n j pl) : ∀ o k, (2 ≤ o ∧ o ≤ 5) ∨ (o = 0 ∧ (k = 7 ∨ k = 10 ∨ k = 23 ∨ (31 ≤ k ∧ k ≤ 34))) → τb o k = τ1 o k := by
  obtain ⟨-, -, -, -, -, -, -, -, -, ⟨τa, w, g⟩, -, -, -, -, -⟩ := h
  exact fun o k z => by rw [g o k (by omega) (by omega), w.1 o k (by omega) (by omega)]
theorem LB_rn {σ0 τ0 τ1 τb : St} {t n j pl : Nat} (h : LB σ0 τ0 τ1 τb t n j pl) : RNs (cN σ0 j) τb ∧ Mnm τb := by
  have q := LB_q h
  obtain ⟨-, -, -, -, -, -, -, hR, hM, -, -, -, -, -, -⟩ := h
  exact ⟨RNs_nw hR (fun _ _ _ _ => rfl) (fun o k z => q o k (by omega)), Mnm_nw hM (fun o k z => q o k (Or.inl z))⟩
theorem LB_sc {σ0 τ0 τ1 τb τ' : St} {t n j pl : Nat} (h : LB σ0 τ0 τ1 τb t n j pl) (g : ∀ o k, ¬ (o = 0 ∧ (k = 27 ∨ k = 28 ∨ k = 29)) → τ' o k = τb o k) : LB σ0 τ0 τ1 τ' t n j pl := by
  obtain ⟨a1, a2, a3, a4, a5, a6, a7, a8, a9, ⟨τa, w, ga⟩, a11, a12, a13, a14, a15⟩ := h
  exact ⟨a1, a2, a3, a4, a5, a6, a7, a8, a9, ⟨τa, w, fun o i p q => by rw [g o i (by omega)]; exact ga o i p q⟩, by rw [g 10 _ (by omega)]; exact a11, a12.trans (MFr_0 (fun o i z => g o i (by omega))), a13, a14, by rw [g 0 3 (by omega)]; exact a15⟩
theorem sp_lnx {Q R : Int → St → Prop} {σ0 τ0 τ1 τb : St} {t n j pl : Nat} (hC : SC σ0 τ0 t) (hB : OwB Q σ0 τ0 t) (hQ : ∀ τ', Q 0 τ' → R 0 τ') (h : LB σ0 τ0 τ1 τb t n j pl) (h29 : τb 0 29 = ((pN (bM τ0) (mlen τ0) j : Nat) : Int))
    (hR : ∀ τ', LB σ0 τ0 τ1 τ' t n j pl → Ld (bM τ0) (mlen τ0) τ' j → tkK (bM τ0) (mlen τ0) (pN (bM τ0) (mlen τ0) j) ≠ 1 → R 1 τ') : wp_X9_next R τb := by
  obtain ⟨c1, c2, c3, c4, c5, c6, c7⟩ := hC
  have hr := LB_rn h
  have h' := h
  obtain ⟨a1, a2, a3, a4, a5, a6, a7, a8, a9, a10, a11, a12, a13, a14, a15⟩ := h'
  refine sp_mto c1 c3 c4 c5 a2 hB a1 h29 hr.1 hr.2 a12 hQ (fun q τ' g l => ?_)
  exact hR τ' (LB_sc h g) l q
/-- signs as the reference sees them -/
theorem mTk_sg {b : Nat → Int} {len p : Nat} {v : Int} (hv : 33 ≤ v) (h : tkK b len p ≠ 1) : mTk b len p = v ↔ (tkK b len p = 4 ∧ b (tkS b len p) = v) := by
  rcases mTk_k h with q | q | q | q
  · rw [q.1, q.2]; constructor
    · intro z; omega
    · intro z; exact absurd z.1 (by decide)
  · rw [q.1, q.2]; constructor
    · intro z; omega
    · intro z; exact absurd z.1 (by decide)
  · rw [q.1, q.2]; constructor
    · intro z; omega
    · intro z; exact absurd z.1 (by decide)
  · rw [q.1, q.2.1]; exact ⟨fun z => ⟨rfl, z⟩, fun z => z.2⟩
theorem mTk_r {τ0 : St} {p : Nat} (h : tkK (bM τ0) (mlen τ0) p ≠ 1) : 0 ≤ mTk (bM τ0) (mlen τ0) p ∧ mTk (bM τ0) (mlen τ0) p ≤ 255 := by
  rcases mTk_k h with q | q | q | q
  · omega
  · omega
  · omega
  · rw [q.2.1]; exact bM_r _ _
theorem ld_b {σ0 τ0 : St} {j : Nat} (s5 : ∀ k, k < mlen τ0 → ld (cN σ0 j) 2 k = bM τ0 k) (hK : tkK (bM τ0) (mlen τ0) (pN (bM τ0) (mlen τ0) j) = 4) : ld (cN σ0 j) 2 (tkS (bM τ0) (mlen τ0) (pN (bM τ0) (mlen τ0) j)) = bM τ0 (tkS (bM τ0) (mlen τ0) (pN (bM τ0) (mlen τ0) j)) := s5 _ (tkE_lt (by rw [hK]; decide)).2
theorem hereN {τ : St} {t : Nat} {x : Int} (h : τ 0 23 = (t : Int)) (ht : t ≤ 16) (hx : 0 ≤ x ∧ x < 12) : (0 ≤ w32 (12 * (τ 0 23) + x) ∧ w32 (12 * (τ 0 23) + x) < 204) ∧ (w32 (12 * (τ 0 23) + x)).toNat = 12 * t + x.toNat := by
  rw [h, w32_id (by omega) (by omega)]; omega
/-- '(' or nothing -/
theorem sp_l194 {Q R : Int → St → Prop} {σ0 τ0 τ1 τ : St} {t n j pl : Nat} (hC : SC σ0 τ0 t) (hB : OwB Q σ0 τ0 t) (hQ : ∀ τ', Q 0 τ' → R 0 τ') (h : LB σ0 τ0 τ1 τ t n j pl) (hl : Ld (bM τ0) (mlen τ0) τ j) (hK : tkK (bM τ0) (mlen τ0) (pN (bM τ0) (mlen τ0) j) ≠ 1)
    (hst : cN σ0 j 12 4 = 2 ∨ (cN σ0 j 12 4 = 1 ∧ τ 0 27 ≠ 33 ∧ τ 0 27 ≠ 42 ∧ τ 0 27 ≠ 43 ∧ τ 0 27 ≠ 45))
    (hR : ∀ τ', SL σ0 τ0 τ' t (n + 1) (j + 1) → cN σ0 (j + 1) 12 4 = 0 → R 1 τ') : wp_X9_labelled_B194 (n : Int) R τ := by
  have hq := LB_q h
  have hrn := LB_rn h
  obtain ⟨hch, hP, hn, hMN, h31, hb, hf, hRN, hMn, ⟨τa, hw, ga⟩, h10, hF, h7, hpl, h03⟩ := h
  obtain ⟨s1, s2, s3, s4, s5⟩ := SC_step hC hP hK
  have hm := mTk_r (τ0 := τ0) hK
  have l1 := hl.1
  rw [l1] at hst
  have lo : ∀ o i, o ≠ 1 → ld (cN σ0 j) o i = cN σ0 j o i := fun o i q => ld_o _ q
  have hnd : ¬ cdone (cN σ0 j) := fun z => by have := z.2; omega
  unfold wp_X9_labelled_B194
  rw [l1, w32_id (by omega) (by omega), mTk_sg (by omega) hK]
  refine ⟨fun q σ1 e1 => ?_, fun q => ?_⟩
  · -- open
    have hbs := ld_b s5 q.1
    rw [q.2] at hbs
    rw [q.1] at s1 s2
    have hc0 : ctC (cN σ0 j) = 0 := by
      rw [s1]
      unfold tokC kindC
      rw [lo 12 4 (by omega)]
      rcases hst with z | z
      · rw [if_neg (by omega), if_neg (by omega), if_pos z, if_pos ⟨rfl, hbs⟩]
      · rw [if_neg (by omega), if_pos z.1, if_pos ⟨rfl, Or.inl hbs⟩]
    have hS : tokS (ld (cN σ0 j)) t n 4 (tkS (bM τ0) (mlen τ0) (pN (bM τ0) (mlen τ0) j)) (pN (bM τ0) (mlen τ0) (j + 1)) = openS (ld (cN σ0 j)) t n := by
      unfold tokS kindS
      rw [lo 12 4 (by omega)]
      rcases hst with z | z
      · rw [if_neg (by omega), if_neg (by omega), if_pos z, if_pos ⟨rfl, hbs⟩]
      · rw [if_neg (by omega), if_pos z.1, if_pos rfl, if_pos hbs]
    rw [hS] at s2
    have hch' : chn σ0 (j + 1) := chain_ext hch hnd hc0
    have hp := hP.2.2.2.2.2.2.2.1
    have hg : ∀ o i, ¬ (o = 0 ∧ i = 31) → σ1 o i = τ o i := fun o i z => by rw [e1, su_ko _ _ (by omega)]
    have hM1 : MP (openS (ld (cN σ0 j)) t n) σ1 t (n + 1) := by
      refine MP_open (τ1 := τ1) (τa := τa) hn (by rw [lo 12 5 (by omega)]; exact hp) hMN (by rw [lo 12 5 (by omega)]; exact h31) (MPn_of hb (fun x w _ => by unfold nd; rw [lo 11 _ (by omega)]) (fun _ _ _ _ => rfl)) (by rw [lo 12 6 (by omega)]; exact hw) (by rw [hg 10 _ (by omega), lo 12 8 (by omega)]; exact h10) (by rw [e1, su_at]) (fun o i a c => by rw [hg o i (by omega)]; exact ga o i a (by omega)) (MPf_nw hf (Nat.le_refl _) (lo 12 9 (by omega)) (lo 12 10 (by omega)) rfl rfl rfl (fun x _ => by unfold nd; rw [lo 11 _ (by omega)])) (RNs_nw hRN (fun o i a b => lo o i (by omega)) (fun _ _ _ => rfl)) hMn
    have hSY : SY σ0 τ0 σ1 t (n + 1) (j + 1) := by
      refine SY_mk hC hch' (by rw [s2, su_ko _ _ (by omega), su_ko _ _ (by omega), openS_10]) (by rw [s2]; exact MP_sm hM1 (fun o k a b => by rw [su_ko _ _ (by omega), su_ko _ _ (by omega)])) (hF.trans (MFr_0 (fun o i z => hg o i (by omega)))) (by rw [hg 0 29 (by omega)]; exact hl.2.2) (by rw [hg 0 3 (by omega)]; exact h03)
    refine sp_nx (R := fun r3 σ2 => (r3 = 0 ∨ r3 = 1) ∧ R r3 σ2) hC hB (fun τ' z => ⟨Or.inl rfl, hQ τ' z⟩) hSY (fun τ2 h2 => ⟨Or.inr rfl, hR τ2 h2 ?_⟩)
    rw [s2, su_ko _ _ (by omega), su_ko _ _ (by omega)]
    unfold openS
    rw [su_at]
  · refine sp_cannot (R := fun r5 σ4 => (r5 = 0 ∨ r5 = 1) ∧ R r5 σ4) hC hB (fun τ' z => ⟨Or.inl rfl, hQ τ' z⟩) hch hP hK hnd ?_ hl hrn.1 hrn.2 hF
    have nb : ∀ v : Int, 33 ≤ v → mTk (bM τ0) (mlen τ0) (pN (bM τ0) (mlen τ0) j) ≠ v → ¬ (tkK (bM τ0) (mlen τ0) (pN (bM τ0) (mlen τ0) j) = 4 ∧ ld (cN σ0 j) 2 (tkS (bM τ0) (mlen τ0) (pN (bM τ0) (mlen τ0) j)) = v) := fun v hv hne z => by
      rw [ld_b s5 z.1] at z
      exact hne ((mTk_sg hv hK).mpr z)
    have n40 := nb 40 (by omega) (fun z => q ((mTk_sg (by omega) hK).mp z))
    rw [s1]
    unfold tokC kindC
    rw [lo 12 4 (by omega)]
    rcases hst with z | z
    · rw [if_neg (by omega), if_neg (by omega), if_pos z, if_neg n40]
    · have n33 := nb 33 (by omega) z.2.1
      have n42 := nb 42 (by omega) z.2.2.1
      have n43 := nb 43 (by omega) z.2.2.2.1
      have n45 := nb 45 (by omega) z.2.2.2.2
      rw [if_neg (by omega), if_pos z.1, if_neg]
      rintro ⟨y1, y2⟩
      rcases y2 with y | y | y | y | y
      · exact n40 ⟨y1, y⟩
      · exact n33 ⟨y1, y⟩
      · exact n42 ⟨y1, y⟩
      · exact n43 ⟨y1, y⟩
      · exact n45 ⟨y1, y⟩
