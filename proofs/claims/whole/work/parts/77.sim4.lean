/-! pure: the reference's readTree against the class's chain -/
def SC (σ0 τ0 : St) (t : Nat) : Prop := TmI τ0 ∧ Rw (τ0 1) ∧ σ0 1 4 = 0 ∧ tlen σ0 = mlen τ0 ∧ (∀ k, k < mlen τ0 → σ0 2 k = bM τ0 k) ∧ PI σ0 t 0 ∧ PK σ0 t 0
def chn (σ0 : St) (j : Nat) : Prop := ∀ i, i < j → ¬ cdone (cN σ0 i) ∧ ctC (cN σ0 i) = 0
def SY (σ0 τ0 τ : St) (t n j : Nat) : Prop := chn σ0 j ∧ PI (cN σ0 j) t n ∧ PK (cN σ0 j) t n ∧ MP (cN σ0 j) τ t n ∧ MFr τ0 τ t ∧ τ 0 29 = ((pN (bM τ0) (mlen τ0) j : Nat) : Int) ∧ τ 0 3 = 0
def SL (σ0 τ0 τ : St) (t n j : Nat) : Prop := chn σ0 j ∧ PI (cN σ0 j) t n ∧ PK (cN σ0 j) t n ∧ MP (cN σ0 j) τ t n ∧ MFr τ0 τ t ∧ Ld (bM τ0) (mlen τ0) τ j ∧ tkK (bM τ0) (mlen τ0) (pN (bM τ0) (mlen τ0) j) ≠ 1 ∧ τ 0 3 = 0
theorem SC_inv {σ0 τ0 : St} {t j : Nat} (hC : SC σ0 τ0 t) (hch : chn σ0 j) : ∃ n, PI (cN σ0 j) t n ∧ PK (cN σ0 j) t n ∧ cN σ0 j 10 t = (n : Int) := by
  obtain ⟨c1, c2, c3, c4, c5, c6, c7⟩ := hC
  obtain ⟨n, p, k, -, -, -⟩ := chain_inv c6 c7 (by omega) (by unfold pOf; rw [c3]; exact Nat.zero_le _) j hch
  exact ⟨n, p, k, p.2.2.2.2.2.1⟩
theorem SY_mk {σ0 τ0 τ : St} {t n j : Nat} (hC : SC σ0 τ0 t) (hch : chn σ0 j) (h10 : cN σ0 j 10 t = (n : Int)) (hM : MP (cN σ0 j) τ t n) (hF : MFr τ0 τ t) (h29 : τ 0 29 = ((pN (bM τ0) (mlen τ0) j : Nat) : Int)) (h3 : τ 0 3 = 0) : SY σ0 τ0 τ t n j := by
  obtain ⟨n', p, k, e⟩ := SC_inv hC hch
  have : n' = n := by omega
  subst this
  exact ⟨hch, p, k, hM, hF, h29, h3⟩
theorem ld_o (σ : St) {o i : Nat} (h : o ≠ 1) : ld σ o i = σ o i := Tf_tk σ _ o i (by omega)
/-- the class's step at token j -/
theorem SC_step {σ0 τ0 : St} {t n j : Nat} (hC : SC σ0 τ0 t) (hP : PI (cN σ0 j) t n) (hK : tkK (bM τ0) (mlen τ0) (pN (bM τ0) (mlen τ0) j) ≠ 1) :
    ctC (cN σ0 j) = tokC (ld (cN σ0 j)) n (tkK (bM τ0) (mlen τ0) (pN (bM τ0) (mlen τ0) j)) (tkS (bM τ0) (mlen τ0) (pN (bM τ0) (mlen τ0) j)) (pN (bM τ0) (mlen τ0) (j + 1)) ∧
    cN σ0 (j + 1) = su (su (tokS (ld (cN σ0 j)) t n (tkK (bM τ0) (mlen τ0) (pN (bM τ0) (mlen τ0) j)) (tkS (bM τ0) (mlen τ0) (pN (bM τ0) (mlen τ0) j)) (pN (bM τ0) (mlen τ0) (j + 1))) 12 0 (ctC (cN σ0 j))) 12 1 ((tkS (bM τ0) (mlen τ0) (pN (bM τ0) (mlen τ0) j) : Nat) : Int) ∧
    Sc (cN σ0 j) = tkS (bM τ0) (mlen τ0) (pN (bM τ0) (mlen τ0) j) ∧ Kc (cN σ0 j) = tkK (bM τ0) (mlen τ0) (pN (bM τ0) (mlen τ0) j) ∧ (∀ k, k < mlen τ0 → ld (cN σ0 j) 2 k = bM τ0 k) := by
  obtain ⟨c1, c2, c3, c4, c5, c6, c7⟩ := hC
  obtain ⟨v1, v2, v3, v4, v5, v6⟩ := ct_val c3 c4 c5 hP
  obtain ⟨s1, s2⟩ := ct_step v1 v2 v3 v4 v5 hK
  exact ⟨s1, s2, v2, v1, fun k hk => by rw [ld_o _ (by omega)]; exact v6 k hk⟩
/-- next(), where both sides stand alike -/
theorem sp_nx {Q R : Int → St → Prop} {σ0 τ0 τ : St} {t n j : Nat} (hC : SC σ0 τ0 t) (hB : OwB Q σ0 τ0 t) (hQ : ∀ τ', Q 0 τ' → R 0 τ') (h : SY σ0 τ0 τ t n j) (hR : ∀ τ', SL σ0 τ0 τ' t n j → R 1 τ') : wp_X9_next R τ := by
  obtain ⟨c1, c2, c3, c4, c5, c6, c7⟩ := hC
  obtain ⟨a1, a2, a3, a4, a5, a6, a7⟩ := h
  refine sp_mto c1 c3 c4 c5 a2 hB a1 a6 a4.2.2.2.1 a4.2.2.2.2.1 a5 hQ (fun q τ' g l => ?_)
  exact hR τ' ⟨a1, a2, a3, MP_sc a4 (fun o i z => g o i (by omega)), a5.trans (MFr_0 (fun o i z => g o i (by omega))), l, q, by rw [g 0 3 (by omega)]; exact a7⟩
/-- what is owed at a flaw of token j -/
theorem SC_bad {Q : Int → St → Prop} {σ0 τ0 τ : St} {t n j : Nat} {c pl : Int} (hC : SC σ0 τ0 t) (hB : OwB Q σ0 τ0 t) (hch : chn σ0 j) (hP : PI (cN σ0 j) t n) (hK : tkK (bM τ0) (mlen τ0) (pN (bM τ0) (mlen τ0) j) ≠ 1) (hnd : ¬ cdone (cN σ0 j)) (hc : ctC (cN σ0 j) = c) (hc0 : c ≠ 0) (hpl : pl = ((tkS (bM τ0) (mlen τ0) (pN (bM τ0) (mlen τ0) j) : Nat) : Int)) (hR : RNs (cN σ0 j) τ) (hM : Mnm τ) (hF : MFr τ0 τ t) : Q 0 (su (su τ 0 3 c) 0 4 pl) := by
  have v2 := (SC_step hC hP hK).2.2.1
  have w := sp_mbad (R := Q) hB hch hnd hc hc0 (show pl = ((Sc (cN σ0 j) : Nat) : Int) by rw [v2]; exact hpl) hR hM hF (fun _ z => z)
  exact w _ rfl _ rfl
theorem sp_cannot {Q R : Int → St → Prop} {σ0 τ0 τ : St} {t n j : Nat} (hC : SC σ0 τ0 t) (hB : OwB Q σ0 τ0 t) (hQ : ∀ τ', Q 0 τ' → R 0 τ') (hch : chn σ0 j) (hP : PI (cN σ0 j) t n) (hK : tkK (bM τ0) (mlen τ0) (pN (bM τ0) (mlen τ0) j) ≠ 1) (hnd : ¬ cdone (cN σ0 j)) (hc : ctC (cN σ0 j) = 2) (hl : Ld (bM τ0) (mlen τ0) τ j) (hR : RNs (cN σ0 j) τ) (hM : Mnm τ) (hF : MFr τ0 τ t) : wp_X9_cannot R τ := by
  unfold wp_X9_cannot
  apply sp_mflaw
  exact ⟨Or.inl rfl, hQ _ (SC_bad hC hB hch hP hK hnd hc (by decide) hl.2.1 hR hM hF)⟩
theorem MN_of {τ τ' : St} {t n : Nat} (h : MN τ t n) (hs : ∀ o i, (o = 0 ∧ (i = 23 ∨ i = 30 ∨ i = 31)) ∨ o = 8 ∨ o = 11 ∨ o = 12 → τ' o i = τ o i) : MN τ' t n := by
  obtain ⟨a1, a2, a3, a4, a5, a6, a7⟩ := h
  have e8 : (fun y => τ' 8 (12 * t + y)) = fun y => τ 8 (12 * t + y) := funext fun y => hs 8 _ (by omega)
  exact ⟨by rw [hs 0 23 (by omega)]; exact a1, a2, by rw [hs 0 30 (by omega)]; exact a3, a4, by rw [hs 0 31 (by omega)]; exact a5, by rw [e8]; exact a6, fun y hy => by rw [e8, hs 11 _ (by omega), hs 12 _ (by omega)]; exact a7 y hy⟩
theorem MPn_of {σ σ' τ τ' : St} {t n : Nat} (h : MPn σ τ t n) (hn : ∀ x w, x < n → nd σ' t x w = nd σ t x w) (hs : ∀ o i, 6 ≤ o → o ≤ 10 → τ' o i = τ o i) : MPn σ' τ' t n := fun x hx => by
  rw [hn x _ hx, hn x _ hx, hn x _ hx, hn x _ hx, hn x _ hx, hs 6 _ (by omega) (by omega), hs 7 _ (by omega) (by omega), hs 8 _ (by omega) (by omega), hs 9 _ (by omega) (by omega), hs 10 _ (by omega) (by omega)]
  exact h x hx
theorem MFr_nw {τ τ' : St} {t n : Nat} {k nme : Int} (h : NwN τ τ' t n k nme) (hn : n < 12) : MFr τ τ' t := ⟨fun o i a => h.1 o i (by omega) (by omega), fun i a b c d e => h.1 0 i (by omega) (by omega), fun o i a b c => h.2.2.2.2.2 o i (fun y hy => c y (by omega)) (by omega)⟩
theorem MFr_nm {τ τ' : St} {t : Nat} (h : ∀ o k, ¬ (2 ≤ o ∧ o ≤ 5) → ¬ (o = 0 ∧ (k = 7 ∨ k = 10)) → τ' o k = τ o k) : MFr τ τ' t := ⟨fun o i a => h o i (by omega) (by omega), fun i a b c d e => h 0 i (by omega) (by omega), fun o i a b c => h o i (by omega) (by omega)⟩
theorem MFr_row {τ τ' : St} {t n : Nat} (hn : n < 12) (h : ∀ o i, ¬ (6 ≤ o ∧ o ≤ 12 ∧ i = 12 * t + n) → ¬ (o = 0 ∧ (27 ≤ i ∧ i ≤ 34)) → τ' o i = τ o i) : MFr τ τ' t := ⟨fun o i a => h o i (by omega) (by omega), fun i a b c d e => h 0 i (by omega) (by omega), fun o i a b c => h o i (by have := c n hn; omega) (by omega)⟩
/-- the open node, where there are nodes -/
theorem PK_n0 {σ : St} {t n : Nat} (h : PK σ t n) (h4 : σ 12 4 ≠ 4) (hc : σ 12 5 = -1) : n = 0 := h.1.2.2.2.2.2.2.2.2.2.1 h4 hc
theorem tk_bytes {τ0 τ : St} {t : Nat} {σ : St} {s e : Nat} (hR : Rw (τ0 1)) (hF : MFr τ0 τ t) (he : e ≤ mlen τ0) (hb : ∀ k, k < mlen τ0 → σ 2 k = bM τ0 k) (hl : ∀ k, s ≤ k → k < e → bM τ0 k < 128) : ∀ x, x < e - s → σ 2 (s + x) = τ 1 (s + x) := fun x hx => by
  rw [hb _ (by omega), hF.1 1 _ (by omega), bM_eq hR (hl _ (by omega) (by omega))]
/-- a word -/
theorem sp_sword {Q R : Int → St → Prop} {σ0 τ0 τ : St} {t n j : Nat} (hC : SC σ0 τ0 t) (hB : OwB Q σ0 τ0 t) (hQ : ∀ τ', Q 0 τ' → R 0 τ') (h : SL σ0 τ0 τ t n j) (hst : cN σ0 j 12 4 = 0 ∨ cN σ0 j 12 4 = 3) (hK3 : tkK (bM τ0) (mlen τ0) (pN (bM τ0) (mlen τ0) j) = 3)
    (hR : ∀ τ', SL σ0 τ0 τ' t (n + 1) (j + 1) → (cN σ0 (j + 1) 12 4 = 3 ∨ cN σ0 (j + 1) 12 4 = 4) → R 1 τ') : wp_X9_newNode (fun r σ10 => (w32 r = 0 → Q 0 σ10) ∧ (¬ w32 r = 0 → wp_X9_next R σ10)) τ := by
  obtain ⟨hch, hP, hPK, hMP, hF, hl, hK, h03⟩ := h
  have hst5 := SC_step hC hP hK
  obtain ⟨s1, s2, s3, s4, s5⟩ := hst5
  rw [hK3] at s1 s2 s4
  have hnd : ¬ cdone (cN σ0 j) := fun z => by have := z.2; omega
  have lo : ∀ o i, o ≠ 1 → ld (cN σ0 j) o i = cN σ0 j o i := fun o i q => ld_o _ q
  have tN : tokC (ld (cN σ0 j)) n 3 (tkS (bM τ0) (mlen τ0) (pN (bM τ0) (mlen τ0) j)) (pN (bM τ0) (mlen τ0) (j + 1)) = nodeC (ld (cN σ0 j)) n 3 (tkS (bM τ0) (mlen τ0) (pN (bM τ0) (mlen τ0) j)) (pN (bM τ0) (mlen τ0) (j + 1)) := by
    unfold tokC
    rw [lo 12 4 (by omega)]
    rcases hst with q | q
    · rw [if_pos q]
    · rw [if_neg (by omega), if_neg (by omega), if_neg (by omega), if_pos q, if_neg (by omega)]
  have tS : tokS (ld (cN σ0 j)) t n 3 (tkS (bM τ0) (mlen τ0) (pN (bM τ0) (mlen τ0) j)) (pN (bM τ0) (mlen τ0) (j + 1)) = nodeS (ld (cN σ0 j)) t n 3 (tkS (bM τ0) (mlen τ0) (pN (bM τ0) (mlen τ0) j)) (pN (bM τ0) (mlen τ0) (j + 1)) := by
    unfold tokS
    rw [lo 12 4 (by omega)]
    rcases hst with q | q
    · rw [if_pos q]
    · rw [if_neg (by omega), if_neg (by omega), if_neg (by omega), if_pos q, if_neg (by omega)]
  rw [tN] at s1
  rw [tS] at s2
  generalize hs : tkS (bM τ0) (mlen τ0) (pN (bM τ0) (mlen τ0) j) = s at *
  have hle := pN_le (bM τ0) (mlen τ0) (j + 1)
  have hge : s ≤ pN (bM τ0) (mlen τ0) (j + 1) := by rw [← hs]; exact tkE_ge _ _ _
  have hw12 : pN (bM τ0) (mlen τ0) (j + 1) - s ≤ 12 := by rw [← hs]; exact (tkE_w hK3).1
  have hbt : ∀ k, s ≤ k → k < pN (bM τ0) (mlen τ0) (j + 1) → bM τ0 k < 128 := fun k a b => by
    have := isSm_r (tk_word hK3 (by rw [hs]; exact a) b)
    omega
  generalize he : pN (bM τ0) (mlen τ0) (j + 1) = e at *
  have hm1000 := (mlen_eq hC.1).2
  obtain ⟨m1, m2, m3, m4, m5, m6⟩ := hMP
  obtain ⟨l1, l2, l3⟩ := hl
  have hPl : PI (ld (cN σ0 j)) t n := PI_tf hP (Tf_tk _ _)
  have n0 : τ 0 31 = -1 → n = 0 := fun q => PK_n0 hPK (by omega) (by rw [← m6]; exact q)
  refine sp_mnewword (σ := ld (cN σ0 j)) (s := s) (e := e) m1 n0 hPl.2.2.1 (RN_of m4.2 (lo 7 3 (by omega)) (fun k => lo 8 k (by omega)) (fun k => lo 9 k (by omega)) rfl (fun _ => rfl) (fun _ => rfl)) m5.2.2.1 m5.2.2.2 (fun k => by rw [hF.1 1 k (by omega)]; exact hC.2.1 k) (by rw [l2, hs]) (by rw [l3, he]) (by rw [l1]; exact mTk_3 hK3) hge (by omega) hw12 (tk_bytes hC.2.1 hF hle s5 hbt) (fun q => ?_) (fun hn hr τ1 τ' g gN gl gR hw => ?_)
  · refine ⟨fun _ => SC_bad hC hB hch hP hK hnd (c := 3) ?_ (by decide) (by rw [hs]) m4 m5 hF, fun z => absurd w32_0 z⟩
    rw [s1]
    unfold nodeC
    rw [if_neg (by omega), if_pos rfl]
    rcases q with q | q
    · rw [if_neg (by omega)]
    · rw [if_pos q]; split <;> rfl
  · refine ⟨fun z => absurd z (by decide), fun _ => ?_⟩
    have hc0 : nodeC (ld (cN σ0 j)) n 3 s e = 0 := by unfold nodeC; rw [if_neg (by omega), if_pos rfl, if_pos hn, if_neg hr]
    have hnS : nodeS (ld (cN σ0 j)) t n 3 s e = wordS (ld (cN σ0 j)) t n s e := by unfold nodeS; rw [if_pos hc0, if_neg (by omega)]
    rw [hc0] at s1
    rw [hnS] at s2
    have hch' : chn σ0 (j + 1) := chain_ext hch hnd s1
    have S12 : ∀ i, i ≠ 12 → su (tnS (ld (cN σ0 j)) 7 12 32 s e) 12 12 1 12 i = cN σ0 j 12 i := fun i q => by rw [su_ko _ _ (by omega), tnS_fr _ (by omega) (by omega) (by omega), lo 12 i (by omega)]
    have Snd : ∀ x w, nd (su (tnS (ld (cN σ0 j)) 7 12 32 s e) 12 12 1) t x w = nd (cN σ0 j) t x w := fun x w => by unfold nd; rw [su_ko _ _ (by omega), tnS_fr _ (by omega) (by omega) (by omega), lo 11 _ (by omega)]
    have S4 : ∀ o i, 4 ≤ o → o ≤ 6 → su (tnS (ld (cN σ0 j)) 7 12 32 s e) 12 12 1 o i = cN σ0 j o i := fun o i q z => by rw [su_ko _ _ (by omega), tnS_fr _ (by omega) (by omega) (by omega), lo o _ (by omega)]
    have hp := hP.2.2.2.2.2.2.2.1
    have hcur : -1 ≤ su (tnS (ld (cN σ0 j)) 7 12 32 s e) 12 12 1 12 5 ∧ su (tnS (ld (cN σ0 j)) 7 12 32 s e) 12 12 1 12 5 < (n : Int) := by rw [S12 5 (by omega)]; exact hp
    have hM1 : MP (wordS (ld (cN σ0 j)) t n s e) τ' t (n + 1) := by
      unfold wordS
      refine MP_leaf (τ1 := τ1) (τa := τ') hn hcur (MN_of m1 (fun o i z => g o i (by omega) (by omega) (by omega))) (by rw [S12 5 (by omega), g 0 31 (by omega) (by omega) (by omega)]; exact m6) (MPn_of m2 (fun x w _ => Snd x w) (fun o i _ _ => g o i (by omega) (by omega) (by omega))) hw hw.2.2.2.1.1 (fun _ _ _ _ => rfl) ?_ ?_ ?_
      · refine MPf_nw m3 (by omega) (by rw [leafS_12 _ (by omega), S12 9 (by omega)]) (by rw [leafS_12 _ (by omega), S12 10 (by omega)]) (by rw [hw.1 0 32 (by omega) (by omega), g 0 32 (by omega) (by omega) (by omega)]) (by rw [hw.1 0 33 (by omega) (by omega), g 0 33 (by omega) (by omega) (by omega)]) (by rw [hw.1 0 34 (by omega) (by omega), g 0 34 (by omega) (by omega) (by omega)]) (fun x hx => ?_)
        rw [leafS_nd, aRow_nd _ _ _ _ hn (by omega) (by omega) hcur, if_neg (by omega), if_neg (by omega)]
        exact Snd x 0
      · refine ⟨RN_of m4.1 (S4 4 3 (by omega) (by omega)) (fun k => S4 5 k (by omega) (by omega)) (fun k => S4 6 k (by omega) (by omega)) (g 0 7 (by omega) (by omega) (by omega)) (fun k => g 3 k (by omega) (by omega) (by omega)) (fun k => g 2 k (by omega) (by omega) (by omega)), RN_of gN (su_ko _ _ (by omega)) (fun k => su_ko _ _ (by omega)) (fun k => su_ko _ _ (by omega)) rfl (fun _ => rfl) (fun _ => rfl)⟩
      · exact ⟨fun k => by rw [g 3 k (by omega) (by omega) (by omega)]; exact m5.1 k, fun k => by rw [g 2 k (by omega) (by omega) (by omega)]; exact m5.2.1 k, gl, gR⟩
    have e10 : cN σ0 (j + 1) 10 t = ((n + 1 : Nat) : Int) := by rw [s2, su_ko _ _ (by omega), su_ko _ _ (by omega)]; unfold wordS; rw [leafS_10]
    have hSY : SY σ0 τ0 τ' t (n + 1) (j + 1) := by
      refine SY_mk hC hch' e10 (by rw [s2]; exact MP_sm hM1 (fun o k a b => by rw [su_ko _ _ (by omega), su_ko _ _ (by omega)])) ((hF.trans (MFr_nm (fun o k a b => g o k (by omega) (by omega) (by omega)))).trans (MFr_nw hw hn)) ?_ (by rw [hw.1 0 3 (by omega) (by omega), g 0 3 (by omega) (by omega) (by omega)]; exact h03)
      rw [hw.1 0 29 (by omega) (by omega), g 0 29 (by omega) (by omega) (by omega), l3]
    refine sp_nx hC hB hQ hSY (fun τ2 h2 => hR τ2 h2 ?_)
    rw [s2, su_ko _ _ (by omega), su_ko _ _ (by omega)]
    unfold wordS leafS
    rw [su_at]
    split
    · exact Or.inr rfl
    · exact Or.inl rfl
