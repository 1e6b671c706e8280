/-! pure: the reference's readTree -/
theorem pN_mono (b : Nat → Int) (len j : Nat) : ∀ i, pN b len j ≤ pN b len (j + i) := by
  intro i
  induction i with
  | zero => exact Nat.le_refl _
  | succ i ih =>
    have h1 := tkS_ge b len (pN b len (j + i))
    have h2 := tkE_ge b len (pN b len (j + i))
    have : pN b len (j + (i + 1)) = tkE b len (pN b len (j + i)) := rfl
    omega
theorem sp_sclose {Q R : Int → St → Prop} {σ0 τ0 τ τ' : St} {t n j : Nat} (hC : SC σ0 τ0 t) (hB : OwB Q σ0 τ0 t) (hQ : ∀ τ', Q 0 τ' → R 0 τ') (h : SL σ0 τ0 τ t n j) (hst : cN σ0 j 12 4 = 3) (ht : mTk (bM τ0) (mlen τ0) (pN (bM τ0) (mlen τ0) j) = 41) (hc : cN σ0 j 12 5 ≠ -1) (e : τ' = su τ 0 31 (τ 8 (12 * t + (cN σ0 j 12 5).toNat)))
    (hR : ∀ τ', SL σ0 τ0 τ' t n (j + 1) → (cN σ0 (j + 1) 12 4 = 3 ∨ cN σ0 (j + 1) 12 4 = 4) → R 1 τ') : wp_X9_next R τ' := by
  obtain ⟨hch, hP, hPK, hMP, hF, hl, hK, h03⟩ := h
  obtain ⟨s1, s2, s3, s4, s5⟩ := SC_step hC hP hK
  have lo : ∀ o i, o ≠ 1 → ld (cN σ0 j) o i = cN σ0 j o i := fun o i q => ld_o _ q
  have hnd : ¬ cdone (cN σ0 j) := fun z => by have := z.2; omega
  rw [mTk_sg (by omega) hK] at ht
  have hbs := ld_b s5 ht.1
  rw [ht.2] at hbs
  rw [ht.1] at s1 s2
  have hc0 : ctC (cN σ0 j) = 0 := by
    rw [s1]
    unfold tokC
    rw [lo 12 4 (by omega), if_neg (by omega), if_neg (by omega), if_neg (by omega), if_pos hst, if_pos ⟨rfl, hbs⟩]
  have hS : tokS (ld (cN σ0 j)) t n 4 (tkS (bM τ0) (mlen τ0) (pN (bM τ0) (mlen τ0) j)) (pN (bM τ0) (mlen τ0) (j + 1)) = closeS (ld (cN σ0 j)) t := by
    unfold tokS
    rw [lo 12 4 (by omega), if_neg (by omega), if_neg (by omega), if_neg (by omega), if_pos hst, if_pos ⟨rfl, hbs⟩]
  rw [hS] at s2
  have g : ∀ o i, ¬ (o = 0 ∧ i = 31) → τ' o i = τ o i := fun o i z => by rw [e, su_ko _ _ z]
  have hMl : MP (ld (cN σ0 j)) τ t n := MP_sm hMP (fun o k a b => lo o k a)
  have hM1 : MP (closeS (ld (cN σ0 j)) t) τ' t n := MP_close hMl (by rw [lo 12 5 (by omega)]; exact hc) (fun x hx => by
    show -1 ≤ nd (ld (cN σ0 j)) t x 2 ∧ nd (ld (cN σ0 j)) t x 2 < (x : Int)
    unfold nd
    rw [lo 11 _ (by omega)]
    exact hP.2.2.2.2.2.2.2.2.1 x hx) (by rw [lo 12 5 (by omega), e, su_at]) (fun o i z => g o i (by omega))
  have hSY : SY σ0 τ0 τ' t n (j + 1) := by
    refine SY_mk hC (chain_ext hch hnd hc0) ?_ (by rw [s2]; exact MP_sm hM1 (fun o k a b => by rw [su_ko _ _ (by omega), su_ko _ _ (by omega)])) (hF.trans (MFr_0 (fun o i z => g o i (by omega)))) (by rw [g 0 29 (by omega)]; exact hl.2.2) (by rw [g 0 3 (by omega)]; exact h03)
    rw [s2, su_ko _ _ (by omega), su_ko _ _ (by omega)]
    unfold closeS
    rw [su_ko _ _ (by omega), su_ko _ _ (by omega), lo 10 _ (by omega)]
    exact hP.2.2.2.2.2.1
  refine sp_nx hC hB hQ hSY (fun τ2 h2 => hR τ2 h2 ?_)
  rw [s2, su_ko _ _ (by omega), su_ko _ _ (by omega)]
  unfold closeS
  rw [su_at]
  split
  · exact Or.inr rfl
  · exact Or.inl rfl
theorem sp_mreadL {Q : Int → St → Prop} {σ0 τ0 : St} {t : Nat} (hC : SC σ0 τ0 t) (hB : OwB Q σ0 τ0 t) (hE : ∀ j n τ', SL σ0 τ0 τ' t n j → cdone (cN σ0 j) → Q 1 τ') :
    ∀ (m j n : Nat) (x1 : Int) (τ : St), SL σ0 τ0 τ t n j → mlen τ0 - pN (bM τ0) (mlen τ0) j < m → ((x1 = 1 ∧ (cN σ0 j 12 4 = 0 ∨ cN σ0 j 12 4 = 3)) ∨ (x1 = 0 ∧ cN σ0 j 12 4 = 4)) → wp_X9_readTree_L22 Q m x1 τ := by
  intro m
  induction m with
  | zero => intro j n x1 τ _ hm; omega
  | succ m ih =>
    intro j n x1 τ hS hm hx
    have hS0 := hS
    obtain ⟨hch, hP, hPK, hMP, hF, hl, hK, h03⟩ := hS
    obtain ⟨s1, s2, s3, s4, s5⟩ := SC_step hC hP hK
    have lo : ∀ o i, o ≠ 1 → ld (cN σ0 j) o i = cN σ0 j o i := fun o i q => ld_o _ q
    have hm' := mTk_r (τ0 := τ0) hK
    have l1 := hl.1
    have hkk := mTk_k hK
    have hmP := hMP
    obtain ⟨m1, m2, m3, m4, m5, m6⟩ := hMP
    have hp := hP.2.2.2.2.2.2.2.1
    have hn12a := hP.2.2.2.2.2.2.1
    have h5 : w32 (τ 0 31) = cN σ0 j 12 5 := by rw [m6]; exact w32_id (by omega) (by omega)
    -- the loop's next turn
    have turn : tkK (bM τ0) (mlen τ0) (pN (bM τ0) (mlen τ0) j) ≠ 0 → ∀ j' n' τ', j < j' → SL σ0 τ0 τ' t n' j' → 0 < n' → (cN σ0 j' 12 4 = 0 ∨ cN σ0 j' 12 4 = 3 ∨ cN σ0 j' 12 4 = 4) → (¬ w32 1 = 0 → wp_X9_readTree_B131 (fun z0 σ => wp_X9_readTree_L22 Q m z0 σ) Q τ') ∧ (w32 1 = 0 → Q 0 τ') := by
      intro k0 j' n' τ' hj hS' hn' hst'
      refine ⟨fun _ => ?_, fun z => absurd z (by decide)⟩
      have lt := tkE_lt k0
      have ge := tkS_ge (bM τ0) (mlen τ0) (pN (bM τ0) (mlen τ0) j)
      have mono := pN_mono (bM τ0) (mlen τ0) (j + 1) (j' - (j + 1))
      rw [show j + 1 + (j' - (j + 1)) = j' by omega] at mono
      have pe : pN (bM τ0) (mlen τ0) (j + 1) = tkE (bM τ0) (mlen τ0) (pN (bM τ0) (mlen τ0) j) := rfl
      have hlt : mlen τ0 - pN (bM τ0) (mlen τ0) j' < m := by omega
      have hP' := hS'.2.1
      have hPK' := hS'.2.2.1
      have h6' := hS'.2.2.2.1.2.2.2.2.2
      have hp' := hP'.2.2.2.2.2.2.2.1
      have hn12' := hP'.2.2.2.2.2.2.1
      unfold wp_X9_readTree_B131 wp_X9_readTree_B144
      rw [show w32 (τ' 0 31) = cN σ0 j' 12 5 by rw [h6']; exact w32_id (by omega) (by omega)]
      refine ⟨fun q => ?_, fun q => ?_⟩
      · refine ih j' n' 0 τ' hS' hlt (Or.inr ⟨rfl, ?_⟩)
        by_cases z : cN σ0 j' 12 4 = 4
        · exact z
        · have := PK_n0 hPK' z q; omega
      · refine ih j' n' 1 τ' hS' hlt (Or.inl ⟨rfl, ?_⟩)
        rcases hst' with z | z | z
        · exact Or.inl z
        · exact Or.inr z
        · exact absurd (hPK'.1.2.2.2.2.2.2.2.2.1 z).2 q
    unfold wp_X9_readTree_L22
    rw [l1, w32_id (show -2147483648 ≤ mTk (bM τ0) (mlen τ0) (pN (bM τ0) (mlen τ0) j) by omega) (by omega), h5]
    rcases hx with ⟨x1e, hst⟩ | ⟨x1e, hst⟩
    · -- more to come
      have hnd : ¬ cdone (cN σ0 j) := fun z => by have := z.2; omega
      refine ⟨fun z => absurd z (by rw [x1e]; decide), fun _ => ⟨fun y1 => ⟨fun y2 => ?_, fun y2 => ?_⟩, fun y1 => ?_⟩⟩
      · -- no name
        have hk04 : tkK (bM τ0) (mlen τ0) (pN (bM τ0) (mlen τ0) j) ≠ 2 ∧ tkK (bM τ0) (mlen τ0) (pN (bM τ0) (mlen τ0) j) ≠ 3 := by
          rcases hkk with q | q | q | q
          · omega
          · exact absurd q.2 y1
          · exact absurd q.2 y2
          · omega
        have nb : ∀ v : Int, 33 ≤ v → mTk (bM τ0) (mlen τ0) (pN (bM τ0) (mlen τ0) j) ≠ v → ¬ (tkK (bM τ0) (mlen τ0) (pN (bM τ0) (mlen τ0) j) = 4 ∧ ld (cN σ0 j) 2 (tkS (bM τ0) (mlen τ0) (pN (bM τ0) (mlen τ0) j)) = v) := fun v hv hne z => by
          rw [ld_b s5 z.1] at z
          exact hne ((mTk_sg hv hK).mpr z)
        have hnode : nodeC (ld (cN σ0 j)) n (tkK (bM τ0) (mlen τ0) (pN (bM τ0) (mlen τ0) j)) (tkS (bM τ0) (mlen τ0) (pN (bM τ0) (mlen τ0) j)) (pN (bM τ0) (mlen τ0) (j + 1)) = 2 := by unfold nodeC; rw [if_neg hk04.1, if_neg hk04.2]
        have b126 : (cN σ0 j 12 4 = 0 ∨ mTk (bM τ0) (mlen τ0) (pN (bM τ0) (mlen τ0) j) ≠ 41) → wp_X9_readTree_B126 Q τ := by
          intro hz
          unfold wp_X9_readTree_B126
          refine sp_cannot (R := fun r2 σ1 => (r2 = 0 ∨ r2 = 1) ∧ Q r2 σ1) hC hB (fun τ' z => ⟨Or.inl rfl, z⟩) hch hP hK hnd ?_ hl m4 m5 hF
          rw [s1]
          unfold tokC
          rw [lo 12 4 (by omega)]
          rcases hst with q | q
          · rw [if_pos q]; exact hnode
          · rw [if_neg (by omega), if_neg (by omega), if_neg (by omega), if_pos q, if_neg (nb 41 (by omega) (by omega))]; exact hnode
        refine ⟨fun y41 => b126 (Or.inr y41), fun y41 => ⟨fun z => ?_, fun z => ?_⟩⟩
        · rcases hst with q | q
          · exact b126 (Or.inl q)
          · exact absurd z (hP.2.2.2.2.2.2.2.2.2.2.2.1 q)
        · unfold wp_X9_here
          have hn12 := hP.2.2.2.2.2.2.1
          obtain ⟨hh, hhn⟩ := hereN (x := τ 0 31) m1.1 m1.2.1 (by rw [m6]; omega)
          have hxn : (cN σ0 j 12 5).toNat < n := by omega
          rw [m6] at hh hhn ⊢
          have e9 : τ 9 (12 * t + (cN σ0 j 12 5).toNat) = chc (fun y => nd (cN σ0 j) t y 2) n (cN σ0 j 12 5) := by
            rw [(m2 _ hxn).2.2.2.1, (hPK.2.1 _ hxn).2.2.2.2.2, show (((cN σ0 j 12 5).toNat : Nat) : Int) = cN σ0 j 12 5 by omega]
          have cr := chc_r (fun y => nd (cN σ0 j) t y 2) (cN σ0 j 12 5) n
          refine ⟨hh, ?_⟩
          rw [hhn, e9, w32_id (by omega) (by omega)]
          refine ⟨fun le => ?_, fun gt => ?_⟩
          · rcases hst with q | q
            · exact b126 (Or.inl q)
            · have j3 := hPK.1.2.2.2.2.2.2.2.1 q
              have kd := hPK.1.2.2.2.2.2.1 z
              have cl := hPK.1.2.2.2.1 _ hxn kd
              have : 0 < chc (fun y => nd (cN σ0 j) t y 2) n (cN σ0 j 12 5) := by
                rcases cl with ⟨w1, w2⟩ | ⟨w1, w2⟩
                · exact chc_pos (y := (cN σ0 j 12 5).toNat + 1) (w2.trans (by omega)) n w1
                · omega
              omega
          · rcases hst with q | q
            · have j0 := hPK.1.2.2.2.2.2.2.2.2.2.2.1 q z
              have : chc (fun y => nd (cN σ0 j) t y 2) n (cN σ0 j 12 5) = 0 := chc_no n (fun y hy => by
                have := hPK.1.1 y hy
                simp only [] at this ⊢
                omega)
              omega
            · rw [m6]
              refine ⟨hh, fun σ7 e7 => ?_⟩
              rw [hhn] at e7
              refine sp_sclose (R := fun r9 σ8 => (¬ w32 r9 = 0 → wp_X9_readTree_B131 (fun z0 σ => wp_X9_readTree_L22 Q m z0 σ) Q σ8) ∧ (w32 r9 = 0 → Q 0 σ8)) hC hB (fun τ' w => ⟨fun y => absurd w32_0 y, fun _ => w⟩) hS0 q y41 z e7 (fun τ' a b => turn ?_ _ n τ' (by omega) a (by omega) (Or.inr b))
              rw [((mTk_sg (by omega) hK).mp y41).1]; decide
      · -- a word
        have k3 : tkK (bM τ0) (mlen τ0) (pN (bM τ0) (mlen τ0) j) = 3 := by
          rcases hkk with q | q | q | q
          · omega
          · omega
          · exact q.1
          · have := q.2.2; rw [← q.2.1, y2] at this; exact absurd this (by decide)
        exact sp_sword (R := fun r13 σ12 => (¬ w32 r13 = 0 → wp_X9_readTree_B131 (fun z0 σ => wp_X9_readTree_L22 Q m z0 σ) Q σ12) ∧ (w32 r13 = 0 → Q 0 σ12)) hC hB (fun τ' w => ⟨fun y => absurd w32_0 y, fun _ => w⟩) hS0 hst k3 (fun τ' a b => turn (by rw [k3]; decide) _ (n + 1) τ' (by omega) a (by omega) (Or.inr b))
      · -- a label
        have k2 : tkK (bM τ0) (mlen τ0) (pN (bM τ0) (mlen τ0) j) = 2 := by
          rcases hkk with q | q | q | q
          · omega
          · exact q.1
          · omega
          · have := q.2.2; rw [← q.2.1, y1] at this; exact absurd this (by decide)
        exact sp_slab (R := fun r15 σ14 => (¬ w32 r15 = 0 → wp_X9_readTree_B131 (fun z0 σ => wp_X9_readTree_L22 Q m z0 σ) Q σ14) ∧ (w32 r15 = 0 → Q 0 σ14)) hC hB (fun τ' w => ⟨fun y => absurd w32_0 y, fun _ => w⟩) hS0 hst k2 (fun j' τ' a b c => turn (by rw [k2]; decide) _ (n + 1) τ' a b (by omega) c)
    · -- the end
      refine ⟨fun _ => ⟨fun q => ?_, fun q => ?_⟩, fun z => absurd (by rw [x1e]; exact w32_0) z⟩
      · have k0 : tkK (bM τ0) (mlen τ0) (pN (bM τ0) (mlen τ0) j) = 0 := by
          rcases hkk with y | y | y | y
          · exact y.1
          · omega
          · omega
          · have := y.2.2; rw [← y.2.1, q] at this; exact absurd this (by decide)
        exact hE j n τ hS0 ⟨s4.trans k0, hst⟩
      · have k0 : tkK (bM τ0) (mlen τ0) (pN (bM τ0) (mlen τ0) j) ≠ 0 := fun y => q (mTk_0 y)
        refine sp_cannot (R := fun r2 σ1 => (w32 r2 = 0 → Q 0 σ1) ∧ (¬ w32 r2 = 0 → wp_X9_readTree_B162 Q σ1)) hC hB (fun τ' z => ⟨fun _ => z, fun y => absurd w32_0 y⟩) hch hP hK (fun z => k0 (s4.symm.trans z.1)) ?_ hl m4 m5 hF
        rw [s1]
        unfold tokC
        rw [lo 12 4 (by omega), if_neg (by omega), if_neg (by omega), if_neg (by omega), if_neg (by omega)]
/-- readTree(): τ0 is the reference's world when tree() began; τ: the first token is loaded -/
theorem sp_mreadTree {Q : Int → St → Prop} {σ0 τ0 τ : St} {t : Nat} (hC : SC σ0 τ0 t) (hB : OwB Q σ0 τ0 t) (hE : ∀ j n τ', SL σ0 τ0 τ' t n j → cdone (cN σ0 j) → Q 1 τ') (h4 : σ0 12 4 = 0) (h5 : σ0 12 5 = -1) (h9 : σ0 12 9 = 0) (h23 : τ0 0 23 = (t : Int)) (hRN : RNs σ0 τ0) (hMn : Mnm τ0) (hF : ∀ o i, ¬ (o = 0 ∧ (i = 3 ∨ i = 4 ∨ i = 27 ∨ i = 28 ∨ i = 29)) → τ o i = τ0 o i) (h03 : τ 0 3 = 0) (hl : Ld (bM τ0) (mlen τ0) τ 0) (hK : tkK (bM τ0) (mlen τ0) (pN (bM τ0) (mlen τ0) 0) ≠ 1) : wp_X9_readTree Q τ := by
  unfold wp_X9_readTree
  intro a1 f1 a2 f2 a3 f3 a4 f4
  have g : ∀ o i, ¬ (o = 0 ∧ (30 ≤ i ∧ i ≤ 34)) → a4 o i = τ o i := fun o i z => by rw [f4, su_ko _ _ (by omega), f3, su_ko _ _ (by omega), f2, su_ko _ _ (by omega), f1, su_ko _ _ (by omega)]
  have g30 : a4 0 30 = 0 := by rw [f4, su_ko _ _ (by omega), f3, su_ko _ _ (by omega), f2, su_ko _ _ (by omega), f1, su_at]
  have g31 : a4 0 31 = -1 := by rw [f4, su_ko _ _ (by omega), f3, su_ko _ _ (by omega), f2, su_at]
  have g32 : a4 0 32 = -1 := by rw [f4, su_ko _ _ (by omega), f3, su_at]
  have g34 : a4 0 34 = -1 := by rw [f4, su_at]
  have hP := hC.2.2.2.2.2.1
  have hPK := hC.2.2.2.2.2.2
  refine ⟨_, sp_mreadL hC hB hE (mlen τ0 + 1) 0 0 1 a4 ⟨fun i hi => by omega, hP, hPK, ⟨⟨?_, hP.2.2.2.2.1, g30, by omega, by rw [g31]; omega, fun y hy => by omega, fun y hy => by omega⟩, fun x hx => by omega, ?_, RNs_nw hRN (fun _ _ _ _ => rfl) (fun o i z => by rw [g o i (by omega), hF o i (by omega)]), Mnm_nw hMn (fun o i z => by rw [g o i (by omega), hF o i (by omega)]), by rw [g31]; exact h5.symm⟩, MFr_0 (fun o i z => by rw [g o i (by omega), hF o i (by omega)]), ?_, hK, by rw [g 0 3 (by omega)]; exact h03⟩ (by have : pN (bM τ0) (mlen τ0) 0 = 0 := rfl; omega) (Or.inl ⟨rfl, Or.inl h4⟩)⟩
  · rw [g 0 23 (by omega), hF 0 23 (by omega)]; exact h23
  · refine ⟨fun _ => ⟨g32, g34⟩, fun z => ?_, fun z => ?_, by rw [g32]; omega, by rw [g34]; omega⟩
    · change σ0 12 9 = 1 at z; omega
    · change 2 ≤ σ0 12 9 at z; omega
  · obtain ⟨l1, l2, l3⟩ := hl
    exact ⟨by rw [g 0 27 (by omega)]; exact l1, by rw [g 0 28 (by omega)]; exact l2, by rw [g 0 29 (by omega)]; exact l3⟩
