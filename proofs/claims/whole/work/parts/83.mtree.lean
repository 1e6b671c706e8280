/-! pure: the reference's tree() -/
def MFk (τ τ' : St) (t : Nat) : Prop := (∀ o i, (o = 1 ∨ 17 ≤ o) → τ' o i = τ o i) ∧ (∀ i, i ≠ 3 → i ≠ 4 → i ≠ 7 → i ≠ 10 → (i < 27 ∨ 34 < i) → τ' 0 i = τ 0 i) ∧ ∀ o i, 6 ≤ o → o ≤ 16 → (∀ y, y < 12 → i ≠ 12 * t + y) → τ' o i = τ o i
theorem MFr.k {τ τ' : St} {t : Nat} (h : MFr τ τ' t) : MFk τ τ' t := ⟨fun o i a => h.1 o i (by omega), h.2.1, fun o i a b c => by
  by_cases q : o ≤ 12
  · exact h.2.2 o i a q c
  · exact h.1 o i (by omega)⟩
theorem MFk.trans {τ τ1 τ2 : St} {t : Nat} (h : MFk τ τ1 t) (h' : MFk τ1 τ2 t) : MFk τ τ2 t := ⟨fun o i a => (h'.1 o i a).trans (h.1 o i a), fun i a b c d e => (h'.2.1 i a b c d e).trans (h.2.1 i a b c d e), fun o i a b c => (h'.2.2 o i a b c).trans (h.2.2 o i a b c)⟩
theorem LK.k {τ τ' : St} {t n i : Nat} (h : LK τ τ' t n i) (hn : n ≤ 12) : MFk τ τ' t := ⟨fun o i a => h.1 o i (by omega), fun i a b c d e => h.1 0 i (by omega), fun o i a b c => h.2.1 o i (fun y hy => c y (by omega))⟩
/-- every node comes from the first one -/
theorem itp_root {p : Nat → Int} {n : Nat} (h : Pd p n) (h0 : ∀ x, 0 < x → x < n → p x ≠ -1) : ∀ (m x : Nat), x ≤ m → x < n → ∃ k, itp p k (x : Int) = 0 := by
  intro m
  induction m with
  | zero => intro x a b; exact ⟨0, by show (x : Int) = 0; omega⟩
  | succ m ih =>
    intro x a b
    by_cases q : x = 0
    · exact ⟨0, by show (x : Int) = 0; omega⟩
    · have hp := h x b
      have hz := h0 x (by omega) b
      obtain ⟨k, hk⟩ := ih (p x).toNat (by omega) (by omega)
      refine ⟨k + 1, ?_⟩
      rcases itp_add p (x : Int) (by omega) k 1 with w | w
      · rw [w]
        have e1 : itp p 1 (x : Int) = p x := by
          show (if itp p 0 (x : Int) < 0 then -1 else p (itp p 0 (x : Int)).toNat) = p x
          have : itp p 0 (x : Int) = (x : Int) := rfl
          rw [this, if_neg (by omega), show ((x : Int)).toNat = x by omega]
        rw [e1, show p x = (((p x).toNat : Nat) : Int) by omega]
        exact hk
      · have e1 : itp p 1 (x : Int) = p x := by
          show (if itp p 0 (x : Int) < 0 then -1 else p (itp p 0 (x : Int)).toNat) = p x
          have : itp p 0 (x : Int) = (x : Int) := rfl
          rw [this, if_neg (by omega), show ((x : Int)).toNat = x by omega]
        omega
theorem HW_root {kd p : Nat → Int} {n : Nat} (h : Pd p n) (h0 : ∀ x, 0 < x → x < n → p x ≠ -1) : HF (kwd kd) p n 0 ↔ ∃ x, x < n ∧ kd x = 3 := by
  constructor
  · rintro ⟨k, f, hf, hk, -⟩
    refine ⟨f, hf, ?_⟩
    unfold kwd at hk
    by_cases q : kd f = 3
    · exact q
    · simp [q] at hk
  · rintro ⟨x, hx, hk⟩
    obtain ⟨k, e⟩ := itp_root h h0 x x (Nat.le_refl x) hx
    exact ⟨k, x, hx, by unfold kwd; simp [hk], e⟩
/-- isGood(): what the class's judge says -/
theorem sp_misGood {Q : Int → St → Prop} {σ τ τ' : St} {t n : Nat} (hP : PI σ t n) (hK : PK σ t n) (hn : 0 < n) (hM : MP σ τ t n) (hL : LK τ τ' t n 0)
    (hbad : jC σ t ≠ 0 → Q 0 (su (su τ' 0 3 (jC σ t)) 0 4 (jP σ t))) (hok : jC σ t = 0 → Q 1 τ') : wp_X9_isGood Q τ' := by
  obtain ⟨L1, L2, L3⟩ := hL
  obtain ⟨m1, m2, m3, m4, m5, m6⟩ := hM
  obtain ⟨f0, f1, f2, f3, f4⟩ := m3
  have hn12 := hP.2.2.2.2.2.2.1
  have hrow := hK.2.1 0 hn
  have hk0 := hK.1.2.2.1 0 hn
  simp only [] at hk0
  have h23 : τ' 0 23 = (t : Int) := by rw [L1 0 23 (by omega)]; exact m1.1
  have ht := m1.2.1
  have hls := hP.2.1.2.2.1
  have hws := hP.2.2.1.2.2.1
  have hfe := hP.2.2.2.2.2.2.2.2.2.2.2.2.1
  have nmr : ∀ x, x < n → 0 ≤ nd σ t x 1 ∧ nd σ t x 1 ≤ 100 := fun x hx => by
    have r := hK.2.1 x hx
    by_cases q : nd σ t x 0 = 3
    · have := r.2.2.1 q; omega
    · have := r.2.2.2.1 q; omega
  have r0 : 12 * τ' 0 23 + 0 = ((12 * t : Nat) : Int) := by rw [h23]; omega
  have e6 : τ' 6 (12 * t) = nd σ t 0 0 := by rw [L1 6 _ (by omega)]; exact (m2 0 hn).1
  have e7 : τ' 7 (12 * t) = nd σ t 0 1 := by rw [L1 7 _ (by omega)]; exact (m2 0 hn).2.1
  have kdE : ∀ y, y < n → τ 6 (12 * t + y) = nd σ t y 0 := fun y hy => (m2 y hy).1
  have pE : ∀ y, y < n → τ 8 (12 * t + y) = nd σ t y 2 := fun y hy => (m2 y hy).2.2.1
  have e14 : τ' 14 (12 * t) = bI (∃ x, x < n ∧ nd σ t x 0 = 3) := by
    have := (L3 0 (Nat.zero_le _) hn).2.1
    rw [show 12 * t + 0 = 12 * t by omega] at this
    rw [this]
    apply bI_congr
    rw [HW_root m1.2.2.2.2.2.1 (fun x a b => by
      show τ 8 (12 * t + x) ≠ -1
      rw [pE x b]
      exact hK.1.2.2.2.2.2.2.1 x a b)]
    constructor
    · rintro ⟨x, a, b⟩; exact ⟨x, a, by rw [← kdE x a]; exact b⟩
    · rintro ⟨x, a, b⟩; exact ⟨x, a, by rw [kdE x a]; exact b⟩
  have hib : (0 : Int) ≤ ((12 * t : Nat) : Int) ∧ ((12 * t : Nat) : Int) < 204 := by omega
  have w0 : w32 ((12 * t : Nat) : Int) = ((12 * t : Nat) : Int) := w32_id (by omega) (by omega)
  have flaw : ∀ (c pl : Int), jC σ t = c → c ≠ 0 → jP σ t = pl → wp_X9_flaw c pl (fun r2 σ1 => (r2 = 0 ∨ r2 = 1) ∧ Q r2 σ1) τ' := fun c pl a b d => by
    apply sp_mflaw
    refine ⟨Or.inl rfl, ?_⟩
    have := hbad (by rw [a]; exact b)
    rw [a, d] at this
    exact this
  have b80 : nd σ t 0 0 = 0 → ¬ 1 < σ 12 9 → ¬ (σ 12 9 = 1 ∧ σ 12 11 ≠ nd σ t 0 1) → wp_X9_isGood_B80 ((12 * t : Nat) : Int) Q τ' := by
    intro c1 c2 c3
    have hcase : jC σ t = if σ 12 12 = 0 then 7 else if 16 ≤ t then 8 else 0 := by unfold jC; rw [if_neg (fun z => z c1), if_neg c2, if_neg c3]
    unfold wp_X9_isGood_B80
    rw [w0, show (((12 * t : Nat)) : Int).toNat = 12 * t by omega, e14, w32_bI, h23, w32_id (show -2147483648 ≤ (t : Int) by omega) (by omega)]
    have hwd : σ 12 12 = 1 ↔ ∃ x, x < n ∧ nd σ t x 0 = 3 := ⟨hK.2.2.2.1, fun z => by
      rcases hK.2.2.1 with w | w
      · exact w
      · obtain ⟨x, a, b⟩ := z; exact absurd b (w.2 x a)⟩
    have h12 : σ 12 12 = 0 ∨ σ 12 12 = 1 := by rcases hK.2.2.1 with w | w; exact Or.inr w; exact Or.inl w.1
    refine ⟨hib, fun z => ?_, fun z => ⟨fun y => ?_, fun y => ?_⟩⟩
    · have hz : σ 12 12 = 0 := by
        rcases h12 with w | w
        · exact w
        · rw [bI_t (hwd.mp w)] at z; exact absurd z (by decide)
      rw [if_pos hz] at hcase
      exact flaw 7 0 hcase (by decide) (by unfold jP; rw [hcase]; rfl)
    · unfold wp_X9_isGood_B108
      have hz : σ 12 12 ≠ 0 := fun w => z (bI_f (fun v => by have := hwd.mpr v; omega))
      rw [if_neg hz, if_neg (by omega)] at hcase
      exact hok hcase
    · have hz : σ 12 12 ≠ 0 := fun w => z (bI_f (fun v => by have := hwd.mpr v; omega))
      rw [if_neg hz, if_pos (by omega)] at hcase
      apply sp_mflaw
      refine ⟨fun _ => ?_, fun w => absurd w32_0 w⟩
      have := hbad (by rw [hcase]; decide)
      rw [hcase, show jP σ t = 0 by unfold jP; rw [hcase]; rfl] at this
      exact this
  unfold wp_X9_isGood wp_X9_here
  simp only []
  rw [r0, w0, show (((12 * t : Nat)) : Int).toNat = 12 * t by omega, e6, w32_id (show -2147483648 ≤ nd σ t 0 0 by omega) (by omega), L1 0 34 (by omega), L1 0 32 (by omega), w32_id (show -2147483648 ≤ τ 0 34 by omega) (by omega), w32_id (show -2147483648 ≤ τ 0 32 by omega) (by omega)]
  refine ⟨hib, fun c1 => ⟨fun c2 => ⟨fun c3 => ?_, fun c3 => ?_⟩, fun c2 => ?_⟩, fun c1 => ?_⟩
  · have z1 : σ 12 9 ≠ 1 := fun z => absurd c3 (f1 z).1
    refine b80 c1 (fun z => ?_) (fun z => z1 z.1)
    exact absurd c3 (f2 (by omega)).1
  · have z0 : σ 12 9 = 1 := by
      by_cases a : σ 12 9 = 0
      · exact absurd (f0 a).1 c3
      · by_cases b : σ 12 9 = 1
        · exact b
        · have := f2 (by omega); omega
    obtain ⟨g1, g2, g3, g4⟩ := f1 z0
    obtain ⟨f, k1, k2, k3, k4⟩ := hK.2.2.2.2.2.2 z0
    have hf : (τ 0 32).toNat = f := k4 _ (by omega) g2
    obtain ⟨hh, hhn⟩ := hereN (τ := τ') (x := τ 0 32) h23 ht (by omega)
    rw [hhn, hf, L1 7 _ (by omega), (m2 f k1).2.1, e7, k3]
    have hr11 := nmr f k1
    rw [k3] at hr11
    have hr01 := nmr 0 hn
    rw [w32_id (show -2147483648 ≤ σ 12 11 by omega) (by omega), w32_id (show -2147483648 ≤ nd σ t 0 1 by omega) (by omega)]
    refine ⟨hh, hib, fun z => b80 c1 (by omega) (fun w => w.2 z), fun z => ?_⟩
    rw [L1 0 33 (by omega), g3]
    have hcase : jC σ t = 6 := by unfold jC; rw [if_neg (fun w => w c1), if_neg (by omega), if_pos ⟨z0, z⟩]
    exact flaw 6 _ hcase (by decide) (by unfold jP; rw [hcase]; rfl)
  · have z2 : 2 ≤ σ 12 9 := by
      by_cases a : σ 12 9 = 0
      · have := (f0 a).2; omega
      · by_cases b : σ 12 9 = 1
        · have := (f1 b).2.2.2; omega
        · omega
    have hcase : jC σ t = 5 := by unfold jC; rw [if_neg (fun w => w c1), if_pos (by omega)]
    rw [(f2 z2).2.1]
    exact flaw 5 _ hcase (by decide) (by unfold jP; rw [hcase]; rfl)
  · have hcase : jC σ t = 4 := by unfold jC; rw [if_pos c1]
    exact flaw 4 _ hcase (by decide) (by unfold jP; rw [hcase]; rfl)
noncomputable def mBad (τ τ' : St) : St := su (su (su τ' 0 2 0) 0 7 (τ 0 7)) 0 10 (τ 0 10)
noncomputable def mOk (τ' : St) (t n : Nat) : St := su (su (su (su (su (su (su τ' 0 2 0) 17 t (n : Int)) 0 23 ((t + 1 : Nat) : Int)) 0 35 0) 0 36 (-1)) 0 42 0) 0 50 0
theorem sp_mtree {Q : Int → St → Prop} {σ0 τ : St} {t : Nat} (hC : SC σ0 (su τ 0 0 0) t) (h4 : σ0 12 4 = 0) (h5 : σ0 12 5 = -1) (h9 : σ0 12 9 = 0) (h23 : τ 0 23 = (t : Int)) (hRN : RNs σ0 τ) (hMn : Mnm τ)
    (hF : ∀ j τ', chn σ0 j → ¬ cdone (cN σ0 j) → ctC (cN σ0 j) ≠ 0 → τ' 0 3 = ctC (cN σ0 j) → RNs (cN σ0 j) τ' → Mnm τ' → MFk (su τ 0 0 0) τ' t → Q (-1 - ((Sc (cN σ0 j) : Nat) : Int)) (mBad τ τ'))
    (hJ : ∀ j τ', chn σ0 j → cdone (cN σ0 j) → jC (ld (cN σ0 j)) t ≠ 0 → τ' 0 3 = jC (ld (cN σ0 j)) t → RNs (cN σ0 j) τ' → Mnm τ' → MFk (su τ 0 0 0) τ' t → Q (-1 - jP (ld (cN σ0 j)) t) (mBad τ τ'))
    (hO : ∀ j n τ1 τ', chn σ0 j → cdone (cN σ0 j) → jC (ld (cN σ0 j)) t = 0 → t < 16 → PI (cN σ0 j) t n → MP (cN σ0 j) τ1 t n → LK τ1 τ' t n 0 → τ1 0 3 = 0 → MFk (su τ 0 0 0) τ' t → Q (t : Int) (mOk τ' t n)) : wp_X9_tree Q τ := by
  have hI := hC.1
  unfold wp_X9_tree
  intro σ1 e1 x2 ex2 x3 ex3
  rw [e1, su_ko _ _ (by omega)] at ex2 ex3
  rw [e1]
  have g0 : ∀ o i, ¬ (o = 0 ∧ i = 0) → su τ 0 0 0 o i = τ o i := fun o i z => su_ko _ _ z
  have bad : ∀ (τ' : St) (pl : Int), τ' 0 4 = pl → Q (-1 - pl) (mBad τ τ') → wp_X9_tree_B48 x2 x3 0 Q τ' := by
    intro τ' pl h4 hq
    unfold wp_X9_tree_B48
    intro a1 f1
    refine ⟨fun z => absurd w32_0 z, fun _ a5 f5 a6 f6 => ?_⟩
    have : a6 = mBad τ τ' := by unfold mBad; rw [f6, f5, f1, ex2, ex3]
    rw [this, show mBad τ τ' 0 4 = pl by unfold mBad; rw [su_ko _ _ (by omega), su_ko _ _ (by omega), su_ko _ _ (by omega)]; exact h4]
    exact hq
  have b33 : ∀ (τ' : St) (pl : Int), τ' 0 4 = pl → Q (-1 - pl) (mBad τ τ') → wp_X9_tree_B33 x2 x3 Q τ' := by
    intro τ' pl h4 hq
    unfold wp_X9_tree_B33 wp_X9_tree_B34
    exact ⟨fun _ => bad τ' pl h4 hq, fun z => absurd w32_0 z⟩
  have hRc : RNs σ0 (su τ 0 0 0) := RNs_nw hRN (fun _ _ _ _ => rfl) (fun o k z => g0 o k (by omega))
  have hMc : Mnm (su τ 0 0 0) := Mnm_nw hMn (fun o k z => g0 o k (by omega))
  refine sp_mstarts (b := bM (su τ 0 0 0)) (len := mlen (su τ 0 0 0)) hI rfl rfl (fun hk τ' g a3 a4 => ?_) (fun hk τ' g l a3 a4 => ?_)
  · refine ⟨fun _ => ?_, fun z => absurd w32_0 z⟩
    obtain ⟨c1, c2, c3, c4, c5, c6, c7⟩ := hC
    obtain ⟨v1, v2, v3, v4, v5, v6⟩ := ct_val (j := 0) c3 c4 c5 c6
    rw [hk] at v1
    have hc := ctC_1 v1
    refine b33 τ' _ a4 ?_
    rw [← v2]
    exact hF 0 τ' (fun i hi => by omega) (fun z => by have := z.1; rw [v1] at this; exact absurd this (by decide)) (by rw [hc]; decide) (by rw [hc]; exact a3) (RNs_nw hRc (fun _ _ _ _ => rfl) (fun o k z => g o k (by omega))) (Mnm_nw hMc (fun o k z => g o k (by omega))) (MFr_0 (fun o i z => g o i (by omega))).k
  · refine ⟨fun z => absurd z (by decide), fun _ => ?_⟩
    refine sp_mreadTree hC ?_ ?_ h4 h5 h9 (by rw [g0 0 23 (by omega)]; exact h23) hRc hMc g a3 l hk
    · intro j τ2 hch hnd hz r3 r4 rn mn fr
      refine ⟨fun _ => b33 τ2 _ r4 (hF j τ2 hch hnd hz r3 rn mn fr.k), fun z => absurd w32_0 z⟩
    · intro j n τ2 hS hd
      refine ⟨fun z => absurd z (by decide), fun _ => ?_⟩
      obtain ⟨hch, hP, hPK, hMP, hF2, hl, hK, h03⟩ := hS
      have hn : 0 < n := (hPK.1.2.2.2.2.2.2.2.2.1 hd.2).1
      have lo : ∀ o i, o ≠ 1 → ld (cN σ0 j) o i = cN σ0 j o i := fun o i q => ld_o _ q
      have hPl : PI (ld (cN σ0 j)) t n := PI_tf hP (Tf_tk _ _)
      have hKl : PK (ld (cN σ0 j)) t n := PK_tf hPK (fun o k h1 _ => lo o k h1)
      have hMl : MP (ld (cN σ0 j)) τ2 t n := MP_sm hMP (fun o k a b => lo o k a)
      have hn12 := hP.2.2.2.2.2.2.1
      unfold wp_X9_tree_B34
      refine ⟨fun z => absurd z (by decide), fun _ => ?_⟩
      refine sp_mlook hMP.1 (fun y hy => by rw [(hMP.2.1 y hy).1]; exact hPK.1.2.2.1 y hy) (fun τ3 hL => ?_)
      have q3 : ∀ o k, ¬ (13 ≤ o ∧ o ≤ 16) → τ3 o k = τ2 o k := hL.1
      have fr3 : MFk (su τ 0 0 0) τ3 t := hF2.k.trans (hL.k hn12)
      refine sp_misGood hPl hKl hn hMl hL (fun hj => ?_) (fun hj => ?_)
      · refine bad _ (jP (ld (cN σ0 j)) t) (by rw [su_at]) ?_
        have hs : ∀ o i, ¬ (o = 0 ∧ (i = 3 ∨ i = 4)) → su (su τ3 0 3 (jC (ld (cN σ0 j)) t)) 0 4 (jP (ld (cN σ0 j)) t) o i = τ3 o i := fun o i z => by rw [su_ko _ _ (by omega), su_ko _ _ (by omega)]
        refine hJ j _ hch hd hj (by rw [su_ko _ _ (by omega), su_at]) (RNs_nw hMP.2.2.2.1 (fun _ _ _ _ => rfl) (fun o k z => by rw [hs o k (by omega), q3 o k (by omega)])) (Mnm_nw hMP.2.2.2.2.1 (fun o k z => by rw [hs o k (by omega), q3 o k (by omega)])) (fr3.trans (MFr_0 (fun o i z => hs o i (by omega))).k)
      · have ht16 : t < 16 := by
          rcases Nat.lt_or_ge t 16 with z | z
          · exact z
          · exfalso
            unfold jC at hj
            revert hj
            repeat' split
            all_goals omega
        have e23 : τ3 0 23 = (t : Int) := by rw [q3 0 23 (by omega)]; exact hMP.1.1
        have e30 : τ3 0 30 = (n : Int) := by rw [q3 0 30 (by omega)]; exact hMP.1.2.2.1
        unfold wp_X9_tree_B48
        intro a1 f1
        have f23 : a1 0 23 = (t : Int) := by rw [f1, su_ko _ _ (by omega)]; exact e23
        have f30 : a1 0 30 = (n : Int) := by rw [f1, su_ko _ _ (by omega)]; exact e30
        rw [f23, f30, w32_id (show -2147483648 ≤ (t : Int) by omega) (by omega), show ((t : Int)).toNat = t by omega]
        refine ⟨fun _ => ⟨by omega, fun a2 f2 a3 f3 => ?_⟩, fun z => absurd z (by decide)⟩
        have f23' : a2 0 23 = (t : Int) := by rw [f2, su_ko _ _ (by omega)]; exact f23
        unfold wp_X9_forget
        intro b1 k1 b2 k2 b3 k3 b4 k4
        have : b4 = mOk τ3 t n := by unfold mOk; rw [k4, k3, k2, k1, f3, f23', f2, f1, show (t : Int) + 1 = ((t + 1 : Nat) : Int) by omega]
        rw [this, show mOk τ3 t n 0 23 = ((t + 1 : Nat) : Int) by unfold mOk; rw [su_ko _ _ (by omega), su_ko _ _ (by omega), su_ko _ _ (by omega), su_ko _ _ (by omega), su_at], show ((t + 1 : Nat) : Int) - 1 = (t : Int) by omega]
        exact hO j n τ2 τ3 hch hd hj ht16 hP hMP hL h03 fr3
