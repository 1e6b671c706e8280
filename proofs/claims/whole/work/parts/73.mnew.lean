/-! pure: the reference takes a node more (wip/whole/mk73.py) -/
theorem sp_mnewlabel {Q : Int → St → Prop} {σ τ : St} {t n s e : Nat} (hM : MN τ t n) (h0 : τ 0 31 = -1 → n = 0) (hN : NmI σ 4 8 16) (hR : RNm σ τ 4 8 7 3 2) (hlf : ∀ k, 0 ≤ τ 3 k ∧ τ 3 k ≤ 8) (hT : Rw (τ 2)) (h1 : Rw (τ 1)) (hs : τ 0 28 = (s : Int)) (he : τ 0 29 = (e : Int)) (htk : τ 0 27 = 1) (hse : s ≤ e) (he1 : e ≤ 1000) (hes : e - s ≤ 8) (hb : ∀ x, x < e - s → σ 2 (s + x) = τ 1 (s + x))
    (hbad : (n = 12 ∨ tnR σ 4 8 16 s e = -1) → Q 0 (su (su τ 0 3 3) 0 4 (s : Int)))
    (hok : n < 12 → tnR σ 4 8 16 s e ≠ -1 → ∀ τ1 τ', (∀ o k, o ≠ 2 → o ≠ 3 → ¬ (o = 0 ∧ k = 7) → τ1 o k = τ o k) → RNm (tnS σ 4 8 16 s e) τ1 4 8 7 3 2 → (∀ k, 0 ≤ τ1 3 k ∧ τ1 3 k ≤ 8) → Rw (τ1 2) → NwN τ1 τ' t n 0 (tnR σ 4 8 16 s e) → Q 1 τ') : wp_X9_newNode Q τ := by
  have hM0 := hM
  obtain ⟨h23, ht, h30, hn12, h31, hpd, hl⟩ := hM
  have c0 := hN.2.1
  have c1 := hN.2.2.1
  obtain ⟨cnt, hcnt⟩ : ∃ c : Nat, σ 4 3 = (c : Int) := ⟨(σ 4 3).toNat, by omega⟩
  have hcF : τ 0 7 = (cnt : Int) := by rw [← hR.1, hcnt]
  have hfd := RN_find (s := s) (e := e) hR hN hb
  rw [hcF, show ((cnt : Int)).toNat = cnt by omega] at hfd
  have hfr := fdN_r (s := s) (e := e) hN
  have flaw : (n = 12 ∨ tnR σ 4 8 16 s e = -1) → wp_X9_flaw 3 (τ 0 28) (fun r2 σ1 => (r2 = 0 ∨ r2 = 1) ∧ Q r2 σ1) τ := by
    intro q
    apply sp_mflaw
    rw [hs]
    exact ⟨Or.inl rfl, hbad q⟩
  unfold wp_X9_newNode
  rw [h30, w32_id (show -2147483648 ≤ (n : Int) by omega) (by omega), htk]
  refine ⟨fun hn => ⟨fun _ => ?_, fun z => absurd z (by decide)⟩, fun q => flaw (Or.inl (by omega))⟩
  unfold wp_X9_newNode_B32
  refine ⟨fun _ => ?_, fun z => absurd w32_0 z⟩
  refine sp_mlabel hs he hse he1 hcF (by omega) hlf hT.by h1.by ?_
  rw [← hfd]
  unfold wp_X9_newNode_B48
  have same : fdN σ 4 8 s e ≠ -1 → wp_X9_newNode_B239 0 (fdN σ 4 8 s e) Q τ := by
    intro q
    have e1 : tnR σ 4 8 16 s e = fdN σ 4 8 s e := by unfold tnR; rw [if_pos q]
    have e2 : tnS σ 4 8 16 s e = σ := by unfold tnS; rw [if_pos q]
    refine sp_mrow hM0 (by omega) (by decide) h0 (fun τ' hw => ?_)
    exact hok (by omega) (by rw [e1]; exact q) τ τ' (fun _ _ _ _ _ => rfl) (by rw [e2]; exact hR) hlf hT (by rw [e1]; exact hw)
  rw [w32_id (show -2147483648 ≤ fdN σ 4 8 s e by omega) (by omega), hcF, w32_id (show -2147483648 ≤ (cnt : Int) by omega) (by omega)]
  unfold wp_X9_newNode_B79 wp_X9_newNode_B89
  rw [w32_id (show -2147483648 ≤ fdN σ 4 8 s e by omega) (by omega)]
  refine ⟨fun q => ⟨fun _ => same q, fun z => absurd z q⟩, fun q => ⟨fun _ => ⟨fun z => ?_, fun z => ?_⟩, fun z => absurd w32_0 z⟩⟩
  · -- a new one
    refine ⟨fun w => absurd q w, fun _ => ⟨fun _ => ?_, fun w => absurd w32_0 w⟩⟩
    rw [hcF]
    have e1 : tnR σ 4 8 16 s e = (cnt : Int) := by unfold tnR; rw [if_neg (fun w => w q), if_neg (by rw [hcnt]; exact z), hcnt]
    have e2 : tnS σ 4 8 16 s e = addN σ 4 2 8 s e := by unfold tnS; rw [if_neg (fun w => w q), if_neg (by rw [hcnt]; exact z)]
    refine sp_mAddlabel hs he hse he1 hes hcF (by omega) h1 (fun τ1 hA => ?_)
    obtain ⟨a0, a1, a2, a3, a4, a5, a6⟩ := hA
    have g : ∀ o k, o ≠ 2 → o ≠ 3 → ¬ (o = 0 ∧ k = 7) → τ1 o k = τ o k := a0
    have hM1 : MN τ1 t n := by
      refine ⟨by rw [g 0 23 (by omega) (by omega) (by omega)]; exact h23, ht, by rw [g 0 30 (by omega) (by omega) (by omega)]; exact h30, hn12, by rw [g 0 31 (by omega) (by omega) (by omega)]; exact h31, fun y hy => ?_, fun y hy => ?_⟩
      · simp only []; rw [g 8 _ (by omega) (by omega) (by omega)]; exact hpd y hy
      · have e8 : (fun y => τ1 8 (12 * t + y)) = fun y => τ 8 (12 * t + y) := funext fun y => g 8 _ (by omega) (by omega) (by omega)
        rw [e8, g 11 _ (by omega) (by omega) (by omega), g 12 _ (by omega) (by omega) (by omega)]
        exact hl y hy
    refine sp_mrow hM1 (by omega) (by decide) (by rw [g 0 31 (by omega) (by omega) (by omega)]; exact h0) (fun τ' hw => ?_)
    refine hok (by omega) (by rw [e1]; omega) τ1 τ' g (by rw [e2]; exact RN_add hR hN hcnt (by omega) hb hes a1 a2 a3 a4 a5) (fun k => ?_) (fun i => ?_) (by rw [e1]; exact hw)
    · by_cases ek : k = cnt
      · rw [ek, a3]; omega
      · rw [a2 k ek]; exact hlf k
    · rcases a6 i with w | ⟨j, w⟩
      · rw [w]; exact hT i
      · rw [w]; exact h1 j
  · refine flaw (Or.inr ?_)
    unfold tnR
    rw [if_neg (fun w => w q), if_pos (by rw [hcnt]; exact z)]
theorem sp_mnewword {Q : Int → St → Prop} {σ τ : St} {t n s e : Nat} (hM : MN τ t n) (h0 : τ 0 31 = -1 → n = 0) (hN : NmI σ 7 12 32) (hR : RNm σ τ 7 12 10 5 4) (hlf : ∀ k, 0 ≤ τ 5 k ∧ τ 5 k ≤ 12) (hT : Rw (τ 4)) (h1 : Rw (τ 1)) (hs : τ 0 28 = (s : Int)) (he : τ 0 29 = (e : Int)) (htk : τ 0 27 = 2) (hse : s ≤ e) (he1 : e ≤ 1000) (hes : e - s ≤ 12) (hb : ∀ x, x < e - s → σ 2 (s + x) = τ 1 (s + x))
    (hbad : (n = 12 ∨ tnR σ 7 12 32 s e = -1) → Q 0 (su (su τ 0 3 3) 0 4 (s : Int)))
    (hok : n < 12 → tnR σ 7 12 32 s e ≠ -1 → ∀ τ1 τ', (∀ o k, o ≠ 4 → o ≠ 5 → ¬ (o = 0 ∧ k = 10) → τ1 o k = τ o k) → RNm (tnS σ 7 12 32 s e) τ1 7 12 10 5 4 → (∀ k, 0 ≤ τ1 5 k ∧ τ1 5 k ≤ 12) → Rw (τ1 4) → NwN τ1 τ' t n 3 (tnR σ 7 12 32 s e) → Q 1 τ') : wp_X9_newNode Q τ := by
  have hM0 := hM
  obtain ⟨h23, ht, h30, hn12, h31, hpd, hl⟩ := hM
  have c0 := hN.2.1
  have c1 := hN.2.2.1
  obtain ⟨cnt, hcnt⟩ : ∃ c : Nat, σ 7 3 = (c : Int) := ⟨(σ 7 3).toNat, by omega⟩
  have hcF : τ 0 10 = (cnt : Int) := by rw [← hR.1, hcnt]
  have hfd := RN_find (s := s) (e := e) hR hN hb
  rw [hcF, show ((cnt : Int)).toNat = cnt by omega] at hfd
  have hfr := fdN_r (s := s) (e := e) hN
  have flaw : (n = 12 ∨ tnR σ 7 12 32 s e = -1) → wp_X9_flaw 3 (τ 0 28) (fun r2 σ1 => (r2 = 0 ∨ r2 = 1) ∧ Q r2 σ1) τ := by
    intro q
    apply sp_mflaw
    rw [hs]
    exact ⟨Or.inl rfl, hbad q⟩
  unfold wp_X9_newNode
  rw [h30, w32_id (show -2147483648 ≤ (n : Int) by omega) (by omega), htk]
  refine ⟨fun hn => ⟨fun z => absurd (by decide) z, fun _ => ?_⟩, fun q => flaw (Or.inl (by omega))⟩
  unfold wp_X9_newNode_B32
  refine ⟨fun z => absurd z (by decide), fun _ => ?_⟩
  refine sp_mword hs he hse he1 hcF (by omega) hlf hT.by h1.by ?_
  rw [← hfd]
  unfold wp_X9_newNode_B48
  have same : fdN σ 7 12 s e ≠ -1 → wp_X9_newNode_B239 1 (fdN σ 7 12 s e) Q τ := by
    intro q
    have e1 : tnR σ 7 12 32 s e = fdN σ 7 12 s e := by unfold tnR; rw [if_pos q]
    have e2 : tnS σ 7 12 32 s e = σ := by unfold tnS; rw [if_pos q]
    refine sp_mrow hM0 (by omega) (by decide) h0 (fun τ' hw => ?_)
    exact hok (by omega) (by rw [e1]; exact q) τ τ' (fun _ _ _ _ _ => rfl) (by rw [e2]; exact hR) hlf hT (by rw [e1]; exact hw)
  rw [w32_id (show -2147483648 ≤ fdN σ 7 12 s e by omega) (by omega), hcF, w32_id (show -2147483648 ≤ (cnt : Int) by omega) (by omega)]
  unfold wp_X9_newNode_B79 wp_X9_newNode_B89
  rw [w32_id (show -2147483648 ≤ fdN σ 7 12 s e by omega) (by omega)]
  refine ⟨fun q => ⟨fun _ => same q, fun z => absurd z q⟩, fun q => ⟨fun z => absurd z (by decide), fun _ => ⟨fun z => ?_, fun z => ?_⟩⟩⟩
  · -- a new one
    refine ⟨fun w => absurd q w, fun _ => ⟨fun w => absurd w (by decide), fun _ => ?_⟩⟩
    rw [hcF]
    have e1 : tnR σ 7 12 32 s e = (cnt : Int) := by unfold tnR; rw [if_neg (fun w => w q), if_neg (by rw [hcnt]; exact z), hcnt]
    have e2 : tnS σ 7 12 32 s e = addN σ 7 2 12 s e := by unfold tnS; rw [if_neg (fun w => w q), if_neg (by rw [hcnt]; exact z)]
    refine sp_mAddword hs he hse he1 hes hcF (by omega) h1 (fun τ1 hA => ?_)
    obtain ⟨a0, a1, a2, a3, a4, a5, a6⟩ := hA
    have g : ∀ o k, o ≠ 4 → o ≠ 5 → ¬ (o = 0 ∧ k = 10) → τ1 o k = τ o k := a0
    have hM1 : MN τ1 t n := by
      refine ⟨by rw [g 0 23 (by omega) (by omega) (by omega)]; exact h23, ht, by rw [g 0 30 (by omega) (by omega) (by omega)]; exact h30, hn12, by rw [g 0 31 (by omega) (by omega) (by omega)]; exact h31, fun y hy => ?_, fun y hy => ?_⟩
      · simp only []; rw [g 8 _ (by omega) (by omega) (by omega)]; exact hpd y hy
      · have e8 : (fun y => τ1 8 (12 * t + y)) = fun y => τ 8 (12 * t + y) := funext fun y => g 8 _ (by omega) (by omega) (by omega)
        rw [e8, g 11 _ (by omega) (by omega) (by omega), g 12 _ (by omega) (by omega) (by omega)]
        exact hl y hy
    refine sp_mrow hM1 (by omega) (by decide) (by rw [g 0 31 (by omega) (by omega) (by omega)]; exact h0) (fun τ' hw => ?_)
    refine hok (by omega) (by rw [e1]; omega) τ1 τ' g (by rw [e2]; exact RN_add hR hN hcnt (by omega) hb hes a1 a2 a3 a4 a5) (fun k => ?_) (fun i => ?_) (by rw [e1]; exact hw)
    · by_cases ek : k = cnt
      · rw [ek, a3]; omega
      · rw [a2 k ek]; exact hlf k
    · rcases a6 i with w | ⟨j, w⟩
      · rw [w]; exact hT i
      · rw [w]; exact h1 j
  · refine flaw (Or.inr ?_)
    unfold tnR
    rw [if_neg (fun w => w q), if_pos (by rw [hcnt]; exact z)]
