def SnM (τ' : St) (b : Nat → Int) (len j : Nat) : Prop := ∀ i, i < j → τ' 19 i = ((tkE b len (pN b len i) - tkS b len (pN b len i) : Nat) : Int) ∧ ∀ x, x < tkE b len (pN b len i) - tkS b len (pN b len i) → τ' 18 (12 * i + x) = b (tkS b len (pN b len i) + x)
theorem sEnd_of {b : Nat → Int} {len j : Nat} (hj : j ≤ 8) (hw : ∀ i, i < j → tkK b len (pN b len i) = 3) (hn : tkK b len (pN b len j) ≠ 3) : sEnd b len = j := by
  obtain ⟨h1, h2, h3, h4⟩ := sJ_spec b len 9 0
  unfold sEnd
  rcases Nat.lt_trichotomy (sJ b len 9 0) j with h | h | h
  · exact absurd (hw _ h) (h4 (by omega))
  · exact h
  · exact absurd (h3 j (by omega) h) hn
theorem sEnd_9 {b : Nat → Int} {len : Nat} (hw : ∀ i, i < 9 → tkK b len (pN b len i) = 3) : sEnd b len = 9 := by
  obtain ⟨h1, h2, h3, h4⟩ := sJ_spec b len 9 0
  unfold sEnd
  rcases Nat.lt_or_ge (sJ b len 9 0) 9 with h | h
  · exact absurd (hw _ h) (h4 (by omega))
  · omega
/-- the copying of one word -/
theorem sp_mcopy {K99 : Int → St → Prop} {Q : Int → St → Prop} {τ : St} {s e i : Nat} (hs : τ 0 28 = (s : Int)) (he : τ 0 29 = (e : Int)) (hse : s ≤ e) (he1 : e ≤ 1000) (hes : e - s ≤ 12) (hi : i ≤ 8) (hc : τ 0 26 = (i : Int)) (hR : Rw (τ 1))
    (h : ∀ τ', (∀ o k, ¬ (o = 18) → ¬ (o = 0 ∧ k = 26) → τ' o k = τ o k) → τ' 0 26 = ((i + 1 : Nat) : Int) → (∀ x, x < e - s → τ' 18 (12 * i + x) = τ 1 (s + x)) → (∀ y, y < 12 * i → τ' 18 y = τ 18 y) → wp_X9_next (fun r3 σ2 => K99 r3 σ2) τ') : ∃ nn, wp_X9_sentence_L126 K99 Q nn 0 τ := by
  have key : ∀ (m x : Nat) (τ1 : St), x ≤ e - s → e - s - x = m → (∀ o k, ¬ (o = 18) → τ1 o k = τ o k) → (∀ y, y < x → τ1 18 (12 * i + y) = τ 1 (s + y)) → (∀ y, y < 12 * i → τ1 18 y = τ 18 y) → wp_X9_sentence_L126 K99 Q (m + 1) (x : Int) τ1 := by
    intro m
    induction m with
    | zero =>
      intro x τ1 hx hm hf h1 h2
      have f29 := (hf 0 29 (by omega)).trans he
      have f28 := (hf 0 28 (by omega)).trans hs
      have f26 := (hf 0 26 (by omega)).trans hc
      unfold wp_X9_sentence_L126
      rw [f29, f28, show (e : Int) - (s : Int) = ((e - s : Nat) : Int) by omega, f26]
      simp (disch := omega) only [w32_id]
      refine ⟨fun _ τ2 e2 => ?_, fun q => by omega⟩
      refine h τ2 (fun o k a b => by rw [e2, su_ko _ _ (by omega)]; exact hf o k a) (by rw [e2, su_at]; omega) (fun y hy => by rw [e2, su_ko _ _ (by omega)]; exact h1 y (by omega)) (fun y hy => by rw [e2, su_ko _ _ (by omega)]; exact h2 y hy)
    | succ m ih =>
      intro x τ1 hx hm hf h1 h2
      have f29 := (hf 0 29 (by omega)).trans he
      have f28 := (hf 0 28 (by omega)).trans hs
      have f26 := (hf 0 26 (by omega)).trans hc
      unfold wp_X9_sentence_L126
      rw [f29, f28, f26, show (e : Int) - (s : Int) = ((e - s : Nat) : Int) by omega, show (s : Int) + (x : Int) = ((s + x : Nat) : Int) by omega, show 12 * (i : Int) + (x : Int) = ((12 * i + x : Nat) : Int) by omega]
      simp (disch := omega) only [w32_id]
      refine ⟨fun q => by omega, fun _ => ⟨by omega, by omega, fun τ4 e4 x5 e5 => ?_⟩⟩
      rw [show (((s + x : Nat)) : Int).toNat = s + x by omega, show (((12 * i + x : Nat)) : Int).toNat = 12 * i + x by omega, hf 1 _ (by omega), yNar_id (hR _)] at e4
      rw [show x5 = ((x + 1 : Nat) : Int) by rw [e5]; omega]
      refine ih (x + 1) τ4 (by omega) (by omega) (fun o k a => by rw [e4, su_ko _ _ (by omega)]; exact hf o k a) (fun y hy => ?_) (fun y hy => by rw [e4, su_ko _ _ (by omega)]; exact h2 y hy)
      by_cases e6 : y = x
      · rw [e6, e4, su_at]
      · rw [e4, su_ko _ _ (by omega)]; exact h1 y (by omega)
  exact ⟨_, key _ 0 τ (by omega) rfl (fun _ _ _ => rfl) (fun y hy => by omega) (fun _ _ => rfl)⟩
theorem mTk_3 {b : Nat → Int} {len p : Nat} (h : tkK b len p = 3) : mTk b len p = 2 := by
  rcases mTk_k (b := b) (len := len) (p := p) (by rw [h]; decide) with q | q | q | q
  · exact absurd (h.symm.trans q.1) (by decide)
  · exact absurd (h.symm.trans q.1) (by decide)
  · exact q.2
  · exact absurd (h.symm.trans q.1) (by decide)
theorem mTk_0 {b : Nat → Int} {len p : Nat} (h : tkK b len p = 0) : mTk b len p = 0 := by
  rcases mTk_k (b := b) (len := len) (p := p) (by rw [h]; decide) with q | q | q | q
  · exact q.2
  · exact absurd (h.symm.trans q.1) (by decide)
  · exact absurd (h.symm.trans q.1) (by decide)
  · exact absurd (h.symm.trans q.1) (by decide)
/-- the second reading: the words are taken -/
theorem sp_mtake {Q : Int → St → Prop} {b : Nat → Int} {len j : Nat} {τ : St} (hI : TmI τ) (hb : bM τ = b) (hl : mlen τ = len) (hR : Rw (τ 1)) (hj8 : j ≤ 8) (hw : ∀ i, i < j → tkK b len (pN b len i) = 3) (hend : tkK b len (pN b len j) = 0)
    (h : ∀ τ', (∀ o k, o ≠ 18 → o ≠ 19 → ¬ (o = 0 ∧ (k = 2 ∨ k = 3 ∨ k = 4 ∨ k = 26 ∨ k = 27 ∨ k = 28 ∨ k = 29 ∨ k = 35 ∨ k = 36 ∨ k = 42 ∨ k = 50)) → τ' o k = τ o k) → τ' 0 2 = 0 → τ' 0 3 = 0 → τ' 0 26 = (j : Int) → τ' 0 35 = 0 → τ' 0 36 = -1 → τ' 0 42 = 0 → τ' 0 50 = 0 → SnM τ' b len j → Q (j : Int) τ') : wp_X9_sentence_B85 1 Q τ := by
  have hl1000 := (mlen_eq hI).2
  unfold wp_X9_sentence_B85
  refine ⟨fun q => absurd q (by decide), fun _ τ2 e2 => ?_⟩
  have main : ∀ (m i : Nat) (τ3 : St), i ≤ j → j - i = m → (∀ o k, o ≠ 18 → o ≠ 19 → ¬ (o = 0 ∧ (k = 3 ∨ k = 4 ∨ k = 26 ∨ k = 27 ∨ k = 28 ∨ k = 29)) → τ3 o k = τ o k) → Ld b len τ3 i → τ3 0 3 = 0 → τ3 0 26 = (i : Int) → SnM τ3 b len i → wp_X9_sentence_L99 Q (m + 1) 1 τ3 := by
    intro m
    induction m with
    | zero =>
      intro i τ3 hi hm hf3 hL h03 h26 hS
      have hij : i = j := by omega
      subst hij
      unfold wp_X9_sentence_L99
      rw [hL.1, mTk_0 hend]
      refine ⟨fun _ => ?_, fun q => absurd w32_0 q⟩
      unfold wp_X9_forget wp_X9_sentence_B192
      intro a1 f1 a2 f2 a3 f3 a4 f4 a5 f5
      refine ⟨fun q => absurd q (by decide), fun _ => ?_⟩
      have fr : ∀ o k, ¬ (o = 0 ∧ (k = 2 ∨ k = 35 ∨ k = 36 ∨ k = 42 ∨ k = 50)) → a5 o k = τ3 o k := fun o k q => by rw [f5, su_ko _ _ (by omega), f4, su_ko _ _ (by omega), f3, su_ko _ _ (by omega), f2, su_ko _ _ (by omega), f1, su_ko _ _ (by omega)]
      rw [fr 0 26 (by omega), h26]
      refine h a5 (fun o k a b c => ?_) ?_ ?_ ?_ ?_ ?_ ?_ ?_ ?_
      · rw [fr o k (by omega)]; exact hf3 o k a b (by omega)
      · rw [f5, su_at]
      · rw [fr 0 3 (by omega), h03]
      · rw [fr 0 26 (by omega), h26]
      · rw [f5, su_ko _ _ (by omega), f4, su_ko _ _ (by omega), f3, su_ko _ _ (by omega), f2, su_ko _ _ (by omega), f1, su_at]
      · rw [f5, su_ko _ _ (by omega), f4, su_ko _ _ (by omega), f3, su_ko _ _ (by omega), f2, su_at]
      · rw [f5, su_ko _ _ (by omega), f4, su_ko _ _ (by omega), f3, su_at]
      · rw [f5, su_ko _ _ (by omega), f4, su_at]
      · intro i' hi'
        exact ⟨by rw [fr 19 i' (by omega)]; exact (hS i' hi').1, fun x hx => by rw [fr 18 _ (by omega)]; exact (hS i' hi').2 x hx⟩
    | succ m ih =>
      intro i τ3 hi hm hf3 hL h03 h26 hS
      have hk := hw i (by omega)
      obtain ⟨w1, w2, w3, w4⟩ := tkE_w hk
      have w5 := tkE_ge b len (pN b len i)
      have w6 := tkE_le b (pN_le b len i)
      unfold wp_X9_sentence_L99
      rw [hL.1, mTk_3 hk, h26]
      simp (disch := omega) only [w32_id]
      refine ⟨fun q => by omega, fun _ => ⟨by omega, fun τ4 e4 => ?_⟩⟩
      have h29 : τ3 0 29 = ((tkE b len (pN b len i) : Nat) : Int) := hL.2.2
      rw [show ((i : Int)).toNat = i by omega, hL.2.1, h29] at e4
      have g : ∀ o k, ¬ (o = 19) → τ4 o k = τ3 o k := fun o k q => by rw [e4, su_ko _ _ (by omega)]
      have hR4 : Rw (τ4 1) := fun k => by rw [g 1 k (by omega), hf3 1 k (by omega) (by omega) (by omega)]; exact hR k
      refine sp_mcopy (s := tkS b len (pN b len i)) (e := tkE b len (pN b len i)) (i := i) (by rw [g 0 28 (by omega)]; exact hL.2.1) (by rw [g 0 29 (by omega)]; exact h29) w5 (by omega) w1 (by omega) (by rw [g 0 26 (by omega), h26]) hR4 (fun τ5 hf5 h5c h5w h5o => ?_)
      have f52 : τ5 0 2 = τ 0 2 := by rw [hf5 0 2 (by omega) (by omega), g 0 2 (by omega), hf3 0 2 (by omega) (by omega) (by omega)]
      have f51 : ∀ k, τ5 1 k = τ 1 k := fun k => by rw [hf5 1 k (by omega) (by omega), g 1 k (by omega), hf3 1 k (by omega) (by omega) (by omega)]
      obtain ⟨hI5, hb5, hl5⟩ := MI hI f52 f51
      have hnb : tkK b len (pN b len (i + 1)) ≠ 1 := by
        by_cases e : i + 1 = j
        · rw [e, hend]; decide
        · rw [hw (i + 1) (by omega)]; decide
      refine sp_mnextG (j := i + 1) hI5 (hb5.trans hb) (hl5.trans hl) (by rw [hf5 0 29 (by omega) (by omega), g 0 29 (by omega)]; exact hL.2.2) (fun q => absurd q hnb) (fun _ τ6 hf6 hL6 => ?_)
      refine ih (i + 1) τ6 (by omega) (by omega) (fun o k a c d => ?_) hL6 ?_ ?_ ?_
      · rw [hf6 o k (by omega), hf5 o k a (by omega), g o k c, hf3 o k a c (by omega)]
      · rw [hf6 0 3 (by omega), hf5 0 3 (by omega) (by omega), g 0 3 (by omega), h03]
      · rw [hf6 0 26 (by omega), h5c]
      · intro i' hi'
        by_cases e : i' = i
        · subst e
          refine ⟨?_, fun x hx => ?_⟩
          · rw [hf6 19 _ (by omega), hf5 19 _ (by omega) (by omega), e4, su_at]; omega
          · rw [hf6 18 _ (by omega), h5w x hx, g 1 _ (by omega), hf3 1 _ (by omega) (by omega) (by omega)]
            have hsm := isSm_r (tk_word hk (k := tkS b len (pN b len i') + x) (by omega) (by omega))
            rw [← hb] at hsm ⊢
            exact bM_eq hR (by omega)
        · have h19 := hS i' (by omega)
          refine ⟨?_, fun x hx => ?_⟩
          · rw [hf6 19 _ (by omega), hf5 19 _ (by omega) (by omega), e4, su_ko _ _ (by omega)]; exact h19.1
          · have hwi := (tkE_w (hw i' (by omega))).1
            rw [hf6 18 _ (by omega), h5o _ (by omega), g 18 _ (by omega)]; exact h19.2 x hx
  obtain ⟨hI2, hb2, hl2⟩ := MI hI (show τ2 0 2 = τ 0 2 by rw [e2, su_ko _ _ (by omega)]) (fun k => by rw [e2, su_ko _ _ (by omega)])
  have hnb : tkK b len (pN b len 0) ≠ 1 := by
    by_cases e : 0 = j
    · rw [e, hend]; decide
    · rw [hw 0 (by omega)]; decide
  refine sp_mstarts hI2 (hb2.trans hb) (hl2.trans hl) (fun q => absurd q hnb) (fun _ τ3 hf3 hL3 h3 _ => ⟨_, main j 0 τ3 (by omega) rfl (fun o k a c d => ?_) hL3 h3 ?_ (fun i' hi' => by omega)⟩)
  · rw [hf3 o k (by omega), e2, su_ko _ _ (by omega)]
  · rw [hf3 0 26 (by omega), e2, su_at]; rfl
theorem sp_msentence {Q : Int → St → Prop} {τ : St} (hI : TmI τ) (hR : Rw (τ 1))
    (hbad : sCode (bM τ) (mlen τ) ≠ 0 → ∀ τ', (∀ o k, ¬ (o = 0 ∧ (k = 0 ∨ k = 2 ∨ k = 3 ∨ k = 4 ∨ k = 27 ∨ k = 28 ∨ k = 29)) → τ' o k = τ o k) → τ' 0 0 = 0 → τ' 0 2 = 0 → τ' 0 3 = sCode (bM τ) (mlen τ) → Q (-1 - ((sPlace (bM τ) (mlen τ) : Nat) : Int)) τ')
    (hgood : sCode (bM τ) (mlen τ) = 0 → ∀ τ', (∀ o k, o ≠ 18 → o ≠ 19 → ¬ (o = 0 ∧ (k = 0 ∨ k = 2 ∨ k = 3 ∨ k = 4 ∨ k = 26 ∨ k = 27 ∨ k = 28 ∨ k = 29 ∨ k = 35 ∨ k = 36 ∨ k = 42 ∨ k = 50)) → τ' o k = τ o k) → τ' 0 0 = 0 → τ' 0 2 = 0 → τ' 0 3 = 0 → τ' 0 26 = ((sEnd (bM τ) (mlen τ) : Nat) : Int) → τ' 0 35 = 0 → τ' 0 36 = -1 → τ' 0 42 = 0 → τ' 0 50 = 0 → SnM τ' (bM τ) (mlen τ) (sEnd (bM τ) (mlen τ)) → Q ((sEnd (bM τ) (mlen τ) : Nat) : Int) τ') : wp_X9_sentence Q τ := by
  generalize hb : bM τ = b at *
  generalize hl : mlen τ = len at *
  have NF : ∀ τ1 : St, (∀ o k, ¬ (o = 0 ∧ (k = 0 ∨ k = 3 ∨ k = 4 ∨ k = 27 ∨ k = 28 ∨ k = 29)) → τ1 o k = τ o k) → TmI τ1 ∧ bM τ1 = b ∧ mlen τ1 = len := fun τ1 hf => by
    obtain ⟨x, y, z⟩ := MI hI (hf 0 2 (by omega)) (fun k => hf 1 k (by omega))
    exact ⟨x, y.trans hb, z.trans hl⟩
  have badL : ∀ (n : Nat) (x1 : Int) (τ1 : St), (∀ o k, ¬ (o = 0 ∧ (k = 0 ∨ k = 3 ∨ k = 4 ∨ k = 27 ∨ k = 28 ∨ k = 29)) → τ1 o k = τ o k) → τ1 0 0 = 0 → τ1 0 3 = sCode b len → sCode b len ≠ 0 → τ1 0 4 = ((sPlace b len : Nat) : Int) → wp_X9_sentence_L12 Q (n + 1) x1 0 τ1 := by
    intro n x1 τ1 hf h0 h3 hn h4
    unfold wp_X9_sentence_L12
    refine ⟨fun _ => ?_, fun q => absurd w32_0 q⟩
    unfold wp_X9_sentence_B85
    refine ⟨fun _ => ?_, fun q => absurd w32_0 q⟩
    unfold wp_X9_sentence_B192
    intro τ2 e2
    refine ⟨fun _ => ?_, fun q => absurd w32_0 q⟩
    rw [show τ2 0 4 = ((sPlace b len : Nat) : Int) by rw [e2, su_ko _ _ (by omega), h4]]
    exact hbad hn τ2 (fun o k q => by rw [e2, su_ko _ _ (by omega)]; exact hf o k (by omega)) (by rw [e2, su_ko _ _ (by omega), h0]) (by rw [e2, su_at]) (by rw [e2, su_ko _ _ (by omega), h3])
  have cW : ∀ j, j ≤ 8 → (∀ i, i < j → tkK b len (pN b len i) = 3) → tkK b len (pN b len j) ≠ 3 → sEnd b len = j ∧ sPlace b len = tkS b len (pN b len j) ∧ sCode b len = (if tkK b len (pN b len j) = 0 then 0 else if tkK b len (pN b len j) = 1 then 1 else 2) := by
    intro j hj hw hn
    have e := sEnd_of hj hw hn
    refine ⟨e, ?_, ?_⟩
    · unfold sPlace; rw [e, if_neg (by omega)]
    · unfold sCode; rw [e, if_neg (by omega)]
  have stepJ : ∀ (n j : Nat) (τ1 : St), j ≤ 8 → (∀ o k, ¬ (o = 0 ∧ (k = 0 ∨ k = 3 ∨ k = 4 ∨ k = 27 ∨ k = 28 ∨ k = 29)) → τ1 o k = τ o k) → Ld b len τ1 j → τ1 0 0 = 0 → (∀ i, i < j → tkK b len (pN b len i) = 3) → tkK b len (pN b len j) ≠ 1 →
      (j < 8 → ∀ τ' : St, (∀ o k, ¬ (o = 0 ∧ (k = 0 ∨ k = 3 ∨ k = 4 ∨ k = 27 ∨ k = 28 ∨ k = 29)) → τ' o k = τ o k) → Ld b len τ' (j + 1) → τ' 0 0 = 0 → (∀ i, i < j + 1 → tkK b len (pN b len i) = 3) → tkK b len (pN b len (j + 1)) ≠ 1 → wp_X9_sentence_L12 Q (n + 1) ((j + 1 : Nat) : Int) 1 τ') → wp_X9_sentence_L12 Q (n + 2) (j : Int) 1 τ1 := by
    intro n j τ1 hj hf hL h0 hw hn1 hnext
    obtain ⟨hI1, hb1, hl1⟩ := NF τ1 hf
    have hr1 : Rw (τ1 1) := fun k => by rw [hf 1 k (by omega)]; exact hR k
    unfold wp_X9_sentence_L12
    refine ⟨fun q => absurd q (by decide), fun _ => ?_⟩
    rw [hL.1, hL.2.1]
    rcases mTk_k hn1 with ⟨k0, m0⟩ | ⟨k0, m0⟩ | ⟨k0, m0⟩ | ⟨k0, m0, m1⟩
    · -- the end
      rw [m0]
      refine ⟨fun _ => ?_, fun q => absurd w32_0 q⟩
      obtain ⟨c1, c2, c3⟩ := cW j hj hw (by rw [k0]; decide)
      rw [if_pos k0] at c3
      refine sp_mtake hI1 hb1 hl1 hr1 hj hw k0 (fun τ' g a1 a2 a3 a4 a5 a6 a7 a8 => ?_)
      have := hgood c3 τ' (fun o k x y z => by rw [g o k x y (by omega), hf o k (by omega)]) (by rw [g 0 0 (by omega) (by omega) (by omega), h0]) a1 a2 (by rw [c1]; exact a3) a4 a5 a6 a7 (by rw [c1]; exact a8)
      rw [c1] at this
      exact this
    · -- a LABEL
      rw [m0]
      obtain ⟨c1, c2, c3⟩ := cW j hj hw (by rw [k0]; decide)
      rw [k0] at c3
      simp only [if_neg (show ¬ (2 : Int) = 0 by decide), if_neg (show ¬ (2 : Int) = 1 by decide)] at c3
      refine ⟨fun q => absurd q (by decide), fun _ => ⟨fun _ => ?_, fun q => absurd q (by decide)⟩⟩
      unfold wp_X9_cannot
      rw [hL.2.1]
      apply sp_mflaw
      refine ⟨Or.inl rfl, ?_⟩
      unfold wp_X9_sentence_B61 wp_X9_sentence_B80 wp_X9_sentence_B81
      intro x1 e1
      refine ⟨fun _ => badL n x1 _ (fun o k q => ?_) ?_ ?_ (by rw [c3]; decide) ?_, fun q => absurd w32_0 q⟩
      · rw [su_ko _ _ (by omega), su_ko _ _ (by omega)]; exact hf o k q
      · rw [su_ko _ _ (by omega), su_ko _ _ (by omega)]; exact h0
      · rw [su_ko _ _ (by omega), su_at, c3]
      · rw [su_at, c2]
    · -- a WORD
      rw [m0]
      refine ⟨fun q => absurd q (by decide), fun _ => ⟨fun q => absurd (by decide) q, fun _ => ?_⟩⟩
      rw [w32_id (show -2147483648 ≤ (j : Int) by omega) (show (j : Int) < 2147483648 by omega)]
      have hw' : ∀ i, i < j + 1 → tkK b len (pN b len i) = 3 := fun i hi => by
        by_cases e : i = j
        · rw [e]; exact k0
        · exact hw i (by omega)
      refine ⟨fun q => ?_, fun q => ?_⟩
      · unfold wp_X9_sentence_B49 wp_X9_sentence_B61 wp_X9_sentence_B80 wp_X9_sentence_B81
        intro x1 e1
        rw [show x1 = ((j + 1 : Nat) : Int) by rw [e1]; omega]
        refine ⟨fun z => absurd z (by decide), fun _ => ?_⟩
        refine sp_mnextG (j := j + 1) hI1 hb1 hl1 hL.2.2 (fun kb τ' g a1 a2 => ⟨fun _ => ?_, fun z => absurd w32_0 z⟩) (fun kb τ' g a1 => ⟨fun z => absurd z (by decide), fun _ => ?_⟩)
        · obtain ⟨c1, c2, c3⟩ := cW (j + 1) (by omega) hw' (by rw [kb]; decide)
          rw [kb] at c3
          simp only [if_neg (show ¬ (1 : Int) = 0 by decide), if_true] at c3
          refine badL n _ τ' (fun o k z => by rw [g o k (by omega)]; exact hf o k z) (by rw [g 0 0 (by omega), h0]) (by rw [a1, c3]) (by rw [c3]; decide) (by rw [a2, c2])
        · exact hnext (by omega) τ' (fun o k z => by rw [g o k (by omega)]; exact hf o k z) a1 (by rw [g 0 0 (by omega), h0]) hw' kb
      · have hj8 : j = 8 := by omega
        have c1 : sEnd b len = 9 := sEnd_9 (fun i hi => hw' i (by omega))
        have c3 : sCode b len = 3 := by unfold sCode; rw [if_pos c1]
        have c2 : sPlace b len = tkS b len (pN b len j) := by unfold sPlace; rw [if_pos c1, hj8]
        apply sp_mflaw
        refine ⟨fun _ => ?_, fun z => absurd w32_0 z⟩
        unfold wp_X9_sentence_B61 wp_X9_sentence_B80 wp_X9_sentence_B81
        intro x1 e1
        refine ⟨fun _ => badL n x1 _ (fun o k q => ?_) ?_ ?_ (by rw [c3]; decide) ?_, fun q => absurd w32_0 q⟩
        · rw [su_ko _ _ (by omega), su_ko _ _ (by omega)]; exact hf o k q
        · rw [su_ko _ _ (by omega), su_ko _ _ (by omega)]; exact h0
        · rw [su_ko _ _ (by omega), su_at, c3]
        · rw [su_at, c2]
    · -- a sign
      have hsr := isSg_r m1
      rw [m0, w32_id (by omega) (by omega)]
      obtain ⟨c1, c2, c3⟩ := cW j hj hw (by rw [k0]; decide)
      rw [k0] at c3
      simp only [if_neg (show ¬ (4 : Int) = 0 by decide), if_neg (show ¬ (4 : Int) = 1 by decide)] at c3
      refine ⟨fun q => by omega, fun _ => ⟨fun _ => ?_, fun q => by omega⟩⟩
      unfold wp_X9_cannot
      rw [hL.2.1]
      apply sp_mflaw
      refine ⟨Or.inl rfl, ?_⟩
      unfold wp_X9_sentence_B61 wp_X9_sentence_B80 wp_X9_sentence_B81
      intro x1 e1
      refine ⟨fun _ => badL n x1 _ (fun o k q => ?_) ?_ ?_ (by rw [c3]; decide) ?_, fun q => absurd w32_0 q⟩
      · rw [su_ko _ _ (by omega), su_ko _ _ (by omega)]; exact hf o k q
      · rw [su_ko _ _ (by omega), su_ko _ _ (by omega)]; exact h0
      · rw [su_ko _ _ (by omega), su_at, c3]
      · rw [su_at, c2]
  have main : ∀ (m j : Nat) (τ1 : St), j ≤ 8 → 8 - j = m → (∀ o k, ¬ (o = 0 ∧ (k = 0 ∨ k = 3 ∨ k = 4 ∨ k = 27 ∨ k = 28 ∨ k = 29)) → τ1 o k = τ o k) → Ld b len τ1 j → τ1 0 0 = 0 → (∀ i, i < j → tkK b len (pN b len i) = 3) → tkK b len (pN b len j) ≠ 1 → wp_X9_sentence_L12 Q (m + 2) (j : Int) 1 τ1 := by
    intro m
    induction m with
    | zero => intro j τ1 hj hm hf hL h0 hw hn; exact stepJ 0 j τ1 hj hf hL h0 hw hn (fun q => by omega)
    | succ m ih => intro j τ1 hj hm hf hL h0 hw hn; exact stepJ (m + 1) j τ1 hj hf hL h0 hw hn (fun q τ' a b c d e => ih (j + 1) τ' (by omega) (by omega) a b c d e)
  unfold wp_X9_sentence
  intro τ1 e1
  have fr : ∀ o k, ¬ (o = 0 ∧ k = 0) → τ1 o k = τ o k := fun o k q => by rw [e1, su_ko _ _ (by omega)]
  obtain ⟨hI1, hb1, hl1⟩ := NF τ1 (fun o k q => fr o k (by omega))
  refine sp_mstarts hI1 hb1 hl1 (fun kb τ' g a1 a2 => ⟨1, ?_⟩) (fun kb τ' g a1 a2 a3 => ⟨_, main 8 0 τ' (by omega) rfl (fun o k q => by rw [g o k (by omega), fr o k (by omega)]) a1 (by rw [g 0 0 (by omega), e1, su_at]) (fun i hi => by omega) kb⟩)
  obtain ⟨c1, c2, c3⟩ := cW 0 (by omega) (fun i hi => by omega) (by rw [kb]; decide)
  rw [kb] at c3
  simp only [if_neg (show ¬ (1 : Int) = 0 by decide), if_true] at c3
  exact badL 0 0 τ' (fun o k q => by rw [g o k (by omega), fr o k (by omega)]) (by rw [g 0 0 (by omega), e1, su_at]) (by rw [a1, c3]) (by rw [c3]; decide) (by rw [a2, c2])
