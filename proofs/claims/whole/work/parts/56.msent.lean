/-! pure: the reference's sentence() -/
theorem runTo_all {f : Int → Bool} {b : Nat → Int} {len : Nat} : ∀ (m p : Nat), len - p = m → ∀ k, p ≤ k → k < runTo f b len p → f (b k) = true := by
  intro m
  induction m with
  | zero => intro p h k h1 h2; rw [runTo_stop (fun q => by omega)] at h2; omega
  | succ m ih =>
    intro p h k h1 h2
    cases hf : f (b p) with
    | false => rw [runTo_stop (fun _ => hf)] at h2; omega
    | true =>
      by_cases e : k = p
      · rw [e]; exact hf
      · rw [runTo_step (by omega) hf] at h2
        exact ih (p + 1) (by omega) k (by omega) h2
/-- the bytes of a WORD are small letters -/
theorem tk_word {b : Nat → Int} {len p k : Nat} (h : tkK b len p = 3) (h1 : tkS b len p ≤ k) (h2 : k < tkE b len p) : isSm (b k) = true := by
  obtain ⟨a1, a2, a3, a4⟩ := tkE_w h
  by_cases e : k = tkS b len p
  · rw [e]; exact a3
  · rw [a4] at h2
    exact runTo_all _ _ rfl k (by omega) h2
theorem isSm_r {c : Int} (h : isSm c = true) : 97 ≤ c ∧ c ≤ 122 := by unfold isSm at h; exact of_decide_eq_true h
def Rw (f : Nat → Int) : Prop := ∀ k, -128 ≤ f k ∧ f k ≤ 127
theorem Rw.by {f : Nat → Int} (h : Rw f) : By f := fun k => by have := h k; omega
theorem bM_eq {τ : St} (h : Rw (τ 1)) {k : Nat} (hk : bM τ k < 128) : τ 1 k = bM τ k := by
  have := h k
  unfold bM at *
  omega
theorem yNar_id {x : Int} (h : -128 ≤ x ∧ x ≤ 127) : yNar x = x := by
  unfold yNar
  rw [vp_nar_byte, Int8.toInt_toInt32, Int32.toInt_toInt8, w32_toInt, w32_id (by omega) (by omega)]
  unfold Int.bmod
  simp only []
  split <;> omega
theorem mTk_k {b : Nat → Int} {len p : Nat} (h : tkK b len p ≠ 1) : (tkK b len p = 0 ∧ mTk b len p = 0) ∨ (tkK b len p = 2 ∧ mTk b len p = 1) ∨ (tkK b len p = 3 ∧ mTk b len p = 2) ∨ (tkK b len p = 4 ∧ mTk b len p = b (tkS b len p) ∧ isSg (b (tkS b len p)) = true) := by
  unfold tkK at h ⊢
  unfold mTk
  simp only [] at h ⊢
  by_cases h1 : len ≤ tkS b len p
  · simp [h1]
  · simp only [if_neg h1] at h ⊢
    cases hg : isGr (b (tkS b len p)) with
    | true =>
      rw [hg] at h
      simp only [if_true] at h ⊢
      by_cases h2 : runTo isLb b len (tkS b len p + 1) - tkS b len p ≤ 8
      · simp [h2]
      · simp [h2] at h
    | false =>
      rw [hg] at h
      simp only [if_false, Bool.false_eq_true] at h ⊢
      cases hs : isSm (b (tkS b len p)) with
      | true =>
        rw [hs] at h
        simp only [if_true] at h ⊢
        by_cases h2 : runTo isSm b len (tkS b len p + 1) - tkS b len p ≤ 12
        · simp [h2]
        · simp [h2] at h
      | false =>
        rw [hs] at h
        simp only [if_false, Bool.false_eq_true] at h ⊢
        cases hz : isSg (b (tkS b len p)) with
        | true => simp
        | false => rw [hz] at h; simp at h
theorem isSg_r {c : Int} (h : isSg c = true) : 33 ≤ c ∧ c ≤ 45 := by unfold isSg at h; have := of_decide_eq_true h; omega
/-- only scratch numbers of the reference's parser have changed -/
def Mf (τ τ' : St) : Prop := ∀ o k, ¬ (o = 0 ∧ (k = 0 ∨ k = 3 ∨ k = 4 ∨ k = 27 ∨ k = 28 ∨ k = 29)) → τ' o k = τ o k
theorem Mf.trans {τ τ1 τ2 : St} (h : Mf τ τ1) (h' : Mf τ1 τ2) : Mf τ τ2 := fun o k q => (h' o k q).trans (h o k q)
theorem Mf_nx (τ : St) (p : Nat) : Mf τ (nxSt τ p) := fun o k q => by
  unfold nxSt nxOk
  split
  · rw [su_ko _ _ (by omega), su_ko _ _ (by omega), su_ko _ _ (by omega), su_ko _ _ (by omega), su_ko _ _ (by omega)]
  · rw [su_ko _ _ (by omega), su_ko _ _ (by omega), su_ko _ _ (by omega)]
theorem nx_1 (τ : St) (p : Nat) : nxSt τ p 0 27 = mTk (bM τ) (mlen τ) p ∧ nxSt τ p 0 28 = (tkS (bM τ) (mlen τ) p : Nat) ∧ nxSt τ p 0 29 = (tkE (bM τ) (mlen τ) p : Nat) ∧ (tkK (bM τ) (mlen τ) p = 1 → nxSt τ p 0 3 = 1 ∧ nxSt τ p 0 4 = (tkS (bM τ) (mlen τ) p : Nat)) ∧ (tkK (bM τ) (mlen τ) p ≠ 1 → nxSt τ p 0 3 = τ 0 3 ∧ nxSt τ p 0 4 = τ 0 4) := by
  unfold nxSt nxOk
  by_cases h : tkK (bM τ) (mlen τ) p = 1
  · rw [if_pos h]
    refine ⟨by rw [su_ko _ _ (by omega), su_ko _ _ (by omega), su_at], by rw [su_ko _ _ (by omega), su_ko _ _ (by omega), su_ko _ _ (by omega), su_ko _ _ (by omega), su_at], by rw [su_ko _ _ (by omega), su_ko _ _ (by omega), su_ko _ _ (by omega), su_at], fun _ => ⟨by rw [su_ko _ _ (by omega), su_at], by rw [su_at]⟩, fun q => absurd h q⟩
  · rw [if_neg h]
    refine ⟨by rw [su_at], by rw [su_ko _ _ (by omega), su_ko _ _ (by omega), su_at], by rw [su_ko _ _ (by omega), su_at], fun q => absurd q h, fun _ => ⟨by rw [su_ko _ _ (by omega), su_ko _ _ (by omega), su_ko _ _ (by omega)], by rw [su_ko _ _ (by omega), su_ko _ _ (by omega), su_ko _ _ (by omega)]⟩⟩
theorem Mf.I {τ τ' : St} (h : Mf τ τ') (hI : TmI τ) : TmI τ' ∧ mlen τ' = mlen τ ∧ bM τ' = bM τ := by
  have h2 := h 0 2 (by omega)
  refine ⟨⟨by rw [h2]; exact hI.1, by rw [h2]; exact hI.2⟩, by unfold mlen; rw [h2], ?_⟩
  unfold bM
  funext k
  rw [h 1 k (by omega)]
/-- token j is loaded -/
def Ld (b : Nat → Int) (len : Nat) (τ : St) (j : Nat) : Prop := τ 0 27 = mTk b len (pN b len j) ∧ τ 0 28 = ((tkS b len (pN b len j) : Nat) : Int) ∧ τ 0 29 = ((pN b len (j + 1) : Nat) : Int)
theorem MI {τ τ' : St} (hI : TmI τ) (h2 : τ' 0 2 = τ 0 2) (h1 : ∀ k, τ' 1 k = τ 1 k) : TmI τ' ∧ bM τ' = bM τ ∧ mlen τ' = mlen τ :=
  ⟨⟨by rw [h2]; exact hI.1, by rw [h2]; exact hI.2⟩, funext fun k => by unfold bM; rw [h1], by unfold mlen; rw [h2]⟩
/-- next() to token j -/
theorem sp_mnextG {Q : Int → St → Prop} {b : Nat → Int} {len : Nat} {τ : St} {j : Nat} (hI : TmI τ) (hb : bM τ = b) (hl : mlen τ = len) (h29 : τ 0 29 = ((pN b len j : Nat) : Int))
    (hbad : tkK b len (pN b len j) = 1 → ∀ τ', (∀ o k, ¬ (o = 0 ∧ (k = 3 ∨ k = 4 ∨ k = 27 ∨ k = 28 ∨ k = 29)) → τ' o k = τ o k) → τ' 0 3 = 1 → τ' 0 4 = ((tkS b len (pN b len j) : Nat) : Int) → Q 0 τ')
    (hok : tkK b len (pN b len j) ≠ 1 → ∀ τ', (∀ o k, ¬ (o = 0 ∧ (k = 27 ∨ k = 28 ∨ k = 29)) → τ' o k = τ o k) → Ld b len τ' j → Q 1 τ') : wp_X9_next Q τ := by
  have hp := pN_le b len j
  refine sp_mnext hI h29 (by omega) ?_
  obtain ⟨a1, a2, a3, a4, a5⟩ := nx_1 τ (pN b len j)
  rw [hb, hl] at a1 a2 a3 a4 a5
  unfold nxR
  rw [hb, hl]
  by_cases h : tkK b len (pN b len j) = 1
  · rw [if_pos h]
    refine hbad h _ (fun o k q => ?_) (a4 h).1 (a4 h).2
    unfold nxSt nxOk
    split
    · rw [su_ko _ _ (by omega), su_ko _ _ (by omega), su_ko _ _ (by omega), su_ko _ _ (by omega), su_ko _ _ (by omega)]
    · rw [su_ko _ _ (by omega), su_ko _ _ (by omega), su_ko _ _ (by omega)]
  · rw [if_neg h]
    refine hok h _ (fun o k q => ?_) ⟨a1, a2, a3⟩
    unfold nxSt nxOk
    rw [hb, hl, if_neg h]
    rw [su_ko _ _ (by omega), su_ko _ _ (by omega), su_ko _ _ (by omega)]
theorem sp_mstarts {Q : Int → St → Prop} {b : Nat → Int} {len : Nat} {τ : St} (hI : TmI τ) (hb : bM τ = b) (hl : mlen τ = len)
    (hbad : tkK b len (pN b len 0) = 1 → ∀ τ', (∀ o k, ¬ (o = 0 ∧ (k = 3 ∨ k = 4 ∨ k = 27 ∨ k = 28 ∨ k = 29)) → τ' o k = τ o k) → τ' 0 3 = 1 → τ' 0 4 = ((tkS b len (pN b len 0) : Nat) : Int) → Q 0 τ')
    (hok : tkK b len (pN b len 0) ≠ 1 → ∀ τ', (∀ o k, ¬ (o = 0 ∧ (k = 3 ∨ k = 4 ∨ k = 27 ∨ k = 28 ∨ k = 29)) → τ' o k = τ o k) → Ld b len τ' 0 → τ' 0 3 = 0 → τ' 0 4 = 0 → Q 1 τ') : wp_X9_starts Q τ := by
  unfold wp_X9_starts
  intro τ1 e1 τ2 e2 τ3 e3
  have fr : ∀ o k, ¬ (o = 0 ∧ (k = 3 ∨ k = 4 ∨ k = 29)) → τ3 o k = τ o k := fun o k q => by rw [e3, su_ko _ _ (by omega), e2, su_ko _ _ (by omega), e1, su_ko _ _ (by omega)]
  obtain ⟨hI3, hb3, hl3⟩ := MI hI (fr 0 2 (by omega)) (fun k => fr 1 k (by omega))
  refine sp_mnextG (j := 0) hI3 (hb3.trans hb) (hl3.trans hl) (by rw [e3, su_at]; rfl) (fun h τ' a c d => ⟨Or.inl rfl, hbad h τ' (fun o k q => ?_) c d⟩) (fun h τ' a c => ⟨Or.inr rfl, hok h τ' (fun o k q => ?_) c ?_ ?_⟩)
  · rw [a o k q, fr o k (by omega)]
  · rw [a o k (by omega), fr o k (by omega)]
  · rw [a 0 3 (by omega), e3, su_ko _ _ (by omega), e2, su_ko _ _ (by omega), e1, su_at]
  · rw [a 0 4 (by omega), e3, su_ko _ _ (by omega), e2, su_at]
