/-! pure: tokens in a row; the class's sentence() -/
def pN (b : Nat → Int) (len : Nat) : Nat → Nat
  | 0 => 0
  | j + 1 => tkE b len (pN b len j)
theorem tkS_le (b : Nat → Int) {len p : Nat} (h : p ≤ len) : tkS b len p ≤ len := runTo_le isBl b h
theorem tkS_ge (b : Nat → Int) (len p : Nat) : p ≤ tkS b len p := runTo_ge isBl b len p
theorem tkE_le (b : Nat → Int) {len p : Nat} (h : p ≤ len) : tkE b len p ≤ len := by
  have hs := tkS_le b h
  unfold tkE
  simp only []
  split
  · exact hs
  · split
    · exact runTo_le _ b (by omega)
    · split
      · exact runTo_le _ b (by omega)
      · omega
theorem tkE_ge (b : Nat → Int) (len p : Nat) : tkS b len p ≤ tkE b len p := by
  unfold tkE
  simp only []
  split
  · exact Nat.le_refl _
  · split
    · exact Nat.le_trans (Nat.le_succ _) (runTo_ge _ _ _ _)
    · split
      · exact Nat.le_trans (Nat.le_succ _) (runTo_ge _ _ _ _)
      · omega
theorem pN_le (b : Nat → Int) (len : Nat) : ∀ j, pN b len j ≤ len := by
  intro j
  induction j with
  | zero => exact Nat.zero_le _
  | succ j ih => exact tkE_le b ih
theorem tkE_w {b : Nat → Int} {len p : Nat} (h : tkK b len p = 3) : tkE b len p - tkS b len p ≤ 12 ∧ tkS b len p < len ∧ isSm (b (tkS b len p)) = true ∧ tkE b len p = runTo isSm b len (tkS b len p + 1) := by
  unfold tkK at h
  simp only [] at h
  unfold tkE
  simp only []
  by_cases h1 : len ≤ tkS b len p
  · rw [if_pos h1] at h; exact absurd h (by decide)
  · rw [if_neg h1] at h ⊢
    cases hg : isGr (b (tkS b len p)) with
    | true =>
      rw [hg] at h
      simp only [if_true] at h
      split at h <;> exact absurd h (by decide)
    | false =>
      rw [hg] at h
      simp only [if_false, Bool.false_eq_true] at h ⊢
      cases hs : isSm (b (tkS b len p)) with
      | false =>
        rw [hs] at h
        simp only [if_false, Bool.false_eq_true] at h
        split at h <;> exact absurd h (by decide)
      | true =>
        rw [hs] at h
        simp only [if_true] at h ⊢
        split at h
        · exact ⟨‹_›, by omega, trivial, trivial⟩
        · exact absurd h (by decide)
theorem tkK_0 {b : Nat → Int} {len p : Nat} (h : tkK b len p = 0) : len ≤ tkS b len p ∧ tkE b len p = tkS b len p := by
  unfold tkK at h
  simp only [] at h
  by_cases h1 : len ≤ tkS b len p
  · exact ⟨h1, by unfold tkE; simp only []; rw [if_pos h1]⟩
  · rw [if_neg h1] at h
    split at h
    · split at h <;> exact absurd h (by decide)
    · split at h
      · split at h <;> exact absurd h (by decide)
      · split at h <;> exact absurd h (by decide)
theorem tkK_end {b : Nat → Int} {len p : Nat} (h : len ≤ p) : tkK b len p = 0 := by
  unfold tkK
  have := tkS_ge b len p
  simp only []
  rw [if_pos (by omega)]
theorem tkK_r (b : Nat → Int) (len p : Nat) : 0 ≤ tkK b len p ∧ tkK b len p ≤ 4 := by
  unfold tkK
  simp only []
  repeat' split
  all_goals omega
/-- behind a token of kind 0 there are none but such -/
theorem pN_end {b : Nat → Int} {len j : Nat} (h : tkK b len (pN b len j) = 0) : ∀ i, j ≤ i → tkK b len (pN b len i) = 0 := by
  intro i hi
  obtain ⟨d, rfl⟩ : ∃ d, i = j + d := ⟨i - j, by omega⟩
  induction d with
  | zero => exact h
  | succ d ih =>
    have h2 := tkK_0 (ih (by omega))
    show tkK b len (tkE b len (pN b len (j + d))) = 0
    exact tkK_end (by omega)
/-- the first token that is no WORD, of the first nine (9 if there is none) -/
def sJ (b : Nat → Int) (len : Nat) : Nat → Nat → Nat
  | 0, j => j
  | m + 1, j => if tkK b len (pN b len j) = 3 then sJ b len m (j + 1) else j
def sEnd (b : Nat → Int) (len : Nat) : Nat := sJ b len 9 0
def sCode (b : Nat → Int) (len : Nat) : Int := if sEnd b len = 9 then 3 else if tkK b len (pN b len (sEnd b len)) = 0 then 0 else if tkK b len (pN b len (sEnd b len)) = 1 then 1 else 2
def sPlace (b : Nat → Int) (len : Nat) : Nat := tkS b len (pN b len (if sEnd b len = 9 then 8 else sEnd b len))
theorem sJ_spec (b : Nat → Int) (len : Nat) : ∀ m j, j ≤ sJ b len m j ∧ sJ b len m j ≤ j + m ∧ (∀ i, j ≤ i → i < sJ b len m j → tkK b len (pN b len i) = 3) ∧ (sJ b len m j < j + m → tkK b len (pN b len (sJ b len m j)) ≠ 3) := by
  intro m
  induction m with
  | zero => intro j; exact ⟨Nat.le_refl _, Nat.le_refl _, fun i h1 h2 => by simp only [sJ] at h2; omega, fun h => by simp only [sJ] at h; omega⟩
  | succ m ih =>
    intro j
    unfold sJ
    by_cases h : tkK b len (pN b len j) = 3
    · rw [if_pos h]
      obtain ⟨h1, h2, h3, h4⟩ := ih (j + 1)
      refine ⟨by omega, by omega, fun i a c => ?_, fun a => h4 (by omega)⟩
      by_cases e : i = j
      · rw [e]; exact h
      · exact h3 i (by omega) c
    · rw [if_neg h]
      exact ⟨Nat.le_refl _, by omega, fun i a c => by omega, fun _ => h⟩
/-- only the tape's three numbers token, start, stop have changed -/
def Tf (σ σ' : St) : Prop := ∀ o k, ¬ (o = 1 ∧ (k = 2 ∨ k = 3 ∨ k = 4)) → σ' o k = σ o k
theorem Tf.refl (σ : St) : Tf σ σ := fun _ _ _ => rfl
theorem Tf.trans {σ σ1 σ2 : St} (h : Tf σ σ1) (h' : Tf σ1 σ2) : Tf σ σ2 := fun o k q => (h' o k q).trans (h o k q)
theorem Tf_tk (σ : St) (p : Nat) : Tf σ (tkSt σ p) := fun o k q => by
  unfold tkSt
  rw [su_ko _ _ (by omega), su_ko _ _ (by omega), su_ko _ _ (by omega)]
theorem tk_1 (σ : St) (p : Nat) : tkSt σ p 1 2 = tkK (σ 2) (tlen σ) p ∧ tkSt σ p 1 3 = (tkS (σ 2) (tlen σ) p : Nat) ∧ tkSt σ p 1 4 = (tkE (σ 2) (tlen σ) p : Nat) := by
  unfold tkSt
  exact ⟨su_at _ _ _ _, by rw [su_ko _ _ (by omega), su_ko _ _ (by omega), su_at], by rw [su_ko _ _ (by omega), su_at]⟩
theorem TpI_of {σ σ' : St} (h : TpI σ) (h1 : σ' 1 1 = σ 1 1) (h2 : ∀ k, σ' 2 k = σ 2 k) : TpI σ' := ⟨by rw [h1]; exact h.1, by rw [h1]; exact h.2.1, fun k => by rw [h2]; exact h.2.2 k⟩
theorem tlen_of {σ σ' : St} (h1 : σ' 1 1 = σ 1 1) : tlen σ' = tlen σ := by unfold tlen; rw [h1]
theorem Tf.I {σ σ' : St} (h : Tf σ σ') (hI : TpI σ) : TpI σ' ∧ tlen σ' = tlen σ ∧ σ' 2 = σ 2 := ⟨TpI_of hI (h 1 1 (by omega)) (fun k => h 2 k (by omega)), tlen_of (h 1 1 (by omega)), funext fun k => h 2 k (by omega)⟩
theorem sp_misplaced {Q : Int → St → Prop} {σ : St} {t : Int} (ht : σ 1 2 = t) (hr : 0 ≤ t ∧ t ≤ 4) (h : Q (if t = 1 then 1 else 2) σ) : wp_X4_misplaced Q σ := by
  unfold wp_X4_misplaced
  rw [ht, w32_id (by omega) (by omega)]
  exact ⟨fun q => by rw [if_neg q] at h; exact h, fun q => by rw [if_pos q] at h; exact h⟩
theorem sp_findFault {Q : Int → St → Prop} {σ : St} (hI : TpI σ) (h : ∀ σ', Tf σ σ' → σ' 1 3 = (sPlace (σ 2) (tlen σ) : Nat) → Q (sCode (σ 2) (tlen σ)) σ') : wp_X3_findFault Q σ := by
  unfold wp_X3_findFault wp_X4_rewind
  intro σ1 e1
  have hf1 : Tf σ σ1 := fun o k q => by rw [e1, su_ko _ _ (by omega)]
  have h14 : σ1 1 4 = ((pN (σ 2) (tlen σ) 0 : Nat) : Int) := by rw [e1, su_at]; rfl
  have key : ∀ (m j : Nat) (σ2 : St), j ≤ 9 → 9 - j = m → Tf σ σ2 → σ2 1 4 = ((pN (σ 2) (tlen σ) j : Nat) : Int) → (0 < j → σ2 1 3 = (tkS (σ 2) (tlen σ) (pN (σ 2) (tlen σ) (j - 1)) : Nat)) → sEnd (σ 2) (tlen σ) = sJ (σ 2) (tlen σ) m j → wp_X3_findFault_L9 Q (m + 1) (j : Int) σ2 := by
    intro m
    induction m with
    | zero =>
      intro j σ2 hj hm hf h4 h3 hE
      have hj9 : j = 9 := by omega
      unfold wp_X3_findFault_L9
      simp (disch := omega) only [w32_id]
      refine ⟨fun _ => ?_, fun q => by omega⟩
      have hE9 : sEnd (σ 2) (tlen σ) = 9 := by rw [hE]; simp only [sJ]; exact hj9
      have := h σ2 hf (by rw [h3 (by omega)]; unfold sPlace; rw [if_pos hE9, hj9])
      unfold sCode at this
      rw [if_pos hE9] at this
      exact this
    | succ m ih =>
      intro j σ2 hj hm hf h4 h3 hE
      obtain ⟨hI2, hl2, hb2⟩ := hf.I hI
      have hpl := pN_le (σ 2) (tlen σ) j
      unfold wp_X3_findFault_L9
      simp (disch := omega) only [w32_id]
      refine ⟨fun q => by omega, fun _ => ?_⟩
      refine sp_advance hI2 h4 (by omega) ?_
      have hft : Tf σ (tkSt σ2 (pN (σ 2) (tlen σ) j)) := hf.trans (Tf_tk _ _)
      obtain ⟨t2, t3, t4⟩ := tk_1 σ2 (pN (σ 2) (tlen σ) j)
      rw [hb2, hl2] at t2 t3 t4
      have hr := tkK_r (σ 2) (tlen σ) (pN (σ 2) (tlen σ) j)
      rw [t2, w32_id (by omega) (by omega)]
      have fin : tkK (σ 2) (tlen σ) (pN (σ 2) (tlen σ) j) ≠ 3 → sEnd (σ 2) (tlen σ) = j ∧ sPlace (σ 2) (tlen σ) = tkS (σ 2) (tlen σ) (pN (σ 2) (tlen σ) j) := by
        intro hn
        have e1 : sEnd (σ 2) (tlen σ) = j := by rw [hE]; unfold sJ; rw [if_neg hn]
        exact ⟨e1, by unfold sPlace; rw [e1, if_neg (by omega)]⟩
      refine ⟨fun q0 => ⟨fun q3 x2 e2 => ?_, fun q3 => ?_⟩, fun q0 => ?_⟩
      · rw [show x2 = ((j + 1 : Nat) : Int) by rw [e2]; omega]
        exact ih (j + 1) _ (by omega) (by omega) hft t4 (fun _ => t3) (by rw [hE]; conv => lhs; unfold sJ
                                                                          rw [if_pos q3])
      · obtain ⟨f1, f2⟩ := fin q3
        refine sp_misplaced t2 hr ?_
        have := h _ hft (by rw [t3, f2])
        unfold sCode at this
        rw [f1, if_neg (by omega), if_neg q0] at this
        exact this
      · obtain ⟨f1, f2⟩ := fin (by rw [q0]; decide)
        have := h _ hft (by rw [t3, f2])
        unfold sCode at this
        rw [f1, if_neg (by omega), if_pos q0] at this
        exact this
  exact ⟨_, key 9 0 σ1 (by omega) rfl hf1 h14 (fun q => by omega) rfl⟩
theorem addN_sz (σ : St) (o a w s e : Nat) : addN σ o a w s e o 3 = σ o 3 + 1 := by unfold addN; rw [su_at]
theorem addN_len (σ : St) (o a w s e k : Nat) : addN σ o a w s e (o + 2) k = if k = (σ o 3).toNat then ((e - s : Nat) : Int) else σ (o + 2) k := by
  unfold addN
  rw [su_ko _ _ (by omega)]
  by_cases h : k = (σ o 3).toNat
  · rw [if_pos h, h, su_at]
  · rw [if_neg h, su_ko _ _ (by omega)]; unfold sc; rw [if_neg (by omega)]
theorem addN_let (σ : St) (o a w s e j : Nat) : addN σ o a w s e (o + 1) j = if w * (σ o 3).toNat ≤ j ∧ j < w * (σ o 3).toNat + (e - s) then σ a (s + (j - w * (σ o 3).toNat)) else σ (o + 1) j := by
  unfold addN
  rw [su_ko _ _ (by omega), su_ko _ _ (by omega)]
  unfold sc
  rw [if_pos rfl]
theorem addN_fr (σ : St) (o a w s e x k : Nat) (h : ¬ (x = o ∧ k = 3)) (h1 : x ≠ o + 1) (h2 : x ≠ o + 2) : addN σ o a w s e x k = σ x k := by
  unfold addN
  rw [su_ko _ _ (by omega), su_ko _ _ (by omega)]
  unfold sc
  rw [if_neg h1]
theorem NmI_add {σ : St} {o a w cap s e : Nat} (h : NmI σ o w cap) (hf : σ o 3 < (cap : Int)) (hes : e - s ≤ w) (ha : ∀ k, 0 ≤ σ a k ∧ σ a k ≤ 255) : NmI (addN σ o a w s e) o w cap := by
  obtain ⟨h0, h1, h2, h3, h4⟩ := h
  refine ⟨by rw [addN_fr _ _ _ _ _ _ _ _ (by omega) (by omega) (by omega)]; exact h0, by rw [addN_sz]; omega, by rw [addN_sz]; omega, fun k => ?_, fun k => ?_⟩
  · rw [addN_len]; split
    · omega
    · exact h3 k
  · rw [addN_let]; split
    · exact ha _
    · exact h4 k
/-- what the class's sentence() leaves of the words: object 14 -/
def SnC (σ' : St) (b : Nat → Int) (len j : Nat) : Prop := ∀ i, i < j → σ' 16 i = ((tkE b len (pN b len i) - tkS b len (pN b len i) : Nat) : Int) ∧ ∀ x, x < tkE b len (pN b len i) - tkS b len (pN b len i) → σ' 15 (12 * i + x) = b (tkS b len (pN b len i) + x)
def Sf (σ σ' : St) : Prop := ∀ o k, o ≠ 15 → o ≠ 16 → ¬ (o = 14 ∧ k = 3) → ¬ (o = 1 ∧ (k = 2 ∨ k = 3 ∨ k = 4)) → σ' o k = σ o k
theorem Sf.I {σ σ' : St} (h : Sf σ σ') (hI : TpI σ) : TpI σ' ∧ tlen σ' = tlen σ ∧ σ' 2 = σ 2 := ⟨TpI_of hI (h 1 1 (by omega) (by omega) (by omega) (by omega)) (fun k => h 2 k (by omega) (by omega) (by omega) (by omega)), tlen_of (h 1 1 (by omega) (by omega) (by omega) (by omega)), funext fun k => h 2 k (by omega) (by omega) (by omega) (by omega)⟩
theorem NmI_tk {σ : St} {p : Nat} (h : NmI σ 14 12 8) : NmI (tkSt σ p) 14 12 8 := by
  have hf := Tf_tk σ p
  obtain ⟨h0, h1, h2, h3, h4⟩ := h
  exact ⟨by rw [hf 14 0 (by omega)]; exact h0, by rw [hf 14 3 (by omega)]; exact h1, by rw [hf 14 3 (by omega)]; exact h2, fun k => by rw [hf 16 k (by omega)]; exact h3 k, fun k => by rw [hf 15 k (by omega)]; exact h4 k⟩
theorem sp_take {Q : St → Prop} {σ : St} (hI : TpI σ) (hN : NmI σ 14 12 8) (hok : sCode (σ 2) (tlen σ) = 0) (h : ∀ σ', Sf σ σ' → NmI σ' 14 12 8 → σ' 14 3 = (sEnd (σ 2) (tlen σ) : Nat) → SnC σ' (σ 2) (tlen σ) (sEnd (σ 2) (tlen σ)) → Q σ') : wp_X3_take Q σ := by
  have hE8 : sEnd (σ 2) (tlen σ) ≤ 8 ∧ tkK (σ 2) (tlen σ) (pN (σ 2) (tlen σ) (sEnd (σ 2) (tlen σ))) = 0 := by
    unfold sCode at hok
    have hs := sJ_spec (σ 2) (tlen σ) 9 0
    by_cases q : sEnd (σ 2) (tlen σ) = 9
    · rw [if_pos q] at hok; exact absurd hok (by decide)
    · rw [if_neg q] at hok
      refine ⟨by have := hs.2.1; unfold sEnd at *; omega, ?_⟩
      by_cases z : tkK (σ 2) (tlen σ) (pN (σ 2) (tlen σ) (sEnd (σ 2) (tlen σ))) = 0
      · exact z
      · rw [if_neg z] at hok; split at hok <;> exact absurd hok (by decide)
  have hW : ∀ i, i < sEnd (σ 2) (tlen σ) → tkK (σ 2) (tlen σ) (pN (σ 2) (tlen σ) i) = 3 := fun i hi => (sJ_spec (σ 2) (tlen σ) 9 0).2.2.1 i (Nat.zero_le i) hi
  have hE0 := pN_end hE8.2
  generalize sEnd (σ 2) (tlen σ) = j at *
  obtain ⟨hj8, -⟩ := hE8
  unfold wp_X3_take wp_X4_rewind
  intro σ1 e1 σ2 e2
  have key : ∀ (m i : Nat) (σ3 : St), i ≤ 8 → 8 - i = m → Sf σ σ3 → NmI σ3 14 12 8 → σ3 1 4 = ((pN (σ 2) (tlen σ) i : Nat) : Int) → σ3 14 3 = ((min i j : Nat) : Int) → SnC σ3 (σ 2) (tlen σ) (min i j) → wp_X3_take_L17 Q (m + 1) (i : Int) σ3 := by
    intro m
    induction m with
    | zero =>
      intro i σ3 hi hm hf hN3 h4 hc hS
      unfold wp_X3_take_L17
      simp (disch := omega) only [w32_id]
      refine ⟨fun _ => ?_, fun q => by omega⟩
      rw [show min i j = j by omega] at hc hS
      exact h σ3 hf hN3 hc hS
    | succ m ih =>
      intro i σ3 hi hm hf hN3 h4 hc hS
      obtain ⟨hI3, hl3, hb3⟩ := hf.I hI
      have hpl := pN_le (σ 2) (tlen σ) i
      have hl1000 := (tlen_eq hI).2
      unfold wp_X3_take_L17
      simp (disch := omega) only [w32_id]
      refine ⟨fun q => by omega, fun _ => ?_⟩
      refine sp_advance hI3 h4 (by omega) ?_
      have hft := Tf_tk σ3 (pN (σ 2) (tlen σ) i)
      obtain ⟨t2, t3, t4⟩ := tk_1 σ3 (pN (σ 2) (tlen σ) i)
      rw [hb3, hl3] at t2 t3 t4
      have hNt : NmI (tkSt σ3 (pN (σ 2) (tlen σ) i)) 14 12 8 := NmI_tk hN3
      have hr := tkK_r (σ 2) (tlen σ) (pN (σ 2) (tlen σ) i)
      have hct := (hft 14 3 (by omega)).trans hc
      have hb9 : ∀ k, 0 ≤ tkSt σ3 (pN (σ 2) (tlen σ) i) 2 k ∧ tkSt σ3 (pN (σ 2) (tlen σ) i) 2 k ≤ 255 := fun k => by rw [hft 2 k (by omega), hb3]; exact hI.2.2 k
      generalize hσt : tkSt σ3 (pN (σ 2) (tlen σ) i) = σt at *
      have hSft : Sf σ σt := fun o k a b c d => (hft o k d).trans (hf o k a b c d)
      have hSt : SnC σt (σ 2) (tlen σ) (min i j) := fun i' hi' => ⟨by rw [hft 16 i' (by omega)]; exact (hS i' hi').1, fun x hx => by rw [hft 15 _ (by omega)]; exact (hS i' hi').2 x hx⟩
      rw [t2, w32_id (by omega) (by omega)]
      by_cases hij : i < j
      · have hk := hW i hij
        obtain ⟨w1, w2, w3, w4⟩ := tkE_w hk
        have w5 := tkE_ge (σ 2) (tlen σ) (pN (σ 2) (tlen σ) i)
        have w6 := tkE_le (σ 2) hpl
        refine ⟨fun q => absurd hk q, fun _ => ?_⟩
        rw [t3, t4]
        refine sp_add (cap := 8) (w := 12) hNt (by omega) w5 (by omega) (by omega) (by omega) w1 (by rw [hct]; omega) (by omega) ?_
        unfold wp_X3_take_B69
        intro x1 ex1
        rw [show x1 = ((i + 1 : Nat) : Int) by rw [ex1]; omega]
        have hmin : min i j = i := by omega
        rw [hmin] at hct hSt
        have hcn : (σt 14 3).toNat = i := by rw [hct]; omega
        refine ih (i + 1) _ (by omega) (by omega) (fun o k a b c d => ?_) (NmI_add hNt (by rw [hct]; omega) w1 hb9) ?_ ?_ ?_
        · rw [addN_fr _ _ _ _ _ _ _ _ c (by omega) (by omega)]; exact hSft o k a b c d
        · rw [addN_fr _ _ _ _ _ _ _ _ (by omega) (by omega) (by omega)]; exact t4
        · rw [addN_sz, hct]; omega
        · rw [show min (i + 1) j = i + 1 by omega]
          intro i' hi'
          have e16 := addN_len σt 14 2 12 (tkS (σ 2) (tlen σ) (pN (σ 2) (tlen σ) i)) (tkE (σ 2) (tlen σ) (pN (σ 2) (tlen σ) i))
          have e15 := addN_let σt 14 2 12 (tkS (σ 2) (tlen σ) (pN (σ 2) (tlen σ) i)) (tkE (σ 2) (tlen σ) (pN (σ 2) (tlen σ) i))
          rw [hcn] at e16 e15
          by_cases e : i' = i
          · subst e
            refine ⟨by rw [e16 i', if_pos rfl], fun x hx => ?_⟩
            rw [e15 (12 * i' + x), if_pos (by omega), hft 2 _ (by omega), hb3, show 12 * i' + x - 12 * i' = x by omega]
          · refine ⟨by rw [e16 i', if_neg e]; exact (hSt i' (by omega)).1, fun x hx => ?_⟩
            have hwi := (tkE_w (hW i' (by omega))).1
            rw [e15 (12 * i' + x), if_neg (by omega)]
            exact (hSt i' (by omega)).2 x hx
      · have hk := hE0 i (by omega)
        refine ⟨fun _ => ?_, fun q => by omega⟩
        unfold wp_X3_take_B69
        intro x1 ex1
        rw [show x1 = ((i + 1 : Nat) : Int) by rw [ex1]; omega]
        rw [show min i j = min (i + 1) j by omega] at hct hSt
        exact ih (i + 1) σt (by omega) (by omega) hSft hNt t4 hct hSt
  refine ⟨_, key 8 0 σ2 (by omega) rfl (fun o k a b c d => ?_) ?_ ?_ ?_ (fun i' hi' => by omega)⟩
  · rw [e2, su_ko _ _ (by omega), e1, su_ko _ _ (by omega)]
  · obtain ⟨h0, h1, h2, h3, h4⟩ := hN
    refine ⟨by rw [e2, su_ko _ _ (by omega), e1, su_ko _ _ (by omega)]; exact h0, by rw [e2, su_ko _ _ (by omega), e1, su_at]; omega, by rw [e2, su_ko _ _ (by omega), e1, su_at]; omega, fun k => by rw [e2, su_ko _ _ (by omega), e1, su_ko _ _ (by omega)]; exact h3 k, fun k => by rw [e2, su_ko _ _ (by omega), e1, su_ko _ _ (by omega)]; exact h4 k⟩
  · rw [e2, su_at]; rfl
  · rw [e2, su_ko _ _ (by omega), e1, su_at]; omega
theorem sCode_r (b : Nat → Int) (len : Nat) : 0 ≤ sCode b len ∧ sCode b len ≤ 3 := by
  unfold sCode
  repeat' split
  all_goals omega
/-- the class's sentence() -/
theorem sp_sentence {Q : Int → St → Prop} {σ : St} (hI : TpI σ) (hN : NmI σ 14 12 8)
    (hbad : sCode (σ 2) (tlen σ) ≠ 0 → ∀ σ', (∀ o k, o ≠ 1 → ¬ (o = 0 ∧ k = 7) → σ' o k = σ o k) → σ' 0 7 = sCode (σ 2) (tlen σ) → σ' 1 1 = 0 → Q (-1 - (sPlace (σ 2) (tlen σ) : Nat)) σ')
    (hgood : sCode (σ 2) (tlen σ) = 0 → ∀ σ', (∀ o k, o ≠ 1 → o ≠ 15 → o ≠ 16 → ¬ (o = 14 ∧ k = 3) → ¬ (o = 0 ∧ (k = 7 ∨ k = 9)) → ¬ (o = 23 ∧ k = 0) → ¬ (o = 26 ∧ k = 0) → σ' o k = σ o k) → σ' 0 7 = 0 → σ' 1 1 = 0 → σ' 0 9 = -1 → σ' 23 0 = 0 → σ' 26 0 = 0 → NmI σ' 14 12 8 → σ' 14 3 = (sEnd (σ 2) (tlen σ) : Nat) → SnC σ' (σ 2) (tlen σ) (sEnd (σ 2) (tlen σ)) → Q (sEnd (σ 2) (tlen σ) : Nat) σ') : wp_X8_sentence Q σ := by
  have hcr := sCode_r (σ 2) (tlen σ)
  unfold wp_X8_sentence wp_X3_parse
  refine sp_findFault hI (fun σ1 hf h13 => ⟨fun q => ?_, fun q => ?_⟩)
  · rw [w32_id (by omega) (by omega)] at q
    intro σ3 e3 x4 e4 σ5 e5
    have f7 : σ5 0 7 = sCode (σ 2) (tlen σ) := by rw [e5, su_ko _ _ (by omega), e3, su_at]
    have f4 : x4 = (sPlace (σ 2) (tlen σ) : Nat) := by rw [e4, e3, su_ko _ _ (by omega), h13]
    rw [f7, f4, w32_id (by omega) (by omega)]
    refine ⟨fun z => absurd z q, fun _ => hbad q σ5 (fun o k a b => ?_) f7 (by rw [e5, su_at])⟩
    rw [e5, su_ko _ _ (by omega), e3, su_ko _ _ (by omega)]
    exact hf o k (by omega)
  · rw [w32_id (by omega) (by omega)] at q
    obtain ⟨hI1, hl1, hb1⟩ := hf.I hI
    have hN1 : NmI σ1 14 12 8 := by
      obtain ⟨h0, h1, h2, h3, h4⟩ := hN
      exact ⟨by rw [hf 14 0 (by omega)]; exact h0, by rw [hf 14 3 (by omega)]; exact h1, by rw [hf 14 3 (by omega)]; exact h2, fun k => by rw [hf 16 k (by omega)]; exact h3 k, fun k => by rw [hf 15 k (by omega)]; exact h4 k⟩
    refine sp_take hI1 hN1 (by rw [hb1, hl1]; exact q) (fun σ2 hsf hN2 hc hS => ?_)
    rw [hb1, hl1] at hc hS
    intro σ3 e3 x4 e4 σ5 e5
    have f7 : σ5 0 7 = 0 := by rw [e5, su_ko _ _ (by omega), e3, su_at]; exact q
    rw [f7]
    refine ⟨fun _ => ?_, fun z => absurd w32_0 z⟩
    unfold wp_X8_forgetReading
    intro σ6 e6 σ7 e7 σ8 e8
    have fr : ∀ o k, o ≠ 1 → ¬ (o = 0 ∧ (k = 7 ∨ k = 9)) → ¬ (o = 23 ∧ k = 0) → ¬ (o = 26 ∧ k = 0) → σ8 o k = σ2 o k := fun o k a b c d => by
      rw [e8, su_ko _ _ (by omega), e7, su_ko _ _ (by omega), e6, su_ko _ _ (by omega), e5, su_ko _ _ (by omega), e3, su_ko _ _ (by omega)]
    have h143 : σ8 14 3 = (sEnd (σ 2) (tlen σ) : Nat) := by rw [fr 14 3 (by omega) (by omega) (by omega) (by omega)]; exact hc
    rw [h143]
    refine hgood q σ8 (fun o k a b c d f g i => ?_) ?_ ?_ ?_ ?_ ?_ ?_ h143 ?_
    · rw [fr o k a f g i, hsf o k b c d (by omega)]; exact hf o k (by omega)
    · rw [e8, su_ko _ _ (by omega), e7, su_ko _ _ (by omega), e6, su_ko _ _ (by omega)]; exact f7
    · rw [e8, su_ko _ _ (by omega), e7, su_ko _ _ (by omega), e6, su_ko _ _ (by omega), e5, su_at]
    · rw [e8, su_ko _ _ (by omega), e7, su_ko _ _ (by omega), e6, su_at]
    · rw [e8, su_ko _ _ (by omega), e7, su_at]
    · rw [e8, su_at]
    · obtain ⟨h0, h1, h2, h3, h4⟩ := hN2
      exact ⟨by rw [fr 14 0 (by omega) (by omega) (by omega) (by omega)]; exact h0, by rw [fr 14 3 (by omega) (by omega) (by omega) (by omega)]; exact h1, by rw [fr 14 3 (by omega) (by omega) (by omega) (by omega)]; exact h2, fun k => by rw [fr 16 k (by omega) (by omega) (by omega) (by omega)]; exact h3 k, fun k => by rw [fr 15 k (by omega) (by omega) (by omega) (by omega)]; exact h4 k⟩
    · intro i hi
      exact ⟨by rw [fr 16 i (by omega) (by omega) (by omega) (by omega)]; exact (hS i hi).1, fun x hx => by rw [fr 15 _ (by omega) (by omega) (by omega) (by omega)]; exact (hS i hi).2 x hx⟩
