/-! pure: names of the class and of the reference are the same -/
def RNm (σ τ : St) (o w F L T : Nat) : Prop := σ o 3 = τ 0 F ∧ ∀ k : Nat, (k : Int) < σ o 3 → σ (o + 2) k = τ L k ∧ ∀ i : Nat, (i : Int) < σ (o + 2) k → σ (o + 1) (w * k + i) = τ T (w * k + i)
theorem RN_find {σ τ : St} {o w F L T cap s e : Nat} (hR : RNm σ τ o w F L T) (hN : NmI σ o w cap) (hb : ∀ x, x < e - s → σ 2 (s + x) = τ 1 (s + x)) : fdN σ o w s e = fndN (τ L) (τ T) (τ 1) w (τ 0 F).toNat s e := by
  have h3 := hN.2.1
  unfold fdN fndN
  rw [← hR.1]
  refine fndF_congr _ _ (fun k a b => ?_)
  obtain ⟨r1, r2⟩ := hR.2 k (by omega)
  constructor
  · rintro ⟨q1, q2⟩
    exact ⟨by rw [← r1]; exact q1, fun i hi => by rw [← r2 i (by omega), q2 i hi]; exact hb i hi⟩
  · rintro ⟨q1, q2⟩
    rw [← r1] at q1
    exact ⟨q1, fun i hi => by rw [r2 i (by omega), q2 i hi]; exact (hb i hi).symm⟩
theorem RN_add {σ τ τ' : St} {o w F L T cap s e cnt : Nat} (hR : RNm σ τ o w F L T) (hN : NmI σ o w cap) (hc : σ o 3 = (cnt : Int)) (ho : o ≠ 2 ∧ o + 1 ≠ 2 ∧ o + 2 ≠ 2) (hb : ∀ x, x < e - s → σ 2 (s + x) = τ 1 (s + x)) (hes : e - s ≤ w)
    (a1 : τ' 0 F = ((cnt + 1 : Nat) : Int)) (a2 : ∀ k, k ≠ cnt → τ' L k = τ L k) (a3 : τ' L cnt = ((e - s : Nat) : Int)) (a4 : ∀ i, i < w * cnt → τ' T i = τ T i) (a5 : ∀ i, i < e - s → τ' T (w * cnt + i) = τ 1 (s + i)) : RNm (addN σ o 2 w s e) τ' o w F L T := by
  have hcn : (σ o 3).toNat = cnt := by omega
  refine ⟨by rw [addN_sz, a1, hc]; omega, fun k hk => ?_⟩
  rw [addN_sz, hc] at hk
  rw [addN_len, hcn]
  by_cases e1 : k = cnt
  · subst e1
    rw [if_pos rfl]
    refine ⟨a3.symm, fun i hi => ?_⟩
    rw [addN_let, hcn, if_pos (by omega), a5 i (by omega), show w * k + i - w * k = i by omega]
    exact hb i (by omega)
  · rw [if_neg e1, a2 k e1]
    obtain ⟨r1, r2⟩ := hR.2 k (by omega)
    refine ⟨r1, fun i hi => ?_⟩
    have hw := (hN.2.2.2.1 k).2
    have hlt : w * k + i < w * cnt := by
      have : w * (k + 1) ≤ w * cnt := Nat.mul_le_mul (Nat.le_refl w) (by omega)
      rw [Nat.mul_add, Nat.mul_one] at this
      omega
    rw [addN_let, hcn, if_neg (by omega), a4 _ hlt]
    exact r2 i hi
theorem RN_of {σ τ σ' τ' : St} {o w F L T : Nat} (hR : RNm σ τ o w F L T) (h3 : σ' o 3 = σ o 3) (h1 : ∀ k, σ' (o + 1) k = σ (o + 1) k) (h2 : ∀ k, σ' (o + 2) k = σ (o + 2) k) (f : τ' 0 F = τ 0 F) (l : ∀ k, τ' L k = τ L k) (m : ∀ k, τ' T k = τ T k) : RNm σ' τ' o w F L T := by
  refine ⟨by rw [h3, f]; exact hR.1, fun k hk => ?_⟩
  rw [h3] at hk
  obtain ⟨r1, r2⟩ := hR.2 k hk
  rw [h2, l]
  exact ⟨r1, fun i hi => by rw [h1, m]; exact r2 i hi⟩
/-- the bytes of a token, raw and not -/
theorem tk_label {b : Nat → Int} {len p k : Nat} (h : tkK b len p = 2) (h1 : tkS b len p ≤ k) (h2 : k < tkE b len p) : isLb (b k) = true := by
  obtain ⟨a1, a2, a3⟩ := tkE_l h
  by_cases e : k = tkS b len p
  · rw [e]; unfold isLb; rw [a2]; rfl
  · rw [a3] at h2
    exact runTo_all _ _ rfl k (by omega) h2
theorem isLb_r {c : Int} (h : isLb c = true) : 48 ≤ c ∧ c ≤ 90 := by
  unfold isLb isGr isDg at h
  rcases Bool.or_eq_true_iff.mp h with q | q
  · have := of_decide_eq_true q; omega
  · have := of_decide_eq_true q; omega
/-- tokens depend on the bytes before the end alone -/
theorem runTo_c {f : Int → Bool} {b b' : Nat → Int} {len : Nat} (h : ∀ k, k < len → b k = b' k) : ∀ (m p : Nat), len - p = m → runTo f b len p = runTo f b' len p := by
  intro m
  induction m with
  | zero => intro p hm; rw [runTo_stop (fun q => by omega), runTo_stop (fun q => by omega)]
  | succ m ih =>
    intro p hm
    cases hf : f (b p) with
    | true =>
      have h2 : f (b' p) = true := by rw [← h p (by omega)]; exact hf
      exact (runTo_step (by omega) hf).trans ((ih (p + 1) (by omega)).trans (runTo_step (b := b') (by omega) h2).symm)
    | false => rw [runTo_stop (fun _ => hf), runTo_stop (fun q => by rw [← h p q]; exact hf)]
theorem tk_c {b b' : Nat → Int} {len p : Nat} (h : ∀ k, k < len → b k = b' k) : tkS b len p = tkS b' len p ∧ tkK b len p = tkK b' len p ∧ tkE b len p = tkE b' len p := by
  have hs : tkS b len p = tkS b' len p := runTo_c h _ p rfl
  refine ⟨hs, ?_, ?_⟩
  · unfold tkK
    simp only [hs]
    by_cases q : len ≤ tkS b' len p
    · rw [if_pos q, if_pos q]
    · rw [if_neg q, if_neg q, h _ (by omega), runTo_c h _ (tkS b' len p + 1) rfl, runTo_c h _ (tkS b' len p + 1) rfl]
  · unfold tkE
    simp only [hs]
    by_cases q : len ≤ tkS b' len p
    · rw [if_pos q, if_pos q]
    · rw [if_neg q, if_neg q, h _ (by omega), runTo_c h _ (tkS b' len p + 1) rfl, runTo_c h _ (tkS b' len p + 1) rfl]
theorem pN_c {b b' : Nat → Int} {len : Nat} (h : ∀ k, k < len → b k = b' k) : ∀ j, pN b len j = pN b' len j := by
  intro j
  induction j with
  | zero => rfl
  | succ j ih =>
    show tkE b len (pN b len j) = tkE b' len (pN b' len j)
    rw [ih]
    exact (tk_c h).2.2
