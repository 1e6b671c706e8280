theorem PK_tf {σ σ' : St} {t n : Nat} (h : PK σ t n) (hf : ∀ o k, o ≠ 1 → ¬ (o = 12 ∧ k < 2) → σ' o k = σ o k) : PK σ' t n := by
  obtain ⟨hJ, hr0, hw, hw2, hl, f0, f1⟩ := h
  have gnd : ∀ x w, nd σ' t x w = nd σ t x w := fun x w => hf 11 _ (by omega) (by omega)
  unfold PK
  rw [hf 12 4 (by omega) (by omega), hf 12 5 (by omega) (by omega), hf 12 12 (by omega) (by omega), hf 12 9 (by omega) (by omega), hf 12 6 (by omega) (by omega), hf 12 11 (by omega) (by omega), hf 7 3 (by omega) (by omega), hf 4 3 (by omega) (by omega)]
  simp only [gnd]
  exact ⟨hJ, hr0, hw, hw2, hl, f0, f1⟩
theorem PK_tok {σ : St} {t n s e : Nat} {K : Int} (hP : PI σ t n) (hK : PK σ t n) (hT : Tk σ K s e) (hc : tokC σ n K s e = 0) : ∃ n', PI (tokS σ t n K s e) t n' ∧ PK (tokS σ t n K s e) t n' ∧ n ≤ n' := by
  obtain ⟨n', hP', hn1, hn2⟩ := PI_tok hP hT hc
  refine ⟨n', hP', ?_, hn1⟩
  have hsz' : tokS σ t n K s e 10 t = (n' : Int) := hP'.2.2.2.2.2.1
  have hcur := hP.2.2.2.2.2.2.2.1
  have hst2 := hP.2.2.2.2.2.2.2.2.2.2.1
  have hmk := hP.2.2.2.2.2.2.2.2.2.2.2.2.2
  have hfe := hP.2.2.2.2.2.2.2.2.2.2.2.2.1
  have hsz := hP.2.2.2.2.2.1
  have hn12 := hP.2.2.2.2.2.2.1
  have szL : ∀ (σ1 : St) (k nme : Int), leafS σ1 t n k nme 10 t = ((n + 1 : Nat) : Int) := fun σ1 k nme => by unfold leafS; rw [su_ko _ _ (by omega), aRow_sz]
  have szO : openS σ t n 10 t = ((n + 1 : Nat) : Int) := by unfold openS; rw [su_ko _ _ (by omega), sn_fr _ _ (by omega), su_ko _ _ (by omega), aRow_sz]
  have node : (σ 12 4 = 0 ∨ σ 12 4 = 3) → nodeC σ n K s e = 0 → nodeS σ t n K s e 10 t = (n' : Int) → PK (nodeS σ t n K s e) t n' := by
    intro h03 h hz
    have h4 : σ 12 4 ≠ 4 := by rcases h03 with q | q <;> rw [q] <;> decide
    unfold nodeS at hz ⊢
    rw [if_pos h] at hz ⊢
    unfold nodeC at h
    by_cases k2 : K = 2
    · rw [if_pos k2] at h hz ⊢
      by_cases q : n < 12
      · rw [if_pos q] at h
        by_cases r : tnR σ 4 8 16 s e = -1
        · rw [if_pos r] at h; exact absurd h (by decide)
        · have e1 : labS σ s e 10 t = (n : Int) := by
            unfold labS
            rw [su_ko _ _ (by omega), su_ko _ _ (by omega), su_ko _ _ (by omega), su_ko _ _ (by omega), tnS_fr _ (by omega) (by omega) (by omega)]; exact hsz
          rw [e1] at hz
          rw [show n' = n by omega]
          exact PK_lab hP hK h03 r
      · rw [if_neg q] at h; exact absurd h (by decide)
    · rw [if_neg k2] at h hz ⊢
      by_cases k3 : K = 3
      · rw [if_pos k3] at h
        by_cases q : n < 12
        · rw [if_pos q] at h
          by_cases r : tnR σ 7 12 32 s e = -1
          · rw [if_pos r] at h; exact absurd h (by decide)
          · unfold wordS at hz ⊢
            rw [szL] at hz
            rw [show n' = n + 1 by omega]
            have g : ∀ x k, ¬ (x = 12 ∧ k = 12) → ¬ (x = 7 ∧ k = 3) → x ≠ 8 → x ≠ 9 → su (tnS σ 7 12 32 s e) 12 12 1 x k = σ x k := fun x k a b c d => by rw [su_ko _ _ (by omega), tnS_fr _ (by omega) (by omega) (by omega)]
            obtain ⟨s1, s2⟩ := tnS_sz (s := s) (e := e) hP.2.2.1
            have e73 : su (tnS σ 7 12 32 s e) 12 12 1 7 3 = tnS σ 7 12 32 s e 7 3 := by rw [su_ko _ _ (by omega)]
            refine PK_leaf q hK hcur h4 (Or.inr (Or.inr rfl)) (fun x w => g 11 _ (by omega) (by omega) (by omega) (by omega)) (g 12 5 (by omega) (by omega) (by omega) (by omega)) (by rw [e73]; exact s1) (by rw [g 4 3 (by omega) (by omega) (by omega) (by omega)]; exact Int.le_refl _) ⟨(s2 r).1, fun _ => by rw [e73]; exact (s2 r).2, fun z => absurd rfl z⟩ ⟨fun _ => su_at _ _ _ _, fun z => absurd rfl z⟩ ⟨fun z => absurd z (by decide), fun _ => ⟨g 12 9 (by omega) (by omega) (by omega) (by omega), g 12 11 (by omega) (by omega) (by omega) (by omega)⟩⟩
        · rw [if_neg q] at h; exact absurd h (by decide)
      · rw [if_neg k3] at h; exact absurd h (by decide)
  unfold tokC at hc
  unfold tokS at hsz' ⊢
  by_cases s0 : σ 12 4 = 0
  · rw [if_pos s0] at hc hsz' ⊢
    exact node (Or.inl s0) hc hsz'
  rw [if_neg s0] at hc hsz' ⊢
  by_cases s1 : σ 12 4 = 1
  · rw [if_pos s1] at hc hsz' ⊢
    have hn := hst2 (Or.inl s1)
    have h4 : σ 12 4 ≠ 4 := by rw [s1]; decide
    have hl := hK.2.2.2.2.1 (Or.inl s1)
    unfold kindC at hc
    unfold kindS at hsz' ⊢
    by_cases q : K = 4 ∧ (σ 2 s = 40 ∨ σ 2 s = 33 ∨ σ 2 s = 42 ∨ σ 2 s = 43 ∨ σ 2 s = 45)
    · rw [if_pos q.1] at hsz' ⊢
      by_cases c1 : σ 2 s = 40
      · rw [if_pos c1] at hsz' ⊢
        rw [szO] at hsz'
        rw [show n' = n + 1 by omega]
        exact PK_open hn hK hcur (Or.inl s1) hmk
      rw [if_neg c1] at hsz' ⊢
      by_cases c2 : σ 2 s = 33
      · rw [if_pos c2] at hsz' ⊢
        rw [szL] at hsz'
        rw [show n' = n + 1 by omega]
        exact PK_leaf hn hK hcur h4 (Or.inl rfl) (fun _ _ => rfl) rfl (Int.le_refl _) (Int.le_refl _) ⟨hl.1, fun z => absurd z (by decide), fun _ => hl.2⟩ ⟨fun z => absurd z (by decide), fun _ => rfl⟩ ⟨fun z => absurd z (by decide), fun _ => ⟨rfl, rfl⟩⟩
      rw [if_neg c2] at hsz' ⊢
      by_cases c3 : σ 2 s = 42
      · rw [if_pos c3] at hsz' ⊢
        rw [szL] at hsz'
        rw [show n' = n + 1 by omega]
        have g : ∀ x k, ¬ (x = 12 ∧ (k = 9 ∨ k = 10 ∨ k = 11)) → footS σ x k = σ x k := fun x k a => footS_fr σ a
        have e9 : footS σ 12 9 = σ 12 9 + 1 := by
          unfold footS
          split
          · rw [su_ko _ _ (by omega), su_ko _ _ (by omega), su_at]
          · rw [su_at]
        have e11 : σ 12 9 = 0 → footS σ 12 11 = σ 12 6 := fun z => by
          unfold footS
          rw [if_pos (by rw [z]; decide), su_at]
        have hf9 : 1 ≤ footS σ 12 9 ∧ (footS σ 12 9 = 1 → σ 12 9 = 0 ∧ footS σ 12 11 = σ 12 6) := by
          refine ⟨by rw [e9]; omega, fun z => ?_⟩
          rw [e9] at z
          have z0 : σ 12 9 = 0 := by omega
          exact ⟨z0, e11 z0⟩
        exact PK_leaf hn hK hcur h4 (Or.inr (Or.inl rfl)) (fun x w => g 11 _ (by omega)) (g 12 5 (by omega)) (by rw [g 7 3 (by omega)]; exact Int.le_refl _) (by rw [g 4 3 (by omega)]; exact Int.le_refl _) ⟨hl.1, fun z => absurd z (by decide), fun _ => by rw [g 4 3 (by omega)]; exact hl.2⟩ ⟨fun z => absurd z (by decide), fun _ => g 12 12 (by omega)⟩ ⟨fun _ => hf9, fun z => absurd rfl z⟩
      rw [if_neg c3] at hsz' ⊢
      by_cases c4 : σ 2 s = 43
      · rw [if_pos c4] at hsz' ⊢
        rw [su_ko _ _ (by omega), su_ko _ _ (by omega), hsz] at hsz'
        rw [show n' = n by omega]
        exact PK_mark hK s1 1
      rw [if_neg c4] at hsz' ⊢
      by_cases c5 : σ 2 s = 45
      · rw [if_pos c5] at hsz' ⊢
        rw [su_ko _ _ (by omega), su_ko _ _ (by omega), hsz] at hsz'
        rw [show n' = n by omega]
        exact PK_mark hK s1 2
      exact absurd q.2 (by omega)
    · rw [if_neg q] at hc; exact absurd hc (by decide)
  rw [if_neg s1] at hc hsz' ⊢
  by_cases s2 : σ 12 4 = 2
  · rw [if_pos s2] at hc hsz' ⊢
    by_cases q : K = 4 ∧ σ 2 s = 40
    · rw [if_pos q] at hsz' ⊢
      rw [szO] at hsz'
      rw [show n' = n + 1 by omega]
      exact PK_open (hst2 (Or.inr s2)) hK hcur (Or.inr s2) hmk
    · rw [if_neg q] at hc; exact absurd hc (by decide)
  rw [if_neg s2] at hc hsz' ⊢
  by_cases s3 : σ 12 4 = 3
  · rw [if_pos s3] at hc hsz' ⊢
    by_cases q : K = 4 ∧ σ 2 s = 41
    · rw [if_pos q] at hsz' ⊢
      unfold closeS at hsz'
      rw [su_ko _ _ (by omega), su_ko _ _ (by omega), hsz] at hsz'
      rw [show n' = n by omega]
      exact PK_close hK s3
    · rw [if_neg q] at hc hsz' ⊢; exact node (Or.inr s3) hc hsz'
  rw [if_neg s3] at hc
  exact absurd hc (by decide)
/-- along the chain of states -/
theorem chain_inv {σ : St} {t n : Nat} (hP : PI σ t n) (hK : PK σ t n) (h14 : 0 ≤ σ 1 4) (hle : pOf σ ≤ tlen σ) : ∀ j, (∀ i, i < j → ¬ cdone (cN σ i) ∧ ctC (cN σ i) = 0) → ∃ n', PI (cN σ j) t n' ∧ PK (cN σ j) t n' ∧ 0 ≤ cN σ j 1 4 ∧ pOf (cN σ j) ≤ tlen (cN σ j) ∧ n ≤ n' := by
  intro j
  induction j with
  | zero => intro _; exact ⟨n, hP, hK, h14, hle, Nat.le_refl n⟩
  | succ j ih =>
    intro hch
    obtain ⟨n', a1, a2, a3, a4, a5⟩ := ih (fun i hi => hch i (by omega))
    obtain ⟨hnd, hz⟩ := hch j (by omega)
    have hI := a1.1
    have hT := Tk_ld hI a3 a4
    have hPl : PI (ld (cN σ j)) t n' := PI_tf a1 (Tf_tk _ _)
    have hKl : PK (ld (cN σ j)) t n' := PK_tf a2 (fun o k h1 _ => Tf_tk _ _ o k (by omega))
    have hto : tOf (cN σ j) = t := by unfold tOf; rw [a1.2.2.2.1]; omega
    have hno : nOf (cN σ j) = n' := by unfold nOf nN; rw [hto, a1.2.2.2.2.2.1]; omega
    have hK1 : Kc (cN σ j) ≠ 1 := by
      intro q
      unfold ctC at hz
      rw [if_pos q] at hz
      exact absurd hz (by decide)
    have hz2 : tokC (ld (cN σ j)) n' (Kc (cN σ j)) (Sc (cN σ j)) (Ec (cN σ j)) = 0 := by unfold ctC at hz; rw [if_neg hK1, hno] at hz; exact hz
    obtain ⟨n2, hP2, hK2, hn2⟩ := PK_tok hPl hKl hT hz2
    obtain ⟨c1, c2, c3, c4, c5⟩ := ctS_1 (cN σ j)
    have e : ctT (cN σ j) = tokS (ld (cN σ j)) t n' (Kc (cN σ j)) (Sc (cN σ j)) (Ec (cN σ j)) := by unfold ctT; rw [if_neg hK1, hto, hno]
    have hle2 := tkE_le (cN σ j 2) a4
    refine ⟨n2, ?_, ?_, ?_, ?_, by omega⟩
    · show PI (ctS (cN σ j)) t n2
      unfold ctS
      rw [e]
      exact PI_01 hP2
    · show PK (ctS (cN σ j)) t n2
      unfold ctS
      rw [e]
      exact PK_tf hK2 (fun o k h1 h2 => by rw [su_ko _ _ (by omega), su_ko _ _ (by omega)])
    · show 0 ≤ ctS (cN σ j) 1 4
      rw [c3]; omega
    · have : pOf (cN σ (j + 1)) = Ec (cN σ j) := by unfold pOf; show (ctS (cN σ j) 1 4).toNat = _; rw [c3]; omega
      rw [this, show tlen (cN σ (j + 1)) = tlen (cN σ j) from tlen_of c1]
      exact hle2
