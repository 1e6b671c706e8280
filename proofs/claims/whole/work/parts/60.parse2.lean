noncomputable def kindC (σ : St) (K : Int) (s : Nat) : Int := if K = 4 ∧ (σ 2 s = 40 ∨ σ 2 s = 33 ∨ σ 2 s = 42 ∨ σ 2 s = 43 ∨ σ 2 s = 45) then 0 else 2
noncomputable def kindS (σ : St) (t n : Nat) (K : Int) (s : Nat) : St := if K = 4 then (if σ 2 s = 40 then openS σ t n else if σ 2 s = 33 then leafS σ t n 1 (σ 12 6) else if σ 2 s = 42 then leafS (footS σ) t n 2 (σ 12 6) else if σ 2 s = 43 then su (su σ 12 8 1) 12 4 2 else if σ 2 s = 45 then su (su σ 12 8 2) 12 4 2 else σ) else σ
theorem footS_fr (σ : St) {o k : Nat} (h : ¬ (o = 12 ∧ (k = 9 ∨ k = 10 ∨ k = 11))) : footS σ o k = σ o k := by
  unfold footS
  split
  · rw [su_ko _ _ (by omega), su_ko _ _ (by omega), su_ko _ _ (by omega)]
  · rw [su_ko _ _ (by omega)]
theorem sp_takeKind {Q : Int → St → Prop} {σ : St} {t n s e : Nat} {K : Int} (hP : PI σ t n) (hT : Tk σ K s e) (hn : n < 12) (h : Q (kindC σ K s) (kindS σ t n K s)) : wp_X5_takeKind Q σ := by
  have hT0 := hT
  obtain ⟨hI, hN4, hN7, h34, ht, hsz, hn12, hp, hpar, hst, hst2, hst3, hfe, hmk⟩ := hP
  unfold kindC kindS at h
  unfold wp_X5_takeKind
  refine sp_isAt hI hT0 (by omega) ?_
  rw [w32_bI]
  by_cases c1 : K = 4 ∧ σ 2 s = 40
  · rw [bI_t c1]
    refine ⟨fun z => absurd z (by decide), fun _ => ?_⟩
    rw [if_pos ⟨c1.1, Or.inl c1.2⟩, if_pos c1.1, if_pos c1.2] at h
    exact sp_openParts h34 ht hn hsz (by omega) h
  · rw [bI_f c1]
    refine ⟨fun _ => ?_, fun z => absurd rfl z⟩
    refine sp_isAt hI hT0 (by omega) ?_
    rw [w32_bI]
    by_cases c2 : K = 4 ∧ σ 2 s = 33
    · rw [bI_t c2]
      refine ⟨fun z => absurd z (by decide), fun _ => ?_⟩
      rw [if_pos ⟨c2.1, Or.inr (Or.inl c2.2)⟩, if_pos c2.1, if_neg (by omega), if_pos c2.2] at h
      exact sp_addLeaf h34 ht hn hsz (by omega) (by omega) h
    · rw [bI_f c2]
      refine ⟨fun _ => ?_, fun z => absurd rfl z⟩
      refine sp_isAt hI hT0 (by omega) ?_
      rw [w32_bI]
      by_cases c3 : K = 4 ∧ σ 2 s = 42
      · rw [bI_t c3]
        refine ⟨fun z => absurd z (by decide), fun _ => ?_⟩
        rw [if_pos ⟨c3.1, Or.inr (Or.inr (Or.inl c3.2))⟩, if_pos c3.1, if_neg (by omega), if_neg (by omega), if_pos c3.2] at h
        refine sp_noteFoot (by omega) ?_
        rw [footS_fr σ (show ¬ (12 = 12 ∧ (6 = 9 ∨ 6 = 10 ∨ 6 = 11)) by omega)]
        exact sp_addLeaf (t := t) (n := n) (by rw [footS_fr _ (by omega)]; exact h34) ht hn (by rw [footS_fr _ (by omega)]; exact hsz) (by omega) (by rw [footS_fr _ (by omega)]; omega) h
      · rw [bI_f c3]
        refine ⟨fun _ => ?_, fun z => absurd rfl z⟩
        refine sp_isAt hI hT0 (by omega) ?_
        rw [w32_bI]
        by_cases c4 : K = 4 ∧ σ 2 s = 43
        · rw [bI_t c4]
          refine ⟨fun z => absurd z (by decide), fun _ σ1 e1 σ2 e2 => ?_⟩
          rw [if_pos ⟨c4.1, Or.inr (Or.inr (Or.inr (Or.inl c4.2)))⟩, if_pos c4.1, if_neg (by omega), if_neg (by omega), if_neg (by omega), if_pos c4.2] at h
          rw [e2, e1]; exact h
        · rw [bI_f c4]
          refine ⟨fun _ => ?_, fun z => absurd rfl z⟩
          refine sp_isAt hI hT0 (by omega) ?_
          rw [w32_bI]
          by_cases c5 : K = 4 ∧ σ 2 s = 45
          · rw [bI_t c5]
            refine ⟨fun z => absurd z (by decide), fun _ σ1 e1 σ2 e2 => ?_⟩
            rw [if_pos ⟨c5.1, Or.inr (Or.inr (Or.inr (Or.inr c5.2)))⟩, if_pos c5.1, if_neg (by omega), if_neg (by omega), if_neg (by omega), if_neg (by omega), if_pos c5.2] at h
            rw [e2, e1]; exact h
          · rw [bI_f c5]
            refine ⟨fun _ => ?_, fun z => absurd rfl z⟩
            rw [if_neg (by omega)] at h
            by_cases hK : K = 4
            · rw [if_pos hK, if_neg (by omega), if_neg (by omega), if_neg (by omega), if_neg (by omega), if_neg (by omega)] at h; exact h
            · rw [if_neg hK] at h; exact h
noncomputable def tokC (σ : St) (n : Nat) (K : Int) (s e : Nat) : Int := if σ 12 4 = 0 then nodeC σ n K s e else if σ 12 4 = 1 then kindC σ K s else if σ 12 4 = 2 then (if K = 4 ∧ σ 2 s = 40 then 0 else 2) else if σ 12 4 = 3 then (if K = 4 ∧ σ 2 s = 41 then 0 else nodeC σ n K s e) else 2
noncomputable def tokS (σ : St) (t n : Nat) (K : Int) (s e : Nat) : St := if σ 12 4 = 0 then nodeS σ t n K s e else if σ 12 4 = 1 then kindS σ t n K s else if σ 12 4 = 2 then (if K = 4 ∧ σ 2 s = 40 then openS σ t n else σ) else if σ 12 4 = 3 then (if K = 4 ∧ σ 2 s = 41 then closeS σ t else nodeS σ t n K s e) else σ
theorem sp_takeToken {Q : Int → St → Prop} {σ : St} {t n s e : Nat} {K : Int} (hP : PI σ t n) (hT : Tk σ K s e) (h : Q (tokC σ n K s e) (tokS σ t n K s e)) : wp_X5_takeToken Q σ := by
  have hP0 := hP
  obtain ⟨hI, hN4, hN7, h34, ht, hsz, hn12, hp, hpar, hst, hst2, hst3, hfe, hmk⟩ := hP
  unfold tokC tokS at h
  unfold wp_X5_takeToken
  rw [w32_id (show -2147483648 ≤ σ 12 4 by omega) (by omega)]
  refine ⟨fun q => ?_, fun q => ?_, fun q => ?_, fun q => ?_, fun q => ?_⟩
  · rw [if_pos q, if_pos q] at h
    exact sp_takeNode hP0 hT h
  · rw [if_neg (show ¬ σ 12 4 = 0 by omega), if_pos q, if_neg (show ¬ σ 12 4 = 0 by omega), if_pos q] at h
    exact sp_takeKind hP0 hT (hst2 (Or.inl q)) h
  · rw [if_neg (show ¬ σ 12 4 = 0 by omega), if_neg (show ¬ σ 12 4 = 1 by omega), if_pos q, if_neg (show ¬ σ 12 4 = 0 by omega), if_neg (show ¬ σ 12 4 = 1 by omega), if_pos q] at h
    refine sp_isAt hI hT (by omega) ?_
    rw [w32_bI]
    by_cases c : K = 4 ∧ σ 2 s = 40
    · rw [bI_t c]
      rw [if_pos c, if_pos c] at h
      exact ⟨fun z => absurd z (by decide), fun _ => sp_openParts h34 ht (hst2 (Or.inr q)) hsz (by omega) h⟩
    · rw [bI_f c]
      rw [if_neg c, if_neg c] at h
      exact ⟨fun _ => h, fun z => absurd rfl z⟩
  · rw [if_neg (show ¬ σ 12 4 = 0 by omega), if_neg (show ¬ σ 12 4 = 1 by omega), if_neg (show ¬ σ 12 4 = 2 by omega), if_pos q, if_neg (show ¬ σ 12 4 = 0 by omega), if_neg (show ¬ σ 12 4 = 1 by omega), if_neg (show ¬ σ 12 4 = 2 by omega), if_pos q] at h
    refine sp_isAt hI hT (by omega) ?_
    rw [w32_bI]
    have h5 := hst3 q
    by_cases c : K = 4 ∧ σ 2 s = 41
    · rw [bI_t c]
      rw [if_pos c, if_pos c] at h
      have hpx := hpar (σ 12 5).toNat (by omega)
      exact ⟨fun z => absurd z (by decide), fun _ => sp_closeParts (n := n) h34 ht hn12 (by omega) (by omega) h⟩
    · rw [bI_f c]
      rw [if_neg c, if_neg c] at h
      exact ⟨fun _ => sp_takeNode hP0 hT h, fun z => absurd rfl z⟩
  · rw [if_neg (show ¬ σ 12 4 = 0 by omega), if_neg (show ¬ σ 12 4 = 1 by omega), if_neg (show ¬ σ 12 4 = 2 by omega), if_neg (show ¬ σ 12 4 = 3 by omega), if_neg (show ¬ σ 12 4 = 0 by omega), if_neg (show ¬ σ 12 4 = 1 by omega), if_neg (show ¬ σ 12 4 = 2 by omega), if_neg (show ¬ σ 12 4 = 3 by omega)] at h
    exact h
/-- nodes of tree t in σ' -/
def nN (σ : St) (t : Nat) : Nat := (σ 10 t).toNat
theorem NmI_of {σ σ' : St} {o w cap : Nat} (h : NmI σ o w cap) (h0 : σ' o 0 = σ o 0) (h3 : σ' o 3 = σ o 3) (h1 : ∀ k, σ' (o + 1) k = σ (o + 1) k) (h2 : ∀ k, σ' (o + 2) k = σ (o + 2) k) : NmI σ' o w cap := by
  obtain ⟨a, b, c, d, e⟩ := h
  exact ⟨by rw [h0]; exact a, by rw [h3]; exact b, by rw [h3]; exact c, fun k => by rw [h2]; exact d k, fun k => by rw [h1]; exact e k⟩
theorem NmI_tn {σ : St} {o w cap s e : Nat} (h : NmI σ o w cap) (hes : e - s ≤ w) (ha : ∀ k, 0 ≤ σ 2 k ∧ σ 2 k ≤ 255) : NmI (tnS σ o w cap s e) o w cap := by
  have h2 := h.2.2.1
  unfold tnS
  split
  · exact h
  · split
    · exact h
    · exact NmI_add h (by omega) hes ha
/-- parts of PI that the parser's steps keep -/
theorem PI_lab {σ : St} {t n s e : Nat} (hP : PI σ t n) (hn : n < 12) (hes : e - s ≤ 8) (hr : tnR σ 4 8 16 s e ≠ -1) : PI (labS σ s e) t n := by
  obtain ⟨hI, hN4, hN7, h34, ht, hsz, hn12, hp, hpar, hst, hst2, hst3, hfe, hmk⟩ := hP
  have g : ∀ x k, ¬ (x = 12 ∧ (k = 4 ∨ k = 6 ∨ k = 7 ∨ k = 8)) → ¬ (x = 4 ∧ k = 3) → x ≠ 5 → x ≠ 6 → labS σ s e x k = σ x k := fun x k a b c d => by
    unfold labS
    rw [su_ko _ _ (by omega), su_ko _ _ (by omega), su_ko _ _ (by omega), su_ko _ _ (by omega), tnS_fr _ (by omega) (by omega) (by omega)]
  have g2 : ∀ x k, x ≠ 12 → labS σ s e x k = tnS σ 4 8 16 s e x k := fun x k a => by
    unfold labS
    rw [su_ko _ _ (by omega), su_ko _ _ (by omega), su_ko _ _ (by omega), su_ko _ _ (by omega)]
  have gnd : ∀ x w, nd (labS σ s e) t x w = nd σ t x w := fun x w => g 11 _ (by omega) (by omega) (by omega) (by omega)
  have e4 : labS σ s e 12 4 = 1 := by unfold labS; rw [su_at]
  have e8 : labS σ s e 12 8 = 0 := by unfold labS; rw [su_ko _ _ (by omega), su_at]
  refine ⟨TpI_of hI (g 1 1 (by omega) (by omega) (by omega) (by omega)) (fun k => g 2 k (by omega) (by omega) (by omega) (by omega)), NmI_of (NmI_tn hN4 hes hI.2.2) (g2 4 0 (by omega)) (g2 4 3 (by omega)) (fun k => g2 5 k (by omega)) (fun k => g2 6 k (by omega)), NmI_of hN7 (g 7 0 (by omega) (by omega) (by omega) (by omega)) (g 7 3 (by omega) (by omega) (by omega) (by omega)) (fun k => g 8 k (by omega) (by omega) (by omega) (by omega)) (fun k => g 9 k (by omega) (by omega) (by omega) (by omega)), by rw [g 3 4 (by omega) (by omega) (by omega) (by omega)]; exact h34, ht, by rw [g 10 t (by omega) (by omega) (by omega) (by omega)]; exact hsz, hn12, by rw [g 12 5 (by omega) (by omega) (by omega) (by omega)]; exact hp, fun x hx => by rw [gnd]; exact hpar x hx, by rw [e4]; omega, fun _ => hn, fun q => by rw [e4] at q; omega, by rw [g 12 9 (by omega) (by omega) (by omega) (by omega)]; exact hfe, by rw [e8]; omega⟩
theorem PI_leaf {σ : St} {t n : Nat} {k nme : Int} {hfe2 : 0 ≤ σ 12 9 ∧ σ 12 9 ≤ ((n + 1 : Nat) : Int)} (hP : TpI σ ∧ NmI σ 4 8 16 ∧ NmI σ 7 12 32 ∧ σ 3 4 = (t : Int) ∧ t ≤ 16 ∧ σ 10 t = (n : Int) ∧ (-1 ≤ σ 12 5 ∧ σ 12 5 < (n : Int)) ∧ (∀ x, x < n → -1 ≤ nd σ t x 2 ∧ nd σ t x 2 < (x : Int)) ∧ (0 ≤ σ 12 8 ∧ σ 12 8 ≤ 2)) (hn : n < 12) : PI (leafS σ t n k nme) t (n + 1) := by
  obtain ⟨hI, hN4, hN7, h34, ht, hsz, hp, hpar, hmk⟩ := hP
  have g : ∀ x i, x ≠ 11 → ¬ (x = 10 ∧ i = t) → ¬ (x = 12 ∧ i = 4) → leafS σ t n k nme x i = σ x i := fun x i a b c => by
    unfold leafS
    rw [su_ko _ _ (by omega), aRow_fr _ _ _ _ _ _ (by omega) b]
  have gnd : ∀ x w, nd (leafS σ t n k nme) t x w = nd (aRow σ t n k nme (σ 12 5)) t x w := fun x w => by unfold leafS; exact nd_su _ _ (by omega)
  have e4 : leafS σ t n k nme 12 4 = if σ 12 5 = -1 then 4 else 3 := by unfold leafS; rw [su_at]
  have e10 : leafS σ t n k nme 10 t = ((n + 1 : Nat) : Int) := by unfold leafS; rw [su_ko _ _ (by omega), aRow_sz]
  refine ⟨TpI_of hI (g 1 1 (by omega) (by omega) (by omega)) (fun k => g 2 k (by omega) (by omega) (by omega)), NmI_of hN4 (g 4 0 (by omega) (by omega) (by omega)) (g 4 3 (by omega) (by omega) (by omega)) (fun k => g 5 k (by omega) (by omega) (by omega)) (fun k => g 6 k (by omega) (by omega) (by omega)), NmI_of hN7 (g 7 0 (by omega) (by omega) (by omega)) (g 7 3 (by omega) (by omega) (by omega)) (fun k => g 8 k (by omega) (by omega) (by omega)) (fun k => g 9 k (by omega) (by omega) (by omega)), by rw [g 3 4 (by omega) (by omega) (by omega)]; exact h34, ht, e10, by omega, by rw [g 12 5 (by omega) (by omega) (by omega)]; omega, fun x hx => ?_, ?_, fun q => ?_, fun q => ?_, by rw [g 12 9 (by omega) (by omega) (by omega)]; exact hfe2, by rw [g 12 8 (by omega) (by omega) (by omega)]; exact hmk⟩
  · rw [gnd, aRow_nd σ k nme _ hn (by omega) (by omega) hp]
    by_cases e : x = n
    · rw [if_pos ⟨rfl, e⟩, if_neg (by omega), if_neg (by omega), if_pos rfl]; omega
    · rw [if_neg (by omega), if_neg (by omega)]; exact hpar x (by omega)
  · rw [e4]; split <;> omega
  · rw [e4] at q; split at q <;> omega
  · rw [e4] at q
    rw [g 12 5 (by omega) (by omega) (by omega)]
    intro z
    rw [if_pos z] at q
    omega
