/-! pure: fault, clear, sentence: both worlds -/
def R (σ τ : St) : Prop := ∃ N sz, RR σ τ N sz
theorem NmI_fr {σ σ' : St} {o w cap : Nat} (h : NmI σ o w cap) (e : ∀ x k, o ≤ x → x ≤ o + 2 → σ' x k = σ x k) : NmI σ' o w cap := NmI_of h (e _ _ (by omega) (by omega)) (e _ _ (by omega) (by omega)) (fun k => e _ _ (by omega) (by omega)) (fun k => e _ _ (by omega) (by omega))
theorem RN_fr {σ τ σ' τ' : St} {o w F L T : Nat} (h : RNm σ τ o w F L T) (e : ∀ x k, o ≤ x → x ≤ o + 2 → σ' x k = σ x k) (f : τ' 0 F = τ 0 F) (l : ∀ k, τ' L k = τ L k) (m : ∀ k, τ' T k = τ T k) : RNm σ' τ' o w F L T := RN_of h (e _ _ (by omega) (by omega)) (fun k => e _ _ (by omega) (by omega)) (fun k => e _ _ (by omega) (by omega)) f l m
theorem CB_fr {σ σ' : St} (h : CB σ) (e : ∀ x k, 19 ≤ x → x ≤ 22 → σ' x k = σ x k) : CB σ' := by
  intro k
  rw [e 19 k (by omega) (by omega), e 20 k (by omega) (by omega), e 21 k (by omega) (by omega), e 22 k (by omega) (by omega)]
  exact h k
theorem MB_fr {τ τ' : St} (h : MB τ) (e : ∀ x k, 21 ≤ x → x ≤ 22 → τ' x k = τ x k) : MB τ' := by
  intro k
  rw [e 21 k (by omega) (by omega), e 22 k (by omega) (by omega)]
  exact h k
theorem RR_sz {σ τ : St} {N : Nat} {sz : Nat → Nat} (h : RR σ τ N sz) : ∀ t, t < N → sz t ≤ 12 := fun t ht => (h.ft t ht).2.2.1
/-- cells that nobody sees -/
def dcC (o k : Nat) : Prop := (o = 1 ∧ k ≠ 1) ∨ (o = 12 ∧ k ≠ 8) ∨ o = 13 ∨ (o = 17 ∧ k ≠ 0) ∨ o = 25 ∨ o = 28 ∨ (o = 0 ∧ (k < 7 ∨ 9 < k))
def dcM (o k : Nat) : Prop := (o = 0 ∧ k ≠ 2 ∧ k ≠ 3 ∧ k ≠ 7 ∧ k ≠ 10 ∧ k ≠ 23 ∧ k ≠ 26 ∧ k ≠ 35 ∧ k ≠ 36 ∧ k ≠ 37 ∧ k ≠ 42 ∧ k ≠ 50) ∨ (24 ≤ o ∧ o ≤ 28)
theorem RR_f {σ τ σ' τ' : St} {N : Nat} {sz : Nat → Nat} (h : RR σ τ N sz) (hc : ∀ o k, ¬ dcC o k → σ' o k = σ o k) (hm : ∀ o k, ¬ dcM o k → τ' o k = τ o k) : RR σ' τ' N sz := by
  have f : ∀ o k, o ≠ 0 → o ≠ 1 → o ≠ 12 → o ≠ 13 → o ≠ 17 → o ≠ 25 → o ≠ 28 → σ' o k = σ o k := fun o k _ _ _ _ _ _ _ => hc o k (by unfold dcC; omega)
  have m : ∀ o k, o ≠ 0 → (o < 24 ∨ 28 < o) → τ' o k = τ o k := fun o k _ _ => hm o k (by unfold dcM; omega)
  have c7 := hc 0 7 (by unfold dcC; omega)
  have c8 := hc 0 8 (by unfold dcC; omega)
  have c9 := hc 0 9 (by unfold dcC; omega)
  have c11 := hc 1 1 (by unfold dcC; omega)
  have c128 := hc 12 8 (by unfold dcC; omega)
  have c17 := hc 17 0 (by unfold dcC; omega)
  have m2 := hm 0 2 (by unfold dcM; omega)
  have m3 := hm 0 3 (by unfold dcM; omega)
  have m7 := hm 0 7 (by unfold dcM; omega)
  have m10 := hm 0 10 (by unfold dcM; omega)
  have m23 := hm 0 23 (by unfold dcM; omega)
  have m26 := hm 0 26 (by unfold dcM; omega)
  have m35 := hm 0 35 (by unfold dcM; omega)
  have m36 := hm 0 36 (by unfold dcM; omega)
  have m37 := hm 0 37 (by unfold dcM; omega)
  have m42 := hm 0 42 (by unfold dcM; omega)
  have m50 := hm 0 50 (by unfold dcM; omega)
  have hnd : ∀ t x w, nd σ' t x w = nd σ t x w := fun t x w => f 11 _ (by omega) (by omega) (by omega) (by omega) (by omega) (by omega) (by omega)
  refine RR.mk' ?_ ?_ ?_ ?_ ?_ ?_ ?_ ?_ ?_ ?_ h.N16 ?_ ?_ (fun t ht => ?_) (fun t ht => ?_) ?_ ?_ ?_ ?_ ?_ ?_ ?_ ?_ ?_ ?_ ?_ ?_ ?_ ?_ ?_ ?_ ?_
  · refine ⟨by rw [c11]; exact h.tp.1, by rw [c11]; exact h.tp.2.1, fun k => by rw [f 2 k (by omega) (by omega) (by omega) (by omega) (by omega) (by omega) (by omega)]; exact h.tp.2.2 k⟩
  · exact ⟨by rw [m2]; exact h.tm.1, by rw [m2]; exact h.tm.2⟩
  · intro k; rw [m 1 k (by omega) (by omega)]; exact h.r1 k
  · rw [c11, m2]; exact h.len
  · intro k hk
    unfold tlen at hk
    rw [c11] at hk
    unfold bM
    rw [f 2 k (by omega) (by omega) (by omega) (by omega) (by omega) (by omega) (by omega), m 1 k (by omega) (by omega)]
    exact h.byt k hk
  · exact NmI_fr h.n4 (fun x k a b => f x k (by omega) (by omega) (by omega) (by omega) (by omega) (by omega) (by omega))
  · exact NmI_fr h.n7 (fun x k a b => f x k (by omega) (by omega) (by omega) (by omega) (by omega) (by omega) (by omega))
  · refine RNs_nw h.rn (fun x k a b => f x k (by omega) (by omega) (by omega) (by omega) (by omega) (by omega) (by omega)) (fun x k q => ?_)
    rcases q with q | ⟨q1, q2 | q2⟩
    · exact m x k (by omega) (by omega)
    · subst q1 q2; exact m7
    · subst q1 q2; exact m10
  · exact Mnm_nw h.mn (fun x k q => m x k (by omega) (by omega))
  · exact DW_fr h.dw (fun x k q => f x k (by omega) (by omega) (by omega) (by omega) (by omega) (by omega) (by omega))
  · rw [f 3 4 (by omega) (by omega) (by omega) (by omega) (by omega) (by omega) (by omega)]; exact h.c34
  · rw [m23]; exact h.c23
  · exact FT_fr (h.ft t ht) (f 10 t (by omega) (by omega) (by omega) (by omega) (by omega) (by omega) (by omega)) (fun x w _ _ => hnd t x w) (by rw [f 7 3 (by omega) (by omega) (by omega) (by omega) (by omega) (by omega) (by omega)]; exact Int.le_refl _) (by rw [f 4 3 (by omega) (by omega) (by omega) (by omega) (by omega) (by omega) (by omega)]; exact Int.le_refl _)
  · exact FR_fr (h.ft t ht).2.2.2.1.1 (RR_sz h t ht) (h.fr t ht) (fun x w _ _ => hnd t x w) (m 17 t (by omega) (by omega)) (fun o x a b _ => m o _ (by omega) (by omega))
  · rw [c128]; exact h.mk
  · exact NmI_fr h.n14 (fun x k a b => f x k (by omega) (by omega) (by omega) (by omega) (by omega) (by omega) (by omega))
  · exact RN_fr h.rs (fun x k a b => f x k (by omega) (by omega) (by omega) (by omega) (by omega) (by omega) (by omega)) m26 (fun k => m 19 k (by omega) (by omega)) (fun k => m 18 k (by omega) (by omega))
  · rw [c7, m3]; exact h.flt
  · rw [c9, m36]; exact h.wys
  · rw [c9]; exact h.wyr
  · rw [c9, m35]; exact h.wsr
  · exact CB_fr h.cb (fun x k a b => f x k (by omega) (by omega) (by omega) (by omega) (by omega) (by omega) (by omega))
  · exact MB_fr h.mb (fun x k a b => m x k (by omega) (by omega))
  · intro d hd; rw [f 18 d (by omega) (by omega) (by omega) (by omega) (by omega) (by omega) (by omega)]; exact h.sdr d hd
  · intro q
    rw [c9] at q
    exact RDY_fr (RR_sz h) (h.rdy q) c17 c8 c9 (fun t x w _ _ _ => hnd t x w) (fun o k a b => f o k (by omega) (by omega) (by omega) (by omega) (by omega) (by omega) (by omega)) m26 m37 (fun o k a b => m o k (by omega) (by omega))
  · rw [f 23 0 (by omega) (by omega) (by omega) (by omega) (by omega) (by omega) (by omega), m42]; exact h.us
  · rw [f 23 0 (by omega) (by omega) (by omega) (by omega) (by omega) (by omega) (by omega)]; exact h.usr
  · intro k hk
    rw [f 23 0 (by omega) (by omega) (by omega) (by omega) (by omega) (by omega) (by omega)] at hk
    rw [f 24 k (by omega) (by omega) (by omega) (by omega) (by omega) (by omega) (by omega), m 23 k (by omega) (by omega)]; exact h.usc k hk
  · rw [f 26 0 (by omega) (by omega) (by omega) (by omega) (by omega) (by omega) (by omega), m50]; exact h.ws
  · rw [f 26 0 (by omega) (by omega) (by omega) (by omega) (by omega) (by omega) (by omega)]; exact h.wsr2
  · intro k hk
    rw [f 26 0 (by omega) (by omega) (by omega) (by omega) (by omega) (by omega) (by omega)] at hk
    rw [f 27 k (by omega) (by omega) (by omega) (by omega) (by omega) (by omega) (by omega), m 29 k (by omega) (by omega)]; exact h.wsc k hk
theorem R_fault {σ τ : St} (h : R σ τ) : wp_X8_fault (fun r σ' => wp_X9_fault (fun r' τ' => r' = r ∧ R σ' τ') τ) σ := by
  obtain ⟨N, sz, h⟩ := h
  unfold wp_X8_fault wp_X9_fault
  intro σ1 e1
  refine ⟨by rw [e1, su_ko _ _ (by omega)]; exact h.flt.symm, N, sz, RR_f h (fun _ _ _ => rfl) (fun o k q => ?_)⟩
  rw [e1]
  exact su_ko _ _ (fun z => q (by unfold dcM; omega))
theorem R_clear {σ τ : St} (h : R σ τ) : wp_X8_clear (fun r σ' => wp_X9_clear (fun r' τ' => r' = r ∧ R σ' τ') τ) σ := by
  obtain ⟨N, sz, h⟩ := h
  unfold wp_X8_clear wp_X8_forgetReading
  intro x1 ex1 s1 e1 s2 e2 s3 e3 s4 e4 s5 e5 s6 e6
  unfold wp_X9_clear wp_X9_forget
  intro u1 g1 y1 ey1 u2 g2 u3 g3 u4 g4 u5 g5 u6 g6 u7 g7 u8 g8
  have f : ∀ o k, ¬ ((o = 3 ∧ k = 4) ∨ (o = 4 ∧ k = 3) ∨ (o = 7 ∧ k = 3) ∨ (o = 0 ∧ k = 9) ∨ (o = 23 ∧ k = 0) ∨ (o = 26 ∧ k = 0)) → s6 o k = σ o k := by
    intro o k q
    rw [e6, su_ko _ _ (by omega), e5, su_ko _ _ (by omega), e4, su_ko _ _ (by omega), e3, su_ko _ _ (by omega), e2, su_ko _ _ (by omega), e1, su_ko _ _ (by omega)]
  have m : ∀ o k, ¬ (o = 0 ∧ (k = 0 ∨ k = 23 ∨ k = 7 ∨ k = 10 ∨ k = 35 ∨ k = 36 ∨ k = 42 ∨ k = 50)) → u8 o k = τ o k := by
    intro o k q
    rw [g8, su_ko _ _ (by omega), g7, su_ko _ _ (by omega), g6, su_ko _ _ (by omega), g5, su_ko _ _ (by omega), g4, su_ko _ _ (by omega), g3, su_ko _ _ (by omega), g2, su_ko _ _ (by omega), g1, su_ko _ _ (by omega)]
  have v34 : s6 3 4 = 0 := by rw [e6, su_ko _ _ (by omega), e5, su_ko _ _ (by omega), e4, su_ko _ _ (by omega), e3, su_ko _ _ (by omega), e2, su_ko _ _ (by omega), e1, su_at]
  have v43 : s6 4 3 = 0 := by rw [e6, su_ko _ _ (by omega), e5, su_ko _ _ (by omega), e4, su_ko _ _ (by omega), e3, su_ko _ _ (by omega), e2, su_at]
  have v73 : s6 7 3 = 0 := by rw [e6, su_ko _ _ (by omega), e5, su_ko _ _ (by omega), e4, su_ko _ _ (by omega), e3, su_at]
  have v09 : s6 0 9 = -1 := by rw [e6, su_ko _ _ (by omega), e5, su_ko _ _ (by omega), e4, su_at]
  have v23 : s6 23 0 = 0 := by rw [e6, su_ko _ _ (by omega), e5, su_at]
  have v26 : s6 26 0 = 0 := by rw [e6, su_at]
  have w23 : u8 0 23 = 0 := by rw [g8, su_ko _ _ (by omega), g7, su_ko _ _ (by omega), g6, su_ko _ _ (by omega), g5, su_ko _ _ (by omega), g4, su_ko _ _ (by omega), g3, su_ko _ _ (by omega), g2, su_at]
  have w7 : u8 0 7 = 0 := by rw [g8, su_ko _ _ (by omega), g7, su_ko _ _ (by omega), g6, su_ko _ _ (by omega), g5, su_ko _ _ (by omega), g4, su_ko _ _ (by omega), g3, su_at]
  have w10 : u8 0 10 = 0 := by rw [g8, su_ko _ _ (by omega), g7, su_ko _ _ (by omega), g6, su_ko _ _ (by omega), g5, su_ko _ _ (by omega), g4, su_at]
  have w35 : u8 0 35 = 0 := by rw [g8, su_ko _ _ (by omega), g7, su_ko _ _ (by omega), g6, su_ko _ _ (by omega), g5, su_at]
  have w36 : u8 0 36 = -1 := by rw [g8, su_ko _ _ (by omega), g7, su_ko _ _ (by omega), g6, su_at]
  have w42 : u8 0 42 = 0 := by rw [g8, su_ko _ _ (by omega), g7, su_at]
  have w50 : u8 0 50 = 0 := by rw [g8, su_at]
  refine ⟨by rw [ey1, ex1, g1, su_ko _ _ (by omega), h.c23, h.c34], 0, sz, RR.mk' ?_ ?_ ?_ ?_ ?_ ?_ ?_ ?_ ?_ ?_ (by omega) v34 w23 (fun t ht => by omega) (fun t ht => by omega) ?_ ?_ ?_ ?_ ?_ ?_ ?_ ?_ ?_ ?_ ?_ ?_ ?_ ?_ ?_ ?_ ?_⟩
  · refine ⟨by rw [f 1 1 (by omega)]; exact h.tp.1, by rw [f 1 1 (by omega)]; exact h.tp.2.1, fun k => by rw [f 2 k (by omega)]; exact h.tp.2.2 k⟩
  · exact ⟨by rw [m 0 2 (by omega)]; exact h.tm.1, by rw [m 0 2 (by omega)]; exact h.tm.2⟩
  · intro k; rw [m 1 k (by omega)]; exact h.r1 k
  · rw [f 1 1 (by omega), m 0 2 (by omega)]; exact h.len
  · intro k hk
    unfold tlen at hk
    rw [f 1 1 (by omega)] at hk
    unfold bM
    rw [f 2 k (by omega), m 1 k (by omega)]
    exact h.byt k hk
  · refine ⟨by rw [f 4 0 (by omega)]; exact h.n4.1, by rw [v43]; omega, by rw [v43]; omega, fun k => by rw [f _ k (by omega)]; exact h.n4.2.2.2.1 k, fun k => by rw [f _ k (by omega)]; exact h.n4.2.2.2.2 k⟩
  · refine ⟨by rw [f 7 0 (by omega)]; exact h.n7.1, by rw [v73]; omega, by rw [v73]; omega, fun k => by rw [f _ k (by omega)]; exact h.n7.2.2.2.1 k, fun k => by rw [f _ k (by omega)]; exact h.n7.2.2.2.2 k⟩
  · exact ⟨⟨by rw [v43, w7], fun k hk => by rw [v43] at hk; omega⟩, ⟨by rw [v73, w10], fun k hk => by rw [v73] at hk; omega⟩⟩
  · exact Mnm_nw h.mn (fun x k q => m x k (by omega))
  · intro a b _ hb; rw [v73] at hb; omega
  · rw [f 12 8 (by omega)]; exact h.mk
  · exact NmI_fr h.n14 (fun x k a b => f x k (by omega))
  · exact RN_fr h.rs (fun x k a b => f x k (by omega)) (m 0 26 (by omega)) (fun k => m 19 k (by omega)) (fun k => m 18 k (by omega))
  · rw [f 0 7 (by omega), m 0 3 (by omega)]; exact h.flt
  · rw [v09, w36]
  · rw [v09]; omega
  · rw [v09, w35, if_pos rfl]
  · exact CB_fr h.cb (fun x k a b => f x k (by omega))
  · exact MB_fr h.mb (fun x k a b => m x k (by omega))
  · intro d hd; rw [f 18 d (by omega)]; exact h.sdr d hd
  · intro q; rw [v09] at q; omega
  · rw [v23, w42]
  · rw [v23]; omega
  · intro k hk; rw [v23] at hk; omega
  · rw [v26, w50]
  · rw [v26]; omega
  · intro k hk; rw [v26] at hk; omega
theorem sJ_c {b b' : Nat → Int} {len : Nat} (h : ∀ k, k < len → b k = b' k) : ∀ m j, sJ b len m j = sJ b' len m j := by
  intro m
  induction m with
  | zero => intro j; rfl
  | succ m ih =>
    intro j
    unfold sJ
    rw [pN_c h j, (tk_c h).2.1, ih]
theorem sEnd_c {b b' : Nat → Int} {len : Nat} (h : ∀ k, k < len → b k = b' k) : sEnd b len = sEnd b' len ∧ sCode b len = sCode b' len ∧ sPlace b len = sPlace b' len := by
  have e : sEnd b len = sEnd b' len := sJ_c h 9 0
  refine ⟨e, ?_, ?_⟩
  · unfold sCode; rw [e, pN_c h, (tk_c h).2.1]
  · unfold sPlace; rw [e, pN_c h, (tk_c h).1]
theorem RR_len {σ τ : St} {N : Nat} {sz : Nat → Nat} (h : RR σ τ N sz) : mlen τ = tlen σ := by unfold mlen tlen; rw [h.len]
theorem R_sentence {σ τ : St} (h : R σ τ) : wp_X8_sentence (fun r σ' => wp_X9_sentence (fun r' τ' => r' = r ∧ R σ' τ') τ) σ := by
  obtain ⟨N, sz, h⟩ := h
  have hb : ∀ k, k < tlen σ → σ 2 k = bM τ k := h.byt
  have ml := RR_len h
  obtain ⟨e1, e2, e3⟩ := sEnd_c hb
  refine sp_sentence h.tp h.n14 (fun hc σ' f s7 s11 => ?_) (fun hc σ' f s7 s11 s9 s23 s26 sN s14 sC => ?_)
  · refine sp_msentence h.tm h.r1 (fun hc' τ' m t0 t2 t3 => ?_) (fun hc' => ?_)
    · rw [ml, ← e3, ← e2] at *
      refine ⟨rfl, N, sz, ?_⟩
      have hx : RR (su (su σ 0 7 (sCode (σ 2) (tlen σ))) 1 1 0) (su (su τ 0 3 (sCode (σ 2) (tlen σ))) 0 2 0) N sz := by
        refine RR.mk' ?_ ?_ ?_ ?_ ?_ ?_ ?_ ?_ ?_ ?_ h.N16 ?_ ?_ (fun t ht => ?_) (fun t ht => ?_) ?_ ?_ ?_ ?_ ?_ ?_ ?_ ?_ ?_ ?_ ?_ ?_ ?_ ?_ ?_ ?_ ?_
        · exact ⟨by rw [su_at]; omega, by rw [su_at]; omega, fun k => by rw [su_ko _ _ (by omega), su_ko _ _ (by omega)]; exact h.tp.2.2 k⟩
        · exact ⟨by rw [su_at]; omega, by rw [su_at]; omega⟩
        · intro k; rw [su_ko _ _ (by omega), su_ko _ _ (by omega)]; exact h.r1 k
        · rw [su_at, su_at]
        · intro k hk; unfold tlen at hk; rw [su_at] at hk; exact absurd hk (by omega)
        · exact NmI_fr h.n4 (fun x k a b => by rw [su_ko _ _ (by omega), su_ko _ _ (by omega)])
        · exact NmI_fr h.n7 (fun x k a b => by rw [su_ko _ _ (by omega), su_ko _ _ (by omega)])
        · exact RNs_nw h.rn (fun x k a b => by rw [su_ko _ _ (by omega), su_ko _ _ (by omega)]) (fun x k q => by rw [su_ko _ _ (by omega), su_ko _ _ (by omega)])
        · exact Mnm_nw h.mn (fun x k q => by rw [su_ko _ _ (by omega), su_ko _ _ (by omega)])
        · exact DW_fr h.dw (fun x k q => by rw [su_ko _ _ (by omega), su_ko _ _ (by omega)])
        · rw [su_ko _ _ (by omega), su_ko _ _ (by omega)]; exact h.c34
        · rw [su_ko _ _ (by omega), su_ko _ _ (by omega)]; exact h.c23
        · exact FT_fr (h.ft t ht) (by rw [su_ko _ _ (by omega), su_ko _ _ (by omega)]) (fun x w _ _ => by rw [nd_su _ _ (by omega), nd_su _ _ (by omega)]) (by rw [su_ko _ _ (by omega), su_ko _ _ (by omega)]; exact Int.le_refl _) (by rw [su_ko _ _ (by omega), su_ko _ _ (by omega)]; exact Int.le_refl _)
        · exact FR_fr (h.ft t ht).2.2.2.1.1 (RR_sz h t ht) (h.fr t ht) (fun x w _ _ => by rw [nd_su _ _ (by omega), nd_su _ _ (by omega)]) (by rw [su_ko _ _ (by omega), su_ko _ _ (by omega)]) (fun o x a b _ => by rw [su_ko _ _ (by omega), su_ko _ _ (by omega)])
        · rw [su_ko _ _ (by omega), su_ko _ _ (by omega)]; exact h.mk
        · exact NmI_fr h.n14 (fun x k a b => by rw [su_ko _ _ (by omega), su_ko _ _ (by omega)])
        · exact RN_fr h.rs (fun x k a b => by rw [su_ko _ _ (by omega), su_ko _ _ (by omega)]) (by rw [su_ko _ _ (by omega), su_ko _ _ (by omega)]) (fun k => by rw [su_ko _ _ (by omega), su_ko _ _ (by omega)]) (fun k => by rw [su_ko _ _ (by omega), su_ko _ _ (by omega)])
        · rw [su_ko _ _ (by omega), su_at, su_ko _ _ (by omega), su_at]
        · rw [su_ko _ _ (by omega), su_ko _ _ (by omega), su_ko _ _ (by omega), su_ko _ _ (by omega)]; exact h.wys
        · rw [su_ko _ _ (by omega), su_ko _ _ (by omega)]; exact h.wyr
        · rw [su_ko _ _ (by omega), su_ko _ _ (by omega), su_ko _ _ (by omega), su_ko _ _ (by omega)]; exact h.wsr
        · exact CB_fr h.cb (fun x k a b => by rw [su_ko _ _ (by omega), su_ko _ _ (by omega)])
        · exact MB_fr h.mb (fun x k a b => by rw [su_ko _ _ (by omega), su_ko _ _ (by omega)])
        · intro d hd; rw [su_ko _ _ (by omega), su_ko _ _ (by omega)]; exact h.sdr d hd
        · intro q
          rw [su_ko _ _ (by omega), su_ko _ _ (by omega)] at q
          exact RDY_fr (RR_sz h) (h.rdy q) (by rw [su_ko _ _ (by omega), su_ko _ _ (by omega)]) (by rw [su_ko _ _ (by omega), su_ko _ _ (by omega)]) (by rw [su_ko _ _ (by omega), su_ko _ _ (by omega)]) (fun t x w _ _ _ => by rw [nd_su _ _ (by omega), nd_su _ _ (by omega)]) (fun o k a b => by rw [su_ko _ _ (by omega), su_ko _ _ (by omega)]) (by rw [su_ko _ _ (by omega), su_ko _ _ (by omega)]) (by rw [su_ko _ _ (by omega), su_ko _ _ (by omega)]) (fun o k a b => by rw [su_ko _ _ (by omega), su_ko _ _ (by omega)])
        · rw [su_ko _ _ (by omega), su_ko _ _ (by omega), su_ko _ _ (by omega), su_ko _ _ (by omega)]; exact h.us
        · rw [su_ko _ _ (by omega), su_ko _ _ (by omega)]; exact h.usr
        · intro k hk
          rw [su_ko _ _ (by omega), su_ko _ _ (by omega)] at hk
          rw [su_ko _ _ (by omega), su_ko _ _ (by omega), su_ko _ _ (by omega), su_ko _ _ (by omega)]; exact h.usc k hk
        · rw [su_ko _ _ (by omega), su_ko _ _ (by omega), su_ko _ _ (by omega), su_ko _ _ (by omega)]; exact h.ws
        · rw [su_ko _ _ (by omega), su_ko _ _ (by omega)]; exact h.wsr2
        · intro k hk
          rw [su_ko _ _ (by omega), su_ko _ _ (by omega)] at hk
          rw [su_ko _ _ (by omega), su_ko _ _ (by omega), su_ko _ _ (by omega), su_ko _ _ (by omega)]; exact h.wsc k hk
      refine RR_f hx (fun o k q => ?_) (fun o k q => ?_)
      · by_cases z1 : o = 1 ∧ k = 1
        · rw [z1.1, z1.2, s11, su_at]
        · by_cases z2 : o = 0 ∧ k = 7
          · rw [z2.1, z2.2, s7, su_ko _ _ (by omega), su_at]
          · rw [su_ko _ _ z1, su_ko _ _ z2]
            exact f o k (fun z => q (by unfold dcC; omega)) z2
      · by_cases z1 : o = 0 ∧ k = 2
        · rw [z1.1, z1.2, t2, su_at]
        · by_cases z2 : o = 0 ∧ k = 3
          · rw [z2.1, z2.2, t3, su_ko _ _ (by omega), su_at]
          · rw [su_ko _ _ z1, su_ko _ _ z2]
            exact m o k (fun z => q (by unfold dcM; omega))
    · rw [ml, ← e2] at hc'
      exact absurd hc' hc
  · refine sp_msentence h.tm h.r1 (fun hc' => ?_) (fun hc' τ' m t0 t2 t3 t26 t35 t36 t42 t50 tC => ?_)
    · rw [ml, ← e2] at hc'
      exact absurd hc hc'
    · rw [ml, ← e1] at t26 tC ⊢
      have nE : sEnd (σ 2) (tlen σ) ≤ 8 := by have := sN.2.2.1; rw [s14] at this; omega
      refine ⟨rfl, N, sz, RR.mk' ?_ ?_ ?_ ?_ ?_ ?_ ?_ ?_ ?_ ?_ h.N16 ?_ ?_ (fun t ht => ?_) (fun t ht => ?_) ?_ sN ?_ ?_ ?_ ?_ ?_ ?_ ?_ ?_ ?_ ?_ ?_ ?_ ?_ ?_ ?_⟩
      · exact ⟨by rw [s11]; omega, by rw [s11]; omega, fun k => by rw [f 2 k (by omega) (by omega) (by omega) (by omega) (by omega) (by omega) (by omega)]; exact h.tp.2.2 k⟩
      · exact ⟨by rw [t2]; omega, by rw [t2]; omega⟩
      · intro k; rw [m 1 k (by omega) (by omega) (by omega)]; exact h.r1 k
      · rw [s11, t2]
      · intro k hk; unfold tlen at hk; rw [s11] at hk; exact absurd hk (by omega)
      · exact NmI_fr h.n4 (fun x k a b => f x k (by omega) (by omega) (by omega) (by omega) (by omega) (by omega) (by omega))
      · exact NmI_fr h.n7 (fun x k a b => f x k (by omega) (by omega) (by omega) (by omega) (by omega) (by omega) (by omega))
      · exact RNs_nw h.rn (fun x k a b => f x k (by omega) (by omega) (by omega) (by omega) (by omega) (by omega) (by omega)) (fun x k q => m x k (by omega) (by omega) (by omega))
      · exact Mnm_nw h.mn (fun x k q => m x k (by omega) (by omega) (by omega))
      · exact DW_fr h.dw (fun x k q => f x k (by omega) (by omega) (by omega) (by omega) (by omega) (by omega) (by omega))
      · rw [f 3 4 (by omega) (by omega) (by omega) (by omega) (by omega) (by omega) (by omega)]; exact h.c34
      · rw [m 0 23 (by omega) (by omega) (by omega)]; exact h.c23
      · exact FT_fr (h.ft t ht) (f 10 t (by omega) (by omega) (by omega) (by omega) (by omega) (by omega) (by omega)) (fun x w _ _ => f 11 _ (by omega) (by omega) (by omega) (by omega) (by omega) (by omega) (by omega)) (by rw [f 7 3 (by omega) (by omega) (by omega) (by omega) (by omega) (by omega) (by omega)]; exact Int.le_refl _) (by rw [f 4 3 (by omega) (by omega) (by omega) (by omega) (by omega) (by omega) (by omega)]; exact Int.le_refl _)
      · exact FR_fr (h.ft t ht).2.2.2.1.1 (RR_sz h t ht) (h.fr t ht) (fun x w _ _ => f 11 _ (by omega) (by omega) (by omega) (by omega) (by omega) (by omega) (by omega)) (m 17 t (by omega) (by omega) (by omega)) (fun o x a b _ => m o _ (by omega) (by omega) (by omega))
      · rw [f 12 8 (by omega) (by omega) (by omega) (by omega) (by omega) (by omega) (by omega)]; exact h.mk
      · refine ⟨by rw [s14, t26], fun k hk => ?_⟩
        rw [s14] at hk
        have q1 := sC k (by omega)
        have q2 := tC k (by omega)
        rw [← pN_c hb, ← (tk_c hb).1, ← (tk_c hb).2.2] at q2
        refine ⟨by rw [show 14 + 2 = 16 from rfl, q1.1, q2.1], fun i hi => ?_⟩
        rw [show 14 + 2 = 16 from rfl, q1.1] at hi
        rw [show 14 + 1 = 15 from rfl, q1.2 i (by omega), q2.2 i (by omega)]
        refine hb _ ?_
        have := tkE_le (σ 2) (pN_le (σ 2) (tlen σ) k)
        omega
      · rw [s7, t3]
      · rw [s9, t36]
      · rw [s9]; omega
      · rw [s9, t35, if_pos rfl]
      · exact CB_fr h.cb (fun x k a b => f x k (by omega) (by omega) (by omega) (by omega) (by omega) (by omega) (by omega))
      · exact MB_fr h.mb (fun x k a b => m x k (by omega) (by omega) (by omega))
      · intro d hd; rw [f 18 d (by omega) (by omega) (by omega) (by omega) (by omega) (by omega) (by omega)]; exact h.sdr d hd
      · intro q; rw [s9] at q; omega
      · rw [s23, t42]
      · rw [s23]; omega
      · intro k hk; rw [s23] at hk; omega
      · rw [s26, t50]
      · rw [s26]; omega
      · intro k hk; rw [s26] at hk; omega
