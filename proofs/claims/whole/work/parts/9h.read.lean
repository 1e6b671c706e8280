/-! pure: read(), both worlds -/
theorem sd_word {σ τ τ' : St} {N : Nat} {sz : Nat → Nat} {i nm : Nat} (h : RR σ τ N sz) (e : ∀ o k, (o = 4 ∨ o = 5 ∨ o = 18 ∨ o = 19) → τ' o k = τ o k) (hi : (i : Int) < σ 14 3) (hnm : (nm : Int) < σ 7 3) : sameW τ' i nm ↔ sdC σ i = (nm : Int) := by
  obtain ⟨s1, s2⟩ := h.rs.2 i hi
  obtain ⟨w1, w2⟩ := h.rn.2.2 nm hnm
  rw [show 14 + 2 = 16 from rfl] at s1 s2
  rw [show 14 + 1 = 15 from rfl] at s2
  rw [show 7 + 2 = 9 from rfl] at w1 w2
  rw [show 7 + 1 = 8 from rfl] at w2
  have l16 := h.n14.2.2.2.1 i
  rw [show 14 + 2 = 16 from rfl] at l16
  have n3 := h.n7.2.1
  have key : sameW τ' i nm ↔ (σ 9 nm = ((12 * i + (σ 16 i).toNat - 12 * i : Nat) : Int) ∧ eqAt (σ 8) (σ 15) (12 * nm) (12 * i) (12 * i + (σ 16 i).toNat - 12 * i)) := by
    unfold sameW
    rw [e 19 i (by omega), e 5 nm (by omega), ← s1, ← w1, show 12 * i + (σ 16 i).toNat - 12 * i = (σ 16 i).toNat by omega]
    constructor
    · rintro ⟨q1, q2⟩
      refine ⟨by omega, fun x hx => ?_⟩
      have := q2 x (by omega)
      rw [e 18 _ (by omega), e 4 _ (by omega), ← s2 x (by omega), ← w2 x (by omega)] at this
      exact this.symm
    · rintro ⟨q1, q2⟩
      refine ⟨by omega, fun x hx => ?_⟩
      rw [e 18 _ (by omega), e 4 _ (by omega), ← s2 x (by omega), ← w2 x (by omega)]
      exact (q2 x (by omega)).symm
  rw [key]
  unfold sdC fndN
  rcases fndF_spec (fun k => σ 9 k = ((12 * i + (σ 16 i).toNat - 12 * i : Nat) : Int) ∧ eqAt (σ 8) (σ 15) (12 * k) (12 * i) (12 * i + (σ 16 i).toNat - 12 * i)) (σ 7 3).toNat 0 with z | ⟨j, z1, z2, z3, z4, z5⟩
  · rw [z.1]
    exact ⟨fun w => absurd w (z.2 nm (by omega) (by omega)), fun w => by omega⟩
  · rw [z1]
    constructor
    · intro w
      by_cases q : j = nm
      · rw [q]
      · exfalso
        have lj : j < nm := by
          by_cases u : nm < j
          · exact absurd w (z5 nm (by omega) u)
          · omega
        refine h.dw j nm lj hnm ⟨by rw [z4.1, w.1], fun x hx => ?_⟩
        rw [w.1] at hx
        rw [z4.2 x (by omega), w.2 x (by omega)]
    · intro w
      have : j = nm := by omega
      subst this
      exact z4
theorem R_read {σ τ : St} (h : R σ τ) : wp_X8_read (fun r σ' => wp_X9_read (fun r' τ' => r' = r ∧ R σ' τ') τ) σ := by
  obtain ⟨N, sz, h⟩ := h
  have hb : ∀ k, k < tlen σ → σ 2 k = bM τ k := h.byt
  have ml := RR_len h
  obtain ⟨ec, ep⟩ := rd_c hb
  have c7 : τ 0 7 = (((σ 4 3).toNat : Nat) : Int) := by rw [← h.rn.1.1]; have := h.n4.2.1; omega
  have c7' : (σ 4 3).toNat ≤ 16 := by have := h.n4.2.2.1; omega
  -- the state after, but for the chart
  have mid : ∀ (σ' τ' : St), (∀ o k, ¬ rfC o k → ¬ (17 ≤ o ∧ o ≤ 22) → o ≠ 29 → σ' o k = σ o k) → (∀ o k, ¬ rfM o k → ¬ (20 ≤ o ∧ o ≤ 22) → τ' o k = τ o k) → σ' 1 1 = 0 → τ' 0 2 = 0 → σ' 0 7 = τ' 0 3 → σ' 0 9 = τ' 0 36 → (-1 ≤ σ' 0 9 ∧ σ' 0 9 ≤ 1000000000) → τ' 0 35 = (if σ' 0 9 = -1 then 0 else 1) → CB σ' → MB τ' → (∀ d, d < 8 → -1 ≤ σ' 18 d ∧ σ' 18 d < 32) → (0 < σ' 0 9 → RDY σ' τ' N sz) → σ' 23 0 = 0 → τ' 0 42 = 0 → σ' 26 0 = 0 → τ' 0 50 = 0 → RR σ' τ' N sz := by
    intro σ' τ' f m s11 t2 s7 s9 s9r t35 hCB hMB hsd hrd s23 t42 s26 t50
    have F : ∀ o k, o ≠ 0 → o ≠ 1 → o ≠ 23 → o ≠ 26 → (o < 17 ∨ (22 < o ∧ o ≠ 29)) → σ' o k = σ o k := fun o k _ _ _ _ _ => f o k (by unfold rfC; omega) (by omega) (by omega)
    have M : ∀ o k, o ≠ 0 → (o < 20 ∨ 22 < o) → τ' o k = τ o k := fun o k _ _ => m o k (by unfold rfM; omega) (by omega)
    refine RR.mk' ?_ ?_ ?_ ?_ ?_ ?_ ?_ ?_ ?_ ?_ h.N16 ?_ ?_ (fun t ht => ?_) (fun t ht => ?_) ?_ ?_ ?_ s7 s9 s9r t35 hCB hMB hsd hrd ?_ ?_ ?_ ?_ ?_ ?_
    · exact ⟨by rw [s11]; omega, by rw [s11]; omega, fun k => by rw [F 2 k (by omega) (by omega) (by omega) (by omega) (by omega)]; exact h.tp.2.2 k⟩
    · exact ⟨by rw [t2]; omega, by rw [t2]; omega⟩
    · intro k; rw [M 1 k (by omega) (by omega)]; exact h.r1 k
    · rw [s11, t2]
    · intro k hk; unfold tlen at hk; rw [s11] at hk; exact absurd hk (by omega)
    · exact NmI_fr h.n4 (fun x k a b => F x k (by omega) (by omega) (by omega) (by omega) (by omega))
    · exact NmI_fr h.n7 (fun x k a b => F x k (by omega) (by omega) (by omega) (by omega) (by omega))
    · refine RNs_nw h.rn (fun x k a b => F x k (by omega) (by omega) (by omega) (by omega) (by omega)) (fun x k q => m x k (by unfold rfM; omega) (by omega))
    · exact Mnm_nw h.mn (fun x k q => M x k (by omega) (by omega))
    · exact DW_fr h.dw (fun x k q => F x k (by omega) (by omega) (by omega) (by omega) (by omega))
    · rw [F 3 4 (by omega) (by omega) (by omega) (by omega) (by omega)]; exact h.c34
    · rw [m 0 23 (by unfold rfM; omega) (by omega)]; exact h.c23
    · exact FT_fr (h.ft t ht) (F 10 t (by omega) (by omega) (by omega) (by omega) (by omega)) (fun x w _ _ => F 11 _ (by omega) (by omega) (by omega) (by omega) (by omega)) (by rw [F 7 3 (by omega) (by omega) (by omega) (by omega) (by omega)]; exact Int.le_refl _) (by rw [F 4 3 (by omega) (by omega) (by omega) (by omega) (by omega)]; exact Int.le_refl _)
    · exact FR_fr (h.ft t ht).2.2.2.1.1 (RR_sz h t ht) (h.fr t ht) (fun x w _ _ => F 11 _ (by omega) (by omega) (by omega) (by omega) (by omega)) (M 17 t (by omega) (by omega)) (fun o x a b _ => M o _ (by omega) (by omega))
    · rw [F 12 8 (by omega) (by omega) (by omega) (by omega) (by omega)]; exact h.mk
    · exact NmI_fr h.n14 (fun x k a b => F x k (by omega) (by omega) (by omega) (by omega) (by omega))
    · exact RN_fr h.rs (fun x k a b => F x k (by omega) (by omega) (by omega) (by omega) (by omega)) (m 0 26 (by unfold rfM; omega) (by omega)) (fun k => M 19 k (by omega) (by omega)) (fun k => M 18 k (by omega) (by omega))
    · rw [s23, t42]
    · rw [s23]; omega
    · intro k hk; rw [s23] at hk; omega
    · rw [s26, t50]
    · rw [s26]; omega
    · intro k hk; rw [s26] at hk; omega
  refine sp_readC h.tp h.n4 (fun hc σ' f s7 s9 s11 s23 s26 => ?_) (fun hc k2 σ' f s7 s9 s11 s23 s26 s8 => ?_)
  · -- the text is bad
    refine sp_readM h.tm h.r1 h.mn c7 c7' (fun hc' τ' m t3 t2 t35 t36 t42 t50 => ?_) (fun hc' => ?_)
    · rw [ml, ← ec] at t3
      rw [ml, ← ep]
      refine ⟨rfl, N, sz, mid σ' τ' (fun o k q _ _ => f o k q) (fun o k q _ => m o k q) s11 t2 (by rw [s7, t3]) (by rw [s9, t36]) (by rw [s9]; omega) (by rw [s9, t35, if_pos rfl]) (CB_fr h.cb (fun x k a b => f x k (by unfold rfC; omega))) (MB_fr h.mb (fun x k a b => m x k (by unfold rfM; omega))) (fun d hd => by rw [f 18 d (by unfold rfC; omega)]; exact h.sdr d hd) (fun q => by rw [s9] at q; omega) s23 t42 s26 t50⟩
    · rw [ml, ← ec] at hc'
      exact absurd hc' hc
  · -- the text is good
    have nn : σ 14 3 = (((σ 14 3).toNat : Nat) : Int) := by have := h.n14.2.1; omega
    have n8 : (σ 14 3).toNat ≤ 8 := by have := h.n14.2.2.1; omega
    have hFC : FC σ N sz (hwF σ sz) (woF σ sz) := CF_of h.ft h.n7.2.2.1 h.n4.2.2.1
    have hMC : MC (cc σ) N sz (hwF σ sz) (woF σ sz) τ := MC_of h.ft h.fr h.c23
    have lab_r := fndF_spec (fun k => σ 6 k = ((tkE (σ 2) (tlen σ) 0 - tkS (σ 2) (tlen σ) 0 : Nat) : Int) ∧ eqAt (σ 5) (σ 2) (8 * k) (tkS (σ 2) (tlen σ) 0) (tkE (σ 2) (tlen σ) 0 - tkS (σ 2) (tlen σ) 0)) (σ 4 3).toNat 0
    have lab_e : fdN σ 4 8 (tkS (σ 2) (tlen σ) 0) (tkE (σ 2) (tlen σ) 0) = fndF (fun k => σ 6 k = ((tkE (σ 2) (tlen σ) 0 - tkS (σ 2) (tlen σ) 0 : Nat) : Int) ∧ eqAt (σ 5) (σ 2) (8 * k) (tkS (σ 2) (tlen σ) 0) (tkE (σ 2) (tlen σ) 0 - tkS (σ 2) (tlen σ) 0)) (σ 4 3).toNat 0 := rfl
    have lab_b : -1 ≤ fdN σ 4 8 (tkS (σ 2) (tlen σ) 0) (tkE (σ 2) (tlen σ) 0) ∧ fdN σ 4 8 (tkS (σ 2) (tlen σ) 0) (tkE (σ 2) (tlen σ) 0) < 16 := by
      rw [lab_e]
      rcases lab_r with z | ⟨j, z1, _, z3, _⟩
      · rw [z.1]; omega
      · rw [z1]; omega
    have lab_m : fndN (τ 3) (τ 2) (τ 1) 8 (σ 4 3).toNat (tkS (σ 2) (tlen σ) 0) (tkE (σ 2) (tlen σ) 0) = fdN σ 4 8 (tkS (σ 2) (tlen σ) 0) (tkE (σ 2) (tlen σ) 0) := by
      have e43 : (σ 4 3).toNat = (τ 0 7).toNat := by rw [h.rn.1.1]
      rw [e43]
      refine (RN_find h.rn.1 h.n4 (fun x hx => ?_)).symm
      have tE := tkE_le (σ 2) (len := tlen σ) (p := 0) (by omega)
      have lb := isLb_r (tk_label k2 (k := tkS (σ 2) (tlen σ) 0 + x) (by omega) (by omega))
      have e1 := hb (tkS (σ 2) (tlen σ) 0 + x) (by omega)
      rw [e1] at lb
      rw [e1]
      exact (bM_eq h.r1 (k := tkS (σ 2) (tlen σ) 0 + x) (by omega)).symm
    have wordsR : ∀ (sd : Nat → Int) (τ0 : St), (∀ i, i < (σ 14 3).toNat → sd i = sdC σ i) → (∀ o k, (o = 4 ∨ o = 5 ∨ o = 7 ∨ o = 18 ∨ o = 19) → τ0 o k = τ o k) → τ0 0 26 = τ 0 26 → WW (cc σ) N sz sd (σ 14 3).toNat τ0 := by
      intro sd τ0 hsd m m26 τ' e t x i ht hx k3 hi R' hR'
      obtain ⟨f1, f2, f3, f4, f5, f6, f7, f8⟩ := h.ft t ht
      obtain ⟨a1, a2, a3, a4, a5⟩ := f6 x hx
      have b2 := a2 k3
      have fr := (h.fr t ht).2 x hx
      have h32 := h.n7.2.2.1
      have g : ∀ o k, (o = 4 ∨ o = 5 ∨ o = 7 ∨ o = 18 ∨ o = 19) → τ' o k = τ o k := fun o k q => by rw [e o (by omega) (by omega)]; exact m o k q
      have i14 : (i : Int) < σ 14 3 := by omega
      obtain ⟨s1, s2⟩ := h.rs.2 i i14
      rw [show 14 + 2 = 16 from rfl] at s1 s2
      have l16 := h.n14.2.2.2.1 i
      rw [show 14 + 2 = 16 from rfl] at l16
      refine sp_isWord (n := (σ 14 3).toNat) (nm := (nd σ t x 1).toNat) n8 hi (by have := h.N16; omega) ?_ ?_ (by omega) ?_ ?_ (fun k hk => ?_) (fun k => ?_) ?_
      · rw [e 0 (by omega) (by omega), m26, ← h.rs.1]; exact nn
      · rw [g 7 _ (by omega), fr.2.1]; omega
      · rw [g 19 i (by omega), ← s1]; omega
      · rw [g 5 _ (by omega)]; exact h.mn.2.2.1 _
      · rw [g 19 i (by omega), ← s1] at hk
        rw [g 18 _ (by omega), ← s2 k hk]
        have := h.n14.2.2.2.2 (12 * i + k)
        omega
      · rw [g 4 k (by omega)]; have := h.mn.2.2.2 k; omega
      · have ee : bI (sameW τ' i (nd σ t x 1).toNat) = bI (sd i = cc σ (12 * t + x) 1) := by
          refine bI_congr ?_
          rw [sd_word h (fun o k q => g o k (by omega)) i14 (by omega), hsd i hi]
          have ec1 : cc σ (12 * t + x) 1 = nd σ t x 1 := rfl
          rw [ec1, show (((nd σ t x 1).toNat : Nat) : Int) = nd σ t x 1 by omega]
        rw [ee]; exact hR'
    -- the reference's chart
    have refr : ∀ (Q : Int → St → Prop) (sd : Nat → Int), (∀ i, i < (σ 14 3).toNat → sd i = sdC σ i) → (∀ τ' : St, (∀ o k, ¬ rfM o k → ¬ (20 ≤ o ∧ o ≤ 22) → τ' o k = τ o k) → τ' 0 2 = 0 → τ' 0 3 = 0 → τ' 0 35 = 1 → τ' 0 36 = cap (ini (cc σ) N (VV (cc σ) N sd) (fdN σ 4 8 (tkS (σ 2) (tlen σ) 0) (tkE (σ 2) (tlen σ) 0)) 0 (σ 14 3).toNat) → τ' 0 42 = 0 → τ' 0 50 = 0 → τ' 0 37 = fdN σ 4 8 (tkS (σ 2) (tlen σ) 0) (tkE (σ 2) (tlen σ) 0) → MB τ' → NS τ' → RDm (cc σ) N sz sd (σ 14 3).toNat τ' → Q (τ' 0 36) τ') → wp_X9_read Q τ := by
      intro Q sd hsd hQ
      refine sp_readM h.tm h.r1 h.mn c7 c7' (fun hc' => ?_) (fun hc' k2' τ1 m t3 t2 t35 t36 t42 t50 t37 => ?_)
      · rw [ml, ← ec] at hc'
        exact absurd hc hc'
      · rw [ml, ← (tk_c (p := 0) hb).1, ← (tk_c (p := 0) hb).2.2, lab_m] at t37
        have M : ∀ o k, o ≠ 0 → τ1 o k = τ o k := fun o k _ => m o k (by unfold rfM; omega)
        have m26 : τ1 0 26 = τ 0 26 := m 0 26 (by unfold rfM; omega)
        have fM : ∀ a, a ≠ 0 → τ1 a = τ a := fun a ha => by funext k; exact M a k ha
        have hMC1 : MC (cc σ) N sz (hwF σ sz) (woF σ sz) τ1 := by
          unfold MC
          rw [m 0 23 (by unfold rfM; omega), fM 17 (by omega), fM 6 (by omega), fM 7 (by omega), fM 10 (by omega), fM 11 (by omega), fM 13 (by omega), fM 15 (by omega), fM 12 (by omega), fM 14 (by omega), fM 16 (by omega)]
          exact hMC
        refine sp_mchart (c := cc σ) (N := N) (n := (σ 14 3).toNat) (sz := sz) (sd := sd) n8 h.N16 (by rw [m26, ← h.rs.1]; exact nn) hMC1 hFC.1 hFC.2 (MB_fr h.mb (fun x k a b => M x k (by omega))) t37 (by omega) (fun τ' e => wordsR sd τ' hsd (fun o k q => by rw [e o (by omega) (by omega) (by omega)]; exact M o k (by omega)) (by rw [e 0 (by omega) (by omega) (by omega)]; exact m26)) (fun τ' a1 a2 a35 a36 aMB aNS aRD => ?_)
        refine hQ τ' (fun o k q1 q2 => ?_) (by rw [a2 2 (by omega) (by omega)]; exact t2) (by rw [a2 3 (by omega) (by omega)]; exact t3) a35 a36 (by rw [a2 42 (by omega) (by omega)]; exact t42) (by rw [a2 50 (by omega) (by omega)]; exact t50) (by rw [a2 37 (by omega) (by omega)]; exact t37) aMB aNS aRD
        by_cases e : o = 0
        · subst e
          have q1' := q1
          unfold rfM at q1'
          rw [a2 k (by omega) (by omega)]
          exact m 0 k q1
        · rw [a1 o e (by omega) (by omega) (by omega)]
          exact M o k e
    refine ⟨fun hl => ?_, fun hl σ11 e11 => ?_⟩
    · rw [s8, w32_id (by omega) (by omega)] at hl
      have F : ∀ o k, ¬ rfC o k → σ' o k = σ o k := f
      have fF : ∀ a, a ≠ 0 → a ≠ 1 → a ≠ 23 → a ≠ 26 → σ' a = σ a := fun a _ _ _ _ => by funext k; exact f a k (by unfold rfC; omega)
      have ecc : cc σ' = cc σ := cc_c (fF 11 (by omega) (by omega) (by omega) (by omega))
      refine sp_fill (N := N) (n := (σ 14 3).toNat) (sz := sz) (hw := hwF σ sz) (wo := woF σ sz) n8 h.N16 (by rw [f 3 4 (by unfold rfC; omega)]; exact h.c34) (fun t ht => by rw [f 10 t (by unfold rfC; omega)]; exact (h.ft t ht).1) (by unfold FC; rw [ecc]; exact hFC) (by rw [ecc]; exact CL_of h.ft) (CB_fr h.cb (fun x k a b => f x k (by unfold rfC; omega))) (by rw [f 14 3 (by unfold rfC; omega)]; exact nn) (NmI_fr h.n7 (fun x k a b => f x k (by unfold rfC; omega))) (NmI_fr h.n14 (fun x k a b => f x k (by unfold rfC; omega))) (fun d hd => by rw [f 18 d (by unfold rfC; omega)]; exact h.sdr d hd) (fun σ7 b1 b2 b3 b4 b5 b6 b7 => ?_)
      rw [ecc] at b7
      have sdE : ∀ i, i < (σ 14 3).toNat → σ7 18 i = sdC σ i := fun i hi => by
        rw [b4 i hi]
        unfold sdC
        rw [fF 9 (by omega) (by omega) (by omega) (by omega), fF 8 (by omega) (by omega) (by omega) (by omega), fF 15 (by omega) (by omega) (by omega) (by omega), fF 7 (by omega) (by omega) (by omega) (by omega), fF 16 (by omega) (by omega) (by omega) (by omega)]
      have s78 : σ7 0 8 = fdN σ 4 8 (tkS (σ 2) (tlen σ) 0) (tkE (σ 2) (tlen σ) 0) := by rw [b1 0 (by omega) (by omega) (by omega) (by omega) (by omega) (by omega) (by omega)]; exact s8
      rw [s78, b3]
      refine sp_initialWays (i := 0) (l := (σ 14 3).toNat) (n := (σ 14 3).toNat) ⟨by omega, by omega, Or.inl ⟨rfl, rfl, rfl⟩⟩ n8 (by omega) rfl rfl (fun σ10 e10 => ?_)
      have eI := b7.2.1 (fdN σ 4 8 (tkS (σ 2) (tlen σ) 0) (tkE (σ 2) (tlen σ) 0)) 0 (σ 14 3).toNat (by omega) (by omega) (by omega) (by omega)
      rw [eI] at e10
      have s109 : σ10 0 9 = cap (ini (cc σ) N (VV (cc σ) N (σ7 18)) (fdN σ 4 8 (tkS (σ 2) (tlen σ) 0) (tkE (σ 2) (tlen σ) 0)) 0 (σ 14 3).toNat) := by rw [e10, su_at]
      have G : ∀ o k, ¬ (o = 0 ∧ k = 9) → σ10 o k = σ7 o k := fun o k q => by rw [e10]; exact su_ko _ _ q
      have ir := cap_r (ini_p (c := cc σ) (N := N) (T := VV (cc σ) N (σ7 18)) (fun o r i j k l => (VV_r _ _ _ o r i j k l).1) (fdN σ 4 8 (tkS (σ 2) (tlen σ) 0) (tkE (σ 2) (tlen σ) 0)) 0 (σ 14 3).toNat)
      unfold wp_X8_read_B92
      refine refr _ (σ7 18) sdE (fun τ' m t2 t3 t35 t36 t42 t50 t37 tMB tNS tRD => ?_)
      have f10 : ∀ o k, ¬ rfC o k → ¬ (17 ≤ o ∧ o ≤ 22) → o ≠ 29 → σ10 o k = σ o k := fun o k q1 q2 q3 => by
        have q1' := q1
        unfold rfC at q1'
        rw [G o k (by omega), b1 o (by omega) (by omega) (by omega) (by omega) (by omega) (by omega) (by omega)]
        exact f o k q1
      refine ⟨by rw [t36, s109], N, sz, mid σ10 τ' f10 m (by rw [G 1 1 (by omega), b1 1 (by omega) (by omega) (by omega) (by omega) (by omega) (by omega) (by omega)]; exact s11) t2 (by rw [G 0 7 (by omega), b1 0 (by omega) (by omega) (by omega) (by omega) (by omega) (by omega) (by omega), s7, t3]) (by rw [s109, t36]) (by rw [s109]; omega) (by rw [t35, if_neg (by rw [s109]; omega)]) (CB_fr b6 (fun x k a b => G x k (by omega))) tMB (fun d hd => by rw [G 18 d (by omega)]; exact b5 d hd) (fun _ => ?_) (by rw [G 23 0 (by omega), b1 23 (by omega) (by omega) (by omega) (by omega) (by omega) (by omega) (by omega)]; exact s23) t42 (by rw [G 26 0 (by omega), b1 26 (by omega) (by omega) (by omega) (by omega) (by omega) (by omega) (by omega)]; exact s26) t50⟩
      have s108 : σ10 0 8 = fdN σ 4 8 (tkS (σ 2) (tlen σ) 0) (tkE (σ 2) (tlen σ) 0) := by rw [G 0 8 (by omega)]; exact s78
      refine ⟨cc σ, σ7 18, hwF σ sz, woF σ sz, (σ 14 3).toNat, n8, by rw [G 17 0 (by omega)]; exact b3, by rw [m 0 26 (by unfold rfM; omega) (by omega), ← h.rs.1]; exact nn, fun t x w ht hx hw' => ?_, hFC.1, ⟨fun o t x i l j k q1 q2 v => ?_, fun nm i l q1 q2 q3 q4 => ?_, fun nm i p q l q1 q2 q3 q4 q5 q6 => ?_⟩, tRD, tNS, by rw [s108, t37], by rw [s108]; omega, by rw [s109, s108], CL_of h.ft⟩
      · exact (f10 11 _ (by unfold rfC; omega) (by omega) (by omega)).symm
      · rw [← b7.1 o t x i l j k q1 q2 v, cT_ar, cT_ar]
        exact G _ _ (by cases o <;> (intro z; exact absurd z.1 (by decide)))
      · rw [← b7.2.1 nm i l q1 q2 q3 q4]; exact G _ _ (by omega)
      · rw [← b7.2.2 nm i p q l q1 q2 q3 q4 q5 q6]; exact G _ _ (by omega)
    · rw [s8, w32_id (by omega) (by omega)] at hl
      have G : ∀ o k, ¬ (o = 0 ∧ k = 9) → σ11 o k = σ' o k := fun o k q => by rw [e11]; exact su_ko _ _ q
      have s119 : σ11 0 9 = 0 := by rw [e11, su_at]
      unfold wp_X8_read_B92
      refine refr _ (sdC σ) (fun _ _ => rfl) (fun τ' m t2 t3 t35 t36 t42 t50 t37 tMB tNS tRD => ?_)
      have z0 : ini (cc σ) N (VV (cc σ) N (sdC σ)) (fdN σ 4 8 (tkS (σ 2) (tlen σ) 0) (tkE (σ 2) (tlen σ) 0)) 0 (σ 14 3).toNat = 0 := by
        rw [hl]
        refine sm_0 _ (fun t ht => ?_)
        have f6 := (h.ft t ht).2.2.2.2.2.1 0 (h.ft t ht).2.1
        have e1 : cc σ (12 * t) 1 = nd σ t 0 1 := rfl
        show (if cc σ (12 * t) 1 = -1 ∧ _ then _ else _) = _
        rw [if_neg (fun z => by have := f6.1; omega)]
      rw [z0, cap_0] at t36
      refine ⟨by rw [t36, s119], N, sz, mid σ11 τ' (fun o k q1 q2 _ => by have q1' := q1; unfold rfC at q1'; rw [G o k (by omega)]; exact f o k q1) m (by rw [G 1 1 (by omega)]; exact s11) t2 (by rw [G 0 7 (by omega), s7, t3]) (by rw [s119, t36]) (by rw [s119]; omega) (by rw [t35, if_neg (by rw [s119]; omega)]) (CB_fr h.cb (fun x k a b => by rw [G x k (by omega)]; exact f x k (by unfold rfC; omega))) tMB (fun d hd => by rw [G 18 d (by omega), f 18 d (by unfold rfC; omega)]; exact h.sdr d hd) (fun q => by rw [s119] at q; omega) (by rw [G 23 0 (by omega)]; exact s23) t42 (by rw [G 26 0 (by omega)]; exact s26) t50⟩
