/-! pure: the tape alone changes -/
theorem RR_tp {σ τ σ' τ' : St} {N : Nat} {sz : Nat → Nat} (h : RR σ τ N sz) (hc : ∀ o k, o ≠ 1 → o ≠ 2 → σ' o k = σ o k) (hm : ∀ o k, o ≠ 1 → ¬ (o = 0 ∧ (k = 2 ∨ k = 0)) → τ' o k = τ o k) (tp : TpI σ') (tm : TmI τ') (r1 : Rw (τ' 1)) (len : σ' 1 1 = τ' 0 2) (byt : ∀ k, k < tlen σ' → σ' 2 k = bM τ' k) : RR σ' τ' N sz := by
  have f : ∀ o k, o ≠ 1 → o ≠ 2 → o ≠ 1 → o ≠ 1 → o ≠ 1 → o ≠ 1 → o ≠ 1 → σ' o k = σ o k := fun o k q1 q2 _ _ _ _ _ => hc o k q1 q2
  have m : ∀ o k, o ≠ 0 → o ≠ 1 → τ' o k = τ o k := fun o k q1 q2 => hm o k q2 (fun z => q1 z.1)
  have c7 := hc 0 7 (by decide) (by decide)
  have c8 := hc 0 8 (by decide) (by decide)
  have c9 := hc 0 9 (by decide) (by decide)
  have c128 := hc 12 8 (by decide) (by decide)
  have c17 := hc 17 0 (by decide) (by decide)
  have m3 := hm 0 3 (by decide) (by decide)
  have m7 := hm 0 7 (by decide) (by decide)
  have m10 := hm 0 10 (by decide) (by decide)
  have m23 := hm 0 23 (by decide) (by decide)
  have m26 := hm 0 26 (by decide) (by decide)
  have m35 := hm 0 35 (by decide) (by decide)
  have m36 := hm 0 36 (by decide) (by decide)
  have m37 := hm 0 37 (by decide) (by decide)
  have hnd : ∀ t x w, nd σ' t x w = nd σ t x w := fun t x w => f 11 _ (by omega) (by omega) (by omega) (by omega) (by omega) (by omega) (by omega)
  refine RR.mk' tp tm r1 len byt ?_ ?_ ?_ ?_ ?_ h.N16 ?_ ?_ (fun t ht => ?_) (fun t ht => ?_) ?_ ?_ ?_ ?_ ?_ ?_ ?_ ?_ ?_ ?_ ?_ ?_ ?_ ?_ ?_ ?_ ?_
  · exact NmI_fr h.n4 (fun x k a b => f x k (by omega) (by omega) (by omega) (by omega) (by omega) (by omega) (by omega))
  · exact NmI_fr h.n7 (fun x k a b => f x k (by omega) (by omega) (by omega) (by omega) (by omega) (by omega) (by omega))
  · refine RNs_nw h.rn (fun x k a b => f x k (by omega) (by omega) (by omega) (by omega) (by omega) (by omega) (by omega)) (fun x k q => ?_)
    rcases q with q | ⟨q1, q2 | q2⟩
    · exact m x k (by omega) (by omega)
    · subst q1 q2; exact m7
    · subst q1 q2; exact m10
  · exact Mnm_nw h.mn (fun x k q => m x k (by omega) (by omega))
  · exact DW_fr h.dw (fun x k q => f x k (by omega) (by omega) (by omega) (by omega) (by omega) (by omega) (by omega))
  · rw [f 3 4 (by omega) (by omega) (by omega) (by omega) (by omega) (by omega) (by omega)]; exact h.c34
  · rw [m23]; exact h.c23
  · exact FT_fr (h.ft t ht) (f 10 t (by omega) (by omega) (by omega) (by omega) (by omega) (by omega) (by omega)) (fun x w _ _ => hnd t x w) (by rw [f 7 3 (by omega) (by omega) (by omega) (by omega) (by omega) (by omega) (by omega)]; exact Int.le_refl _) (by rw [f 4 3 (by omega) (by omega) (by omega) (by omega) (by omega) (by omega) (by omega)]; exact Int.le_refl _)
  · exact FR_fr (h.ft t ht).2.2.2.1.1 (RR_sz h t ht) (h.fr t ht) (fun x w _ _ => hnd t x w) (m 17 t (by omega) (by omega)) (fun o x a b _ => m o _ (by omega) (by omega))
  · rw [c128]; exact h.mk
  · exact NmI_fr h.n14 (fun x k a b => f x k (by omega) (by omega) (by omega) (by omega) (by omega) (by omega) (by omega))
  · exact RN_fr h.rs (fun x k a b => f x k (by omega) (by omega) (by omega) (by omega) (by omega) (by omega) (by omega)) m26 (fun k => m 19 k (by omega) (by omega)) (fun k => m 18 k (by omega) (by omega))
  · rw [c7, m3]; exact h.flt
  · rw [c9, m36]; exact h.wys
  · rw [c9]; exact h.wyr
  · rw [c9, m35]; exact h.wsr
  · exact CB_fr h.cb (fun x k a b => f x k (by omega) (by omega) (by omega) (by omega) (by omega) (by omega) (by omega))
  · exact MB_fr h.mb (fun x k a b => m x k (by omega) (by omega))
  · intro d hd; rw [f 18 d (by omega) (by omega) (by omega) (by omega) (by omega) (by omega) (by omega)]; exact h.sdr d hd
  · intro q
    rw [c9] at q
    exact RDY_fr (RR_sz h) (h.rdy q) c17 c8 c9 (fun t x w _ _ _ => hnd t x w) (fun o k a b => f o k (by omega) (by omega) (by omega) (by omega) (by omega) (by omega) (by omega)) m26 m37 (fun o k a b => m o k (by omega) (by omega))
  · rw [hc 23 0 (by decide) (by decide), hm 0 42 (by decide) (by decide)]; exact h.us
  · rw [hc 23 0 (by decide) (by decide)]; exact h.usr
  · intro k hk; rw [hc 23 0 (by decide) (by decide)] at hk; rw [hc 24 k (by decide) (by decide), hm 23 k (by decide) (fun z => absurd z.1 (by decide))]; exact h.usc k hk
  · rw [hc 26 0 (by decide) (by decide), hm 0 50 (by decide) (by decide)]; exact h.ws
  · rw [hc 26 0 (by decide) (by decide)]; exact h.wsr2
  · intro k hk; rw [hc 26 0 (by decide) (by decide)] at hk; rw [hc 27 k (by decide) (by decide), hm 29 k (by decide) (fun z => absurd z.1 (by decide))]; exact h.wsc k hk
theorem R_letterL {σ τ : St} {N : Nat} {sz : Nat → Nat} (h : RR σ τ N sz) {a1 a2 a3 : Int} (e1 : w32 a1 = a1) (e2 : w32 a2 = a2) (e3 : w32 a3 = a3) (h0 : a1 = 0) : wp_X8_letter_B21 a2 a3 (fun k r σ' => wp_X9_letter a1 a2 a3 (fun r' τ' => RX cd1 k r σ' r' τ') τ) σ := by
  have rn := h.rn.1
  have nm := h.n4
  have s0 : σ 4 3 = τ 0 7 := rn.1
  have sr : 0 ≤ σ 4 3 ∧ σ 4 3 ≤ 16 := ⟨nm.2.1, nm.2.2.1⟩
  have w1 : w32 (σ 4 3) = σ 4 3 := w32_id (by omega) (by omega)
  have w2 : w32 (τ 0 7) = σ 4 3 := by rw [← s0]; exact w1
  have bad : wp_X9_letter_B55 a1 a2 a3 (fun r' τ' => RX cd1 4 0 σ r' τ') τ := by
    unfold wp_X9_letter_B55 wp_X9_letter_B56 wp_X9_letter_B69
    refine ⟨fun _ τ1 et => ?_, fun z => absurd w32_0 z⟩
    rw [et, su_at]
    exact ⟨fun z => absurd z (by decide), fun _ => RX_t (cd := cd1) (k := 4) h 1 (by decide) rfl 0 0⟩
  have road : ∀ (k : Nat) (r : Int), (0 ≤ a2 → 0 ≤ a3 → a2 < σ 4 3 → a3 < σ 6 a2.toNat → wp_X9_letter_B51 a1 a2 a3 (fun r' τ' => RX cd1 k r σ r' τ') τ) → (¬ (0 ≤ a2 ∧ 0 ≤ a3 ∧ a2 < σ 4 3 ∧ a3 < σ 6 a2.toNat) → wp_X9_letter_B55 a1 a2 a3 (fun r' τ' => RX cd1 k r σ r' τ') τ) → wp_X9_letter a1 a2 a3 (fun r' τ' => RX cd1 k r σ r' τ') τ := fun k r g1 g2 => by
    unfold wp_X9_letter
    rw [e1, e2, e3, w2]
    refine ⟨fun c1 => g2 (by omega), fun c1 => ⟨fun c2 => g2 (by omega), fun c2 => ⟨fun c3 => ?_, fun c3 => absurd h0 c3⟩⟩⟩
    refine ⟨fun c4 => g2 (by omega), fun c4 => ⟨by omega, ?_⟩⟩
    obtain ⟨n, hn⟩ := Int.eq_ofNat_of_zero_le (show 0 ≤ a2 by omega)
    have tn : a2.toNat = n := by rw [hn]; exact Int.toNat_natCast n
    have q := (rn.2 n (by omega)).1
    have lr := nm.2.2.2.1 n
    have q1 : σ 6 n = τ 3 n := q
    have lr1 : 0 ≤ σ 6 n ∧ σ 6 n ≤ 8 := lr
    rw [tn] at g1 g2 ⊢
    rw [← q1, w32_id (by omega) (by omega)]
    exact ⟨fun c5 => g2 (by omega), fun c5 => g1 (by omega) (by omega) (by omega) (by omega)⟩
  unfold wp_X8_letter_B21 wp_X8_letter_B51
  rw [e2, e3, w1]
  refine ⟨fun c1 => road 4 0 (fun z => absurd z (by omega)) (fun _ => bad), fun c1 => ⟨fun c2 => road 4 0 (fun _ _ z => absurd z (by omega)) (fun _ => bad), fun c2 => ⟨fun c3 => road 4 0 (fun _ z => absurd z (by omega)) (fun _ => bad), fun c3 => ⟨by omega, ?_⟩⟩⟩⟩
  obtain ⟨n, hn⟩ := Int.eq_ofNat_of_zero_le (show 0 ≤ a2 by omega)
  have tn : a2.toNat = n := by rw [hn]; exact Int.toNat_natCast n
  have lr : 0 ≤ σ 6 n ∧ σ 6 n ≤ 8 := nm.2.2.2.1 n
  rw [tn] at road ⊢
  rw [w32_id (show -2147483648 ≤ σ 6 n by omega) (by omega)]
  refine ⟨fun c4 => ?_, fun c4 => road 4 0 (fun _ _ _ z => absurd z c4) (fun _ => bad)⟩
  obtain ⟨i, hi⟩ := Int.eq_ofNat_of_zero_le (show 0 ≤ a3 by omega)
  have q : σ 5 (8 * n + i) = τ 2 (8 * n + i) := (rn.2 n (by omega)).2 i (by rw [← hi]; exact c4)
  have wd : σ 4 0 = 8 := nm.1
  have ev : w32 (a2 * 8 + a3) = ((8 * n + i : Nat) : Int) := by rw [w32_id (by omega) (by omega)]; omega
  have ev2 : w32 (8 * a2 + a3) = ((8 * n + i : Nat) : Int) := by rw [w32_id (by omega) (by omega)]; omega
  have en : (((8 * n + i : Nat) : Int)).toNat = 8 * n + i := Int.toNat_natCast _
  have bd : 0 ≤ ((8 * n + i : Nat) : Int) ∧ ((8 * n + i : Nat) : Int) < 128 := by omega
  unfold wp_X2_begin
  rw [wd]
  dsimp only
  rw [ev, en]
  refine ⟨bd, road 0 _ (fun _ _ _ _ => ?_) (fun z => absurd (show 0 ≤ a2 ∧ 0 ≤ a3 ∧ a2 < σ 4 3 ∧ a3 < σ 6 n by omega) z)⟩
  unfold wp_X9_letter_B51 wp_X9_letter_B56 wp_X9_letter_B69
  refine ⟨fun z => absurd z (by decide), fun _ τ1 et => ?_⟩
  rw [et, su_at, e1]
  refine ⟨fun _ => ⟨fun z => ?_, fun z => absurd h0 z⟩, fun z => absurd (by decide) z⟩
  rw [ev2, en]
  exact ⟨by omega, RX_n h rfl (by rw [su0 _ _ _ (by decide)]; exact q.symm)⟩
theorem R_letterW {σ τ : St} {N : Nat} {sz : Nat → Nat} (h : RR σ τ N sz) {a1 a2 a3 : Int} (e1 : w32 a1 = a1) (e2 : w32 a2 = a2) (e3 : w32 a3 = a3) (h0 : ¬ a1 = 0) : wp_X8_letter_B21_1 a2 a3 (fun k r σ' => wp_X9_letter a1 a2 a3 (fun r' τ' => RX cd1 k r σ' r' τ') τ) σ := by
  have rn := h.rn.2
  have nm := h.n7
  have s0 : σ 7 3 = τ 0 10 := rn.1
  have sr : 0 ≤ σ 7 3 ∧ σ 7 3 ≤ 32 := ⟨nm.2.1, nm.2.2.1⟩
  have w1 : w32 (σ 7 3) = σ 7 3 := w32_id (by omega) (by omega)
  have w2 : w32 (τ 0 10) = σ 7 3 := by rw [← s0]; exact w1
  have bad : wp_X9_letter_B55 a1 a2 a3 (fun r' τ' => RX cd1 4 0 σ r' τ') τ := by
    unfold wp_X9_letter_B55 wp_X9_letter_B56 wp_X9_letter_B69
    refine ⟨fun _ τ1 et => ?_, fun z => absurd w32_0 z⟩
    rw [et, su_at]
    exact ⟨fun z => absurd z (by decide), fun _ => RX_t (cd := cd1) (k := 4) h 1 (by decide) rfl 0 0⟩
  have road : ∀ (k : Nat) (r : Int), (0 ≤ a2 → 0 ≤ a3 → a2 < σ 7 3 → a3 < σ 9 a2.toNat → wp_X9_letter_B51 a1 a2 a3 (fun r' τ' => RX cd1 k r σ r' τ') τ) → (¬ (0 ≤ a2 ∧ 0 ≤ a3 ∧ a2 < σ 7 3 ∧ a3 < σ 9 a2.toNat) → wp_X9_letter_B55 a1 a2 a3 (fun r' τ' => RX cd1 k r σ r' τ') τ) → wp_X9_letter a1 a2 a3 (fun r' τ' => RX cd1 k r σ r' τ') τ := fun k r g1 g2 => by
    unfold wp_X9_letter
    rw [e1, e2, e3, w2]
    refine ⟨fun c1 => g2 (by omega), fun c1 => ⟨fun c2 => g2 (by omega), fun c2 => ⟨fun c3 => absurd c3 h0, fun c3 => ?_⟩⟩⟩
    refine ⟨fun c4 => g2 (by omega), fun c4 => ⟨by omega, ?_⟩⟩
    obtain ⟨n, hn⟩ := Int.eq_ofNat_of_zero_le (show 0 ≤ a2 by omega)
    have tn : a2.toNat = n := by rw [hn]; exact Int.toNat_natCast n
    have q := (rn.2 n (by omega)).1
    have lr := nm.2.2.2.1 n
    have q1 : σ 9 n = τ 5 n := q
    have lr1 : 0 ≤ σ 9 n ∧ σ 9 n ≤ 12 := lr
    rw [tn] at g1 g2 ⊢
    rw [← q1, w32_id (by omega) (by omega)]
    exact ⟨fun c5 => g2 (by omega), fun c5 => g1 (by omega) (by omega) (by omega) (by omega)⟩
  unfold wp_X8_letter_B21_1 wp_X8_letter_B51
  rw [e2, e3, w1]
  refine ⟨fun c1 => road 4 0 (fun z => absurd z (by omega)) (fun _ => bad), fun c1 => ⟨fun c2 => road 4 0 (fun _ _ z => absurd z (by omega)) (fun _ => bad), fun c2 => ⟨fun c3 => road 4 0 (fun _ z => absurd z (by omega)) (fun _ => bad), fun c3 => ⟨by omega, ?_⟩⟩⟩⟩
  obtain ⟨n, hn⟩ := Int.eq_ofNat_of_zero_le (show 0 ≤ a2 by omega)
  have tn : a2.toNat = n := by rw [hn]; exact Int.toNat_natCast n
  have lr : 0 ≤ σ 9 n ∧ σ 9 n ≤ 12 := nm.2.2.2.1 n
  rw [tn] at road ⊢
  rw [w32_id (show -2147483648 ≤ σ 9 n by omega) (by omega)]
  refine ⟨fun c4 => ?_, fun c4 => road 4 0 (fun _ _ _ z => absurd z c4) (fun _ => bad)⟩
  obtain ⟨i, hi⟩ := Int.eq_ofNat_of_zero_le (show 0 ≤ a3 by omega)
  have q : σ 8 (12 * n + i) = τ 4 (12 * n + i) := (rn.2 n (by omega)).2 i (by rw [← hi]; exact c4)
  have wd : σ 7 0 = 12 := nm.1
  have ev : w32 (a2 * 12 + a3) = ((12 * n + i : Nat) : Int) := by rw [w32_id (by omega) (by omega)]; omega
  have ev2 : w32 (12 * a2 + a3) = ((12 * n + i : Nat) : Int) := by rw [w32_id (by omega) (by omega)]; omega
  have en : (((12 * n + i : Nat) : Int)).toNat = 12 * n + i := Int.toNat_natCast _
  have bd : 0 ≤ ((12 * n + i : Nat) : Int) ∧ ((12 * n + i : Nat) : Int) < 384 := by omega
  unfold wp_X2_begin
  rw [wd]
  dsimp only
  rw [ev, en]
  refine ⟨bd, road 0 _ (fun _ _ _ _ => ?_) (fun z => absurd (show 0 ≤ a2 ∧ 0 ≤ a3 ∧ a2 < σ 7 3 ∧ a3 < σ 9 n by omega) z)⟩
  unfold wp_X9_letter_B51 wp_X9_letter_B56 wp_X9_letter_B69
  refine ⟨fun z => absurd z (by decide), fun _ τ1 et => ?_⟩
  rw [et, su_at, e1]
  refine ⟨fun _ => ⟨fun z => absurd z h0, fun z => ?_⟩, fun z => absurd (by decide) z⟩
  rw [ev2, en]
  exact ⟨by omega, RX_n h rfl (by rw [su0 _ _ _ (by decide)]; exact q.symm)⟩
theorem R_letter {σ τ : St} (h : R σ τ) {a1 a2 a3 : Int} (e1 : w32 a1 = a1) (e2 : w32 a2 = a2) (e3 : w32 a3 = a3) : wp_X8_letter a1 a2 a3 (fun k r σ' => wp_X9_letter a1 a2 a3 (fun r' τ' => RX cd1 k r σ' r' τ') τ) σ := by
  obtain ⟨N, sz, h⟩ := h
  unfold wp_X8_letter
  rw [e1]
  exact ⟨fun z => R_letterL h e1 e2 e3 z, fun z => R_letterW h e1 e2 e3 z⟩
theorem R_end {σ τ : St} (h : R σ τ) {a1 : Int} (e1 : w32 a1 = a1) : wp_X8_end a1 (fun k r σ' => wp_X9_end a1 (fun τ' => RX cd1 k r σ' r τ') τ) σ := by
  obtain ⟨N, sz, h⟩ := h
  have len := h.len
  have tp := h.tp
  have w11 : w32 (σ 1 1) = σ 1 1 := w32_id (by have := tp.1; omega) (by have := tp.2.1; omega)
  have w02 : w32 (τ 0 2) = σ 1 1 := by rw [← len]; exact w11
  have b2 : wp_X9_end_B13 a1 (fun τ' => RX cd1 2 0 σ 0 τ') τ := by
    unfold wp_X9_end_B13 wp_X9_end_B18 wp_X9_end_B37
    intro τ1 et
    have e0 : τ1 0 0 = 1 := by rw [et, su_at]
    rw [e0]
    refine ⟨fun _ τ2 et2 => ?_, fun z => absurd z (by decide)⟩
    have e2 : τ2 = su τ 0 0 1 := by
      rw [et2, et]
      funext o k
      by_cases q : o = 0 ∧ k = 2
      · obtain ⟨q1, q2⟩ := q
        subst q1 q2
        rw [su_at]
      · rw [su_ko _ _ q]
    rw [e2]
    exact RX_t (cd := cd1) (k := 2) h 1 (by decide) rfl 0 0
  unfold wp_X8_end wp_X8_end_B15 wp_X9_end
  rw [e1, w11, w02]
  refine ⟨fun c1 => ⟨fun _ => b2, fun z => absurd c1 z⟩, fun c1 => ⟨fun c2 σ1 es => ⟨fun z => absurd z c1, fun _ => ⟨fun _ => ?_, fun z => absurd c2 z⟩⟩, fun c2 => ⟨fun z => absurd z c1, fun _ => ⟨fun z => absurd z c2, fun _ => b2⟩⟩⟩⟩
  unfold wp_X9_end_B18 wp_X9_end_B37
  intro τ1 et
  have e0 : τ1 0 0 = 0 := by rw [et, su_at]
  rw [e0]
  refine ⟨fun z => absurd (by decide) z, fun _ τ2 et2 => ?_⟩
  rw [es, et2, et]
  refine ⟨by rw [su_ko _ _ (fun z => absurd z.2 (by decide)), su_at]; rfl, fun _ => rfl, N, sz, ?_⟩
  have a0 : 0 ≤ a1 := by omega
  have al := tp.2.1
  have l1 : su σ 1 1 a1 1 1 = a1 := su_at _ _ _ _
  have m1 : su (su τ 0 0 0) 0 2 a1 0 2 = a1 := su_at _ _ _ _
  have g2 : ∀ k, su σ 1 1 a1 2 k = σ 2 k := fun k => su_ko _ _ (fun z => absurd z.1 (by decide))
  have g1 : ∀ k, su (su τ 0 0 0) 0 2 a1 1 k = τ 1 k := fun k => by rw [su_ko _ _ (fun z => absurd z.1 (by decide)), su_ko _ _ (fun z => absurd z.1 (by decide))]
  refine RR_tp h (fun o k q1 q2 => su_ko _ _ (fun z => q1 z.1)) (fun o k q1 q2 => by rw [su_ko _ _ (fun z => q2 ⟨z.1, Or.inl z.2⟩), su_ko _ _ (fun z => q2 ⟨z.1, Or.inr z.2⟩)]) ⟨by rw [l1]; exact a0, by rw [l1]; omega, fun k => by rw [g2]; exact tp.2.2 k⟩ ⟨by rw [m1]; exact a0, by rw [m1]; omega⟩ (fun k => by rw [g1]; exact h.r1 k) (l1.trans m1.symm) (fun k hk => ?_)
  unfold tlen at hk
  rw [l1] at hk
  rw [g2]
  unfold bM
  rw [g1]
  exact h.byt k (by unfold tlen; omega)
theorem R_feed {σ τ : St} (h : R σ τ) {a1 a2 a3 a4 a5 : Int} : wp_X8_feed a1 a2 a3 a4 a5 (fun k r σ' => wp_X9_feed a1 a2 a3 a4 a5 (fun r' τ' => RX cd1 k r σ' r' τ') τ) σ := by
  obtain ⟨N, sz, h⟩ := h
  have tp := h.tp
  obtain ⟨L, hL⟩ := Int.eq_ofNat_of_zero_le tp.1
  have L1000 : L ≤ 1000 := by have := tp.2.1; omega
  have hM : τ 0 2 = (L : Int) := by rw [← h.len]; exact hL
  have wC : w32 (σ 1 1 + 20) = (L : Int) + 20 := by rw [hL]; exact w32_id (by omega) (by omega)
  have wM : w32 (τ 0 2 + 20) = (L : Int) + 20 := by rw [hM]; exact w32_id (by omega) (by omega)
  unfold wp_X8_feed
  rw [wC]
  refine ⟨fun c1 => ?_, fun c1 => ?_⟩
  · have L20 : L + 20 ≤ 1000 := by omega
    refine sp_append (L := L) hL (by omega) (fun σ1 l1 b1 f1 => ?_)
    refine sp_append (L := L + 4) l1 (by omega) (fun σ2 l2 b2 f2 => ?_)
    refine sp_append (L := L + 4 + 4) l2 (by omega) (fun σ3 l3 b3 f3 => ?_)
    refine sp_append (L := L + 4 + 4 + 4) l3 (by omega) (fun σ4 l4 b4 f4 => ?_)
    refine sp_append (L := L + 4 + 4 + 4 + 4) l4 (by omega) (fun σ5 l5 b5 f5 => ?_)
    have bb : ∀ j, j < 20 → σ5 2 (L + j) = bt (w5 a1 a2 a3 a4 a5 j) (j % 4) := by
      intro j hj
      unfold w5
      by_cases c16 : j < 16
      · rw [f5 2 (L + j) (fun z => absurd z.1 (by decide)) (fun z => by omega)]
        by_cases c12 : j < 12
        · rw [f4 2 (L + j) (fun z => absurd z.1 (by decide)) (fun z => by omega)]
          by_cases c8 : j < 8
          · rw [f3 2 (L + j) (fun z => absurd z.1 (by decide)) (fun z => by omega)]
            by_cases c4 : j < 4
            · rw [f2 2 (L + j) (fun z => absurd z.1 (by decide)) (fun z => by omega), b1 j c4, if_pos c4, Nat.mod_eq_of_lt c4]
            · have q := b2 (j - 4) (by omega)
              rw [show L + 4 + (j - 4) = L + j by omega] at q
              rw [q, if_neg c4, if_pos c8, show (j - 4) = j % 4 by omega]
          · have q := b3 (j - 8) (by omega)
            rw [show L + 4 + 4 + (j - 8) = L + j by omega] at q
            rw [q, if_neg (by omega), if_neg c8, if_pos c12, show (j - 8) = j % 4 by omega]
        · have q := b4 (j - 12) (by omega)
          rw [show L + 4 + 4 + 4 + (j - 12) = L + j by omega] at q
          rw [q, if_neg (by omega), if_neg (by omega), if_neg c12, if_pos c16, show (j - 12) = j % 4 by omega]
      · have q := b5 (j - 16) (by omega)
        rw [show L + 4 + 4 + 4 + 4 + (j - 16) = L + j by omega] at q
        rw [q, if_neg (by omega), if_neg (by omega), if_neg (by omega), if_neg c16, show (j - 16) = j % 4 by omega]
    have ff : ∀ o k, ¬ (o = 1 ∧ k = 1) → ¬ (o = 2 ∧ L ≤ k ∧ k < L + 20) → σ5 o k = σ o k := fun o k q1 q2 => (f5 o k q1 (fun z => q2 (by omega))).trans ((f4 o k q1 (fun z => q2 (by omega))).trans ((f3 o k q1 (fun z => q2 (by omega))).trans ((f2 o k q1 (fun z => q2 (by omega))).trans (f1 o k q1 (fun z => q2 (by omega))))))
    have l5' : σ5 1 1 = ((L + 20 : Nat) : Int) := by rw [l5]
    clear f1 f2 f3 f4 f5 b1 b2 b3 b4 b5
    unfold wp_X9_feed
    rw [wM]
    refine ⟨fun _ => ?_, fun z => absurd c1 z⟩
    unfold wp_X9_feed_B19
    intro τ1 et
    have g1 : ∀ o k, ¬ (o = 0 ∧ k = 0) → τ1 o k = τ o k := fun o k q => by rw [et]; exact su_ko _ _ q
    have z1 : τ1 0 0 = 0 := by rw [et, su_at]
    rw [z1]
    refine ⟨fun _ => ?_, fun z => absurd (by decide) z⟩
    refine sp_mfeed (L := L) ((g1 0 2 (fun z => absurd z.2 (by decide))).trans hM) L20 (fun τ2 m2 c2 k2 => ?_)
    have gg : ∀ o k, o ≠ 1 → ¬ (o = 0 ∧ (k = 2 ∨ k = 0)) → τ2 o k = τ o k := fun o k q1 q2 => (k2 o k (fun z => q2 ⟨z.1, Or.inl z.2⟩) (fun z => q1 z.1)).trans (g1 o k (fun z => q2 ⟨z.1, Or.inr z.2⟩))
    have old : ∀ k, ¬ (L ≤ k ∧ k < L + 20) → τ2 1 k = τ 1 k := fun k q => (k2 1 k (fun z => absurd z.1 (by decide)) (fun z => q z.2)).trans (g1 1 k (fun z => absurd z.1 (by decide)))
    have oldC : ∀ k, ¬ (L ≤ k ∧ k < L + 20) → σ5 2 k = σ 2 k := fun k q => ff 2 k (fun z => absurd z.1 (by decide)) (fun z => q z.2)
    refine ⟨(k2 0 0 (fun z => absurd z.2 (by decide)) (fun z => absurd z.1 (by decide))).trans z1, fun _ => m2.trans l5'.symm, N, sz, ?_⟩
    refine RR_tp h (fun o k q1 q2 => ff o k (fun z => q1 z.1) (fun z => q2 z.1)) gg ⟨by rw [l5']; omega, by rw [l5']; omega, fun k => ?_⟩ ⟨by rw [m2]; omega, by rw [m2]; omega⟩ (fun k => ?_) (l5'.trans m2.symm) (fun k hk => ?_)
    · by_cases q : L ≤ k ∧ k < L + 20
      · have e := bb (k - L) (by omega)
        rw [show L + (k - L) = k by omega] at e
        rw [e]
        exact bt_r _ _
      · rw [oldC k q]; exact tp.2.2 k
    · by_cases q : L ≤ k ∧ k < L + 20
      · have e := (c2 (k - L) (by omega)).2
        rw [show L + (k - L) = k by omega] at e
        exact e
      · rw [old k q]; exact h.r1 k
    · unfold tlen at hk
      rw [l5', Int.toNat_natCast] at hk
      unfold bM
      by_cases q : L ≤ k ∧ k < L + 20
      · have e1 := bb (k - L) (by omega)
        have e2 := (c2 (k - L) (by omega)).1
        rw [show L + (k - L) = k by omega] at e1 e2
        rw [e1, e2]
      · rw [old k q, oldC k q]
        exact h.byt k (by unfold tlen; rw [hL, Int.toNat_natCast]; omega)
  · unfold wp_X9_feed
    rw [wM]
    refine ⟨fun z => absurd z c1, fun _ => ?_⟩
    unfold wp_X9_feed_B19
    intro τ1 et
    rw [et, su_at]
    exact ⟨fun z => absurd z (by decide), fun _ => RX_t (cd := cd1) (k := 1) h 1 (by decide) rfl 0 0⟩
