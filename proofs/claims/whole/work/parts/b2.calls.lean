/-! pure: the calls that may throw, in both worlds -/
theorem RX_t {cd : Nat → Int} {k : Nat} {σ τ : St} {N : Nat} {sz : Nat → Nat} (h : RR σ τ N sz) (c : Int) (hk : k ≠ 0) (hc : c = cd k) (r r' : Int) : RX cd k r σ r' (su τ 0 0 c) := ⟨by rw [su_at]; exact hc, fun z => absurd z hk, N, sz, RR_0 h c⟩
theorem RX_n {cd : Nat → Int} {σ τ : St} {N : Nat} {sz : Nat → Nat} (h : RR σ τ N sz) (hc : 0 = cd 0) {r r' : Int} (hr : r' = r) : RX cd 0 r σ r' (su τ 0 0 0) := ⟨by rw [su_at]; exact hc, fun _ => hr, N, sz, RR_0 h 0⟩
theorem su0 (τ : St) (c : Int) {o : Nat} (k : Nat) (h : o ≠ 0) : su τ 0 0 c o k = τ o k := su_ko _ _ (fun z => h z.1)
theorem su0k (τ : St) (c : Int) {k : Nat} (h : k ≠ 0) : su τ 0 0 c 0 k = τ 0 k := su_ko _ _ (fun z => h z.2)
theorem R_use {σ τ : St} (h : R σ τ) {a1 a2 : Int} (e1 : w32 a1 = a1) (e2 : w32 a2 = a2) : wp_X8_use a1 a2 (fun k r σ' => wp_X9_use a1 a2 (fun r' τ' => RX cdU k r σ' r' τ') τ) σ := by
  obtain ⟨N, sz, h⟩ := h
  have u0 := h.us
  have ur := h.usr
  have uc := h.usc
  have wu : w32 (σ 23 0) = σ 23 0 := w32_id (by omega) (by omega)
  have wt : w32 (τ 0 42) = σ 23 0 := by rw [← u0]; exact wu
  have bad1 : ∀ k r, k ≠ 0 → 1 = cdU k → wp_X9_use_B13 a1 a2 (fun r' τ' => RX cdU k r σ r' τ') τ := fun k r hk hc => by
    unfold wp_X9_use_B13 wp_X9_use_B32
    intro τ1 et
    rw [et, su_at]
    exact ⟨fun z => absurd z (by decide), fun _ => RX_t h 1 hk hc r 0⟩
  have bad2 : ∀ k r, k ≠ 0 → 2 = cdU k → wp_X9_use_B27 a1 a2 (fun r' τ' => RX cdU k r σ r' τ') τ := fun k r hk hc => by
    unfold wp_X9_use_B27 wp_X9_use_B32
    intro τ1 et
    rw [et, su_at]
    exact ⟨fun z => absurd z (by decide), fun _ => RX_t h 2 hk hc r 0⟩
  have b4 := bad1 4 0 (by decide) rfl
  have b2 := bad2 2 0 (by decide) rfl
  clear bad1 bad2
  unfold wp_X8_use wp_X8_use_B15 wp_X8_use_B35 wp_X9_use
  rw [e1, e2, wu, wt]
  refine ⟨fun c1 => ⟨fun _ => b4, fun z => absurd c1 z⟩, fun c1 => ⟨fun c2 => ⟨fun c3 => ⟨fun z => absurd z c1, fun _ => ⟨fun _ => ⟨fun _ => b2, fun z => absurd c3 z⟩, fun z => absurd c2 z⟩⟩, fun c3 => ⟨fun c4 => ?_, fun c4 => ⟨fun z => absurd z c1, fun _ => ⟨fun _ => ⟨fun z => absurd z c3, fun _ => ⟨fun z => absurd z (by omega), fun _ => b2⟩⟩, fun z => absurd c2 z⟩⟩⟩⟩, fun c2 => ⟨fun z => absurd z c1, fun _ => ⟨fun z => absurd z c2, fun _ => b4⟩⟩⟩⟩
  obtain ⟨u, hu⟩ := Int.eq_ofNat_of_zero_le (show 0 ≤ a1 by omega)
  obtain ⟨w, hw⟩ := Int.eq_ofNat_of_zero_le (show 0 ≤ a2 by omega)
  refine sp_useCell (u := u) (w := w) (by omega) (by omega) hu hw ?_
  refine ⟨fun z => absurd z c1, fun _ => ⟨fun _ => ⟨fun z => absurd z c3, fun _ => ⟨fun _ => ?_, fun z => absurd (show a2 ≤ 6 by omega) z⟩⟩, fun z => absurd c2 z⟩⟩
  unfold wp_X9_use_B32
  intro τ1 et
  rw [et, su_at]
  have ev : w32 (7 * a1 + a2) = ((7 * u + w : Nat) : Int) := by rw [w32_id (by omega) (by omega)]; omega
  have en : (((7 * u + w : Nat) : Int)).toNat = 7 * u + w := Int.toNat_natCast _
  refine ⟨fun _ => ⟨by rw [ev]; omega, ?_⟩, fun z => absurd (by decide) z⟩
  rw [ev, en]
  refine RX_n h rfl ?_
  rw [su0 _ _ _ (by decide)]
  exact (uc (7 * u + w) (by omega)).symm
theorem R_whole {σ τ : St} (h : R σ τ) {a1 a2 : Int} (e1 : w32 a1 = a1) (e2 : w32 a2 = a2) : wp_X8_whole a1 a2 (fun k r σ' => wp_X9_whole a1 a2 (fun r' τ' => RX cdU k r σ' r' τ') τ) σ := by
  obtain ⟨N, sz, h⟩ := h
  have u0 := h.ws
  have ur := h.wsr2
  have uc := h.wsc
  have wu : w32 (σ 26 0) = σ 26 0 := w32_id (by omega) (by omega)
  have wt : w32 (τ 0 50) = σ 26 0 := by rw [← u0]; exact wu
  have bad1 : ∀ k r, k ≠ 0 → 1 = cdU k → wp_X9_whole_B13 a1 a2 (fun r' τ' => RX cdU k r σ r' τ') τ := fun k r hk hc => by
    unfold wp_X9_whole_B13 wp_X9_whole_B31
    intro τ1 et
    rw [et, su_at]
    exact ⟨fun z => absurd z (by decide), fun _ => RX_t h 1 hk hc r 0⟩
  have bad2 : ∀ k r, k ≠ 0 → 2 = cdU k → wp_X9_whole_B26 a1 a2 (fun r' τ' => RX cdU k r σ r' τ') τ := fun k r hk hc => by
    unfold wp_X9_whole_B26 wp_X9_whole_B31
    intro τ1 et
    rw [et, su_at]
    exact ⟨fun z => absurd z (by decide), fun _ => RX_t h 2 hk hc r 0⟩
  have b4 := bad1 4 0 (by decide) rfl
  have b2 := bad2 2 0 (by decide) rfl
  clear bad1 bad2
  unfold wp_X8_whole wp_X8_whole_B15 wp_X8_whole_B35 wp_X9_whole
  rw [e1, e2, wu, wt]
  refine ⟨fun c1 => ⟨fun _ => b4, fun z => absurd c1 z⟩, fun c1 => ⟨fun c2 => ⟨fun c3 => ⟨fun z => absurd z c1, fun _ => ⟨fun _ => ⟨fun _ => b2, fun z => absurd c3 z⟩, fun z => absurd c2 z⟩⟩, fun c3 => ⟨fun c4 => ?_, fun c4 => ⟨fun z => absurd z c1, fun _ => ⟨fun _ => ⟨fun z => absurd z c3, fun _ => ⟨fun z => absurd z (by omega), fun _ => b2⟩⟩, fun z => absurd c2 z⟩⟩⟩⟩, fun c2 => ⟨fun z => absurd z c1, fun _ => ⟨fun z => absurd z c2, fun _ => b4⟩⟩⟩⟩
  obtain ⟨u, hu⟩ := Int.eq_ofNat_of_zero_le (show 0 ≤ a1 by omega)
  obtain ⟨w, hw⟩ := Int.eq_ofNat_of_zero_le (show 0 ≤ a2 by omega)
  have ev0 : w32 (a1 * 6 + a2) = ((6 * u + w : Nat) : Int) := by rw [w32_id (by omega) (by omega)]; omega
  have ev : w32 (6 * a1 + a2) = ((6 * u + w : Nat) : Int) := by rw [w32_id (by omega) (by omega)]; omega
  have en : (((6 * u + w : Nat) : Int)).toNat = 6 * u + w := Int.toNat_natCast _
  have lt : ((6 * u + w : Nat) : Int) < 576 := by omega
  unfold wp_X7_cell
  rw [ev0, en]
  refine ⟨⟨by omega, lt⟩, ?_⟩
  refine ⟨fun z => absurd z c1, fun _ => ⟨fun _ => ⟨fun z => absurd z c3, fun _ => ⟨fun _ => ?_, fun z => absurd (show a2 ≤ 5 by omega) z⟩⟩, fun z => absurd c2 z⟩⟩
  unfold wp_X9_whole_B31
  intro τ1 et
  rw [et, su_at]
  refine ⟨fun _ => ⟨by rw [ev]; omega, ?_⟩, fun z => absurd (by decide) z⟩
  rw [ev, en]
  refine RX_n h rfl ?_
  rw [su0 _ _ _ (by decide)]
  exact (uc (6 * u + w) (by omega)).symm
theorem R_count {σ τ : St} (h : R σ τ) {a1 : Int} (e1 : w32 a1 = a1) : wp_X8_count a1 (fun k r σ' => wp_X9_count a1 (fun r' τ' => RX cd1 k r σ' r' τ') τ) σ := by
  obtain ⟨N, sz, h⟩ := h
  have ok : ∀ r : Int, 0 ≤ a1 → a1 ≤ 6 → (a1 = 0 → τ 0 23 = r) → (a1 = 1 → τ 0 7 = r) → (a1 = 2 → τ 0 10 = r) → (a1 = 3 → τ 0 26 = r) → (a1 = 4 → τ 0 36 = r) → (a1 = 5 → τ 0 42 = r) → (a1 = 6 → τ 0 50 = r) → wp_X9_count a1 (fun r' τ' => RX cd1 0 r σ r' τ') τ := fun r l1 l2 q0 q1 q2 q3 q4 q5 q6 => by
    unfold wp_X9_count wp_X9_count_B16
    rw [e1]
    refine ⟨fun z => absurd z (by omega), fun _ => ⟨fun _ τ1 et => ?_, fun z => absurd l2 z⟩⟩
    rw [et, su_at]
    refine ⟨fun _ => ⟨fun n0 => ⟨fun n1 => ⟨fun n2 => ⟨fun n3 => ⟨fun n4 => ⟨fun n5 => ?_, fun y => ?_⟩, fun y => ?_⟩, fun y => ?_⟩, fun y => ?_⟩, fun y => ?_⟩, fun y => ?_⟩, fun z => absurd (by decide) z⟩
    · exact RX_n h rfl (by rw [su0k _ _ (by decide)]; exact q6 (by omega))
    · exact RX_n h rfl (by rw [su0k _ _ (by decide)]; exact q5 y)
    · exact RX_n h rfl (by rw [su0k _ _ (by decide)]; exact q4 y)
    · exact RX_n h rfl (by rw [su0k _ _ (by decide)]; exact q3 y)
    · exact RX_n h rfl (by rw [su0k _ _ (by decide)]; exact q2 y)
    · exact RX_n h rfl (by rw [su0k _ _ (by decide)]; exact q1 y)
    · exact RX_n h rfl (by rw [su0k _ _ (by decide)]; exact q0 y)
  unfold wp_X8_count
  rw [e1]
  refine ⟨fun y => ?_, fun y => ?_, fun y => ?_, fun y => ?_, fun y => ?_, fun y => ?_, fun y => ?_, fun y => ?_⟩
  · exact ok _ (by omega) (by omega) (fun _ => h.c23.trans h.c34.symm) (fun z => by omega) (fun z => by omega) (fun z => by omega) (fun z => by omega) (fun z => by omega) (fun z => by omega)
  · exact ok _ (by omega) (by omega) (fun z => by omega) (fun _ => h.rn.1.1.symm) (fun z => by omega) (fun z => by omega) (fun z => by omega) (fun z => by omega) (fun z => by omega)
  · exact ok _ (by omega) (by omega) (fun z => by omega) (fun z => by omega) (fun _ => h.rn.2.1.symm) (fun z => by omega) (fun z => by omega) (fun z => by omega) (fun z => by omega)
  · exact ok _ (by omega) (by omega) (fun z => by omega) (fun z => by omega) (fun z => by omega) (fun _ => h.rs.1.symm) (fun z => by omega) (fun z => by omega) (fun z => by omega)
  · exact ok _ (by omega) (by omega) (fun z => by omega) (fun z => by omega) (fun z => by omega) (fun z => by omega) (fun _ => h.wys.symm) (fun z => by omega) (fun z => by omega)
  · exact ok _ (by omega) (by omega) (fun z => by omega) (fun z => by omega) (fun z => by omega) (fun z => by omega) (fun z => by omega) (fun _ => h.us.symm) (fun z => by omega)
  · exact ok _ (by omega) (by omega) (fun z => by omega) (fun z => by omega) (fun z => by omega) (fun z => by omega) (fun z => by omega) (fun z => by omega) (fun _ => h.ws.symm)
  · have bad : wp_X9_count_B11 a1 (fun r' τ' => RX cd1 2 0 σ r' τ') τ := by
      unfold wp_X9_count_B11 wp_X9_count_B16
      intro τ1 et
      rw [et, su_at]
      exact ⟨fun z => absurd z (by decide), fun _ => RX_t (cd := cd1) (k := 2) h 1 (by decide) rfl 0 0⟩
    unfold wp_X9_count
    rw [e1]
    exact ⟨fun _ => bad, fun c1 => ⟨fun z => absurd z (by omega), fun _ => bad⟩⟩
theorem R_node {σ τ : St} (h : R σ τ) {a1 a2 a3 : Int} (e1 : w32 a1 = a1) (e2 : w32 a2 = a2) (e3 : w32 a3 = a3) : wp_X8_node a1 a2 a3 (fun k r σ' => wp_X9_node a1 a2 a3 (fun r' τ' => RX cdU k r σ' r' τ') τ) σ := by
  obtain ⟨N, sz, h⟩ := h
  have N16 := h.N16
  have c34 := h.c34
  have c23 := h.c23
  have w34 : w32 (σ 3 4) = (N : Int) := by rw [c34]; exact w32_id (by omega) (by omega)
  have w23 : w32 (τ 0 23) = (N : Int) := by rw [c23]; exact w32_id (by omega) (by omega)
  have bad1 : wp_X9_node_B27 a1 a2 a3 (fun r' τ' => RX cdU 4 0 σ r' τ') τ := by
    unfold wp_X9_node_B27 wp_X9_node_B45
    intro τ1 et
    rw [et, su_at]
    exact ⟨fun z => absurd z (by decide), fun _ => RX_t (cd := cdU) (k := 4) h 1 (by decide) rfl 0 0⟩
  have bad2 : wp_X9_node_B40 a1 a2 a3 (fun r' τ' => RX cdU 2 0 σ r' τ') τ := by
    unfold wp_X9_node_B40 wp_X9_node_B45
    intro τ1 et
    rw [et, su_at]
    exact ⟨fun z => absurd z (by decide), fun _ => RX_t (cd := cdU) (k := 2) h 2 (by decide) rfl 0 0⟩
  unfold wp_X8_node wp_X8_node_B32 wp_X8_node_B51 wp_X9_node
  rw [e1, e2, e3, w34, w23]
  refine ⟨fun c1 => ⟨fun _ => bad1, fun z => absurd c1 z⟩, fun c1 => ⟨fun c2 => ⟨fun z => absurd z c1, fun _ => ⟨fun _ => bad1, fun z => absurd c2 z⟩⟩, fun c2 => ⟨fun c3 => ⟨fun z => absurd z c1, fun _ => ⟨fun z => absurd z c2, fun _ => ⟨fun _ => bad1, fun z => absurd c3 z⟩⟩⟩, fun c3 => ?_⟩⟩⟩
  obtain ⟨t, ht⟩ := Int.eq_ofNat_of_zero_le (show 0 ≤ a1 by omega)
  obtain ⟨x, hx⟩ := Int.eq_ofNat_of_zero_le (show 0 ≤ a2 by omega)
  have tN : t < N := by omega
  have tn : a1.toNat = t := by rw [ht]; exact Int.toNat_natCast t
  have f1 := (h.ft t tN).1
  have f12 : sz t ≤ 12 := (h.ft t tN).2.2.1
  have m1 := (h.fr t tN).1
  have q10 : w32 (σ 10 t) = ((sz t : Nat) : Int) := by rw [f1]; exact w32_id (by omega) (by omega)
  have q17 : w32 (τ 17 t) = ((sz t : Nat) : Int) := by rw [m1]; exact w32_id (by omega) (by omega)
  rw [tn, q10, q17]
  have a17 : 0 ≤ a1 ∧ a1 < 17 := by omega
  refine ⟨a17, fun c4 => ⟨fun c5 => ⟨fun z => absurd z c1, fun _ => ⟨fun z => absurd z c2, fun _ => ⟨fun z => absurd z c3, fun _ => ⟨a17, fun _ => ⟨fun _ => bad2, fun z => absurd c5 z⟩, fun z => absurd c4 z⟩⟩⟩⟩, fun c5 => ⟨fun c6 => ?_, fun c6 => ⟨fun z => absurd z c1, fun _ => ⟨fun z => absurd z c2, fun _ => ⟨fun z => absurd z c3, fun _ => ⟨a17, fun _ => ⟨fun z => absurd z c5, fun _ => ⟨fun z => absurd z c6, fun _ => bad2⟩⟩, fun z => absurd c4 z⟩⟩⟩⟩⟩⟩, fun c4 => ⟨fun z => absurd z c1, fun _ => ⟨fun z => absurd z c2, fun _ => ⟨fun z => absurd z c3, fun _ => ⟨a17, fun z => absurd z c4, fun _ => bad1⟩⟩⟩⟩⟩
  obtain ⟨w, hw⟩ := Int.eq_ofNat_of_zero_le (show 0 ≤ a3 by omega)
  have xs : x < sz t := by omega
  refine sp_row1 (t := t) (x := x) ht hx ?_
  have pw5 : ∀ w, w < 5 → pm w = w := by decide
  have w5 : w < 5 := by omega
  refine sp_cell (t := t) (x := x) (w := w) rfl (by rw [pw5 w w5]; exact hw) (by omega) (by omega) (by omega) ?_
  refine ⟨fun z => absurd z c1, fun _ => ⟨fun z => absurd z c2, fun _ => ⟨fun z => absurd z c3, fun _ => ⟨a17, fun _ => ⟨fun z => absurd z c5, fun _ => ⟨fun _ => ?_, fun z => absurd c6 z⟩⟩, fun z => absurd c4 z⟩⟩⟩⟩
  obtain ⟨b0, b1, b2, b3, b4, _⟩ := (h.fr t tN).2 x xs
  have ev : w32 (12 * a1 + a2) = ((12 * t + x : Nat) : Int) := by rw [w32_id (by omega) (by omega)]; omega
  have en : (((12 * t + x : Nat) : Int)).toNat = 12 * t + x := Int.toNat_natCast _
  have lt : 0 ≤ ((12 * t + x : Nat) : Int) ∧ ((12 * t + x : Nat) : Int) < 204 := by omega
  unfold wp_X9_node_B45
  intro τ1 et
  rw [et, su_at, e3]
  refine ⟨fun _ x_2 ex => ?_, fun z => absurd (by decide) z⟩
  rw [ex, ev, en]
  refine ⟨fun n0 => ⟨fun n1 => ⟨fun n2 => ⟨fun n3 => ⟨lt, ?_⟩, fun y => ⟨lt, ?_⟩⟩, fun y => ⟨lt, ?_⟩⟩, fun y => ⟨lt, ?_⟩⟩, fun y => ⟨lt, ?_⟩⟩
  · have ew : w = 4 := by omega
    subst ew
    exact RX_n h rfl (by rw [su0 _ _ _ (by decide)]; exact b4)
  · have ew : w = 3 := by omega
    subst ew
    exact RX_n h rfl (by rw [su0 _ _ _ (by decide)]; exact b3)
  · have ew : w = 2 := by omega
    subst ew
    exact RX_n h rfl (by rw [su0 _ _ _ (by decide)]; exact b2)
  · have ew : w = 1 := by omega
    subst ew
    exact RX_n h rfl (by rw [su0 _ _ _ (by decide)]; exact b1)
  · have ew : w = 0 := by omega
    subst ew
    exact RX_n h rfl (by rw [su0 _ _ _ (by decide)]; exact b0)
theorem R_choose2 {σ τ : St} (h : R σ τ) {a1 : Int} (e1 : w32 a1 = a1) : wp_X8_choose a1 (fun k r σ' => wp_X9_choose a1 (fun r' τ' => RX cdC k r σ' r' τ') τ) σ := by
  have hR := h
  obtain ⟨N, sz, h⟩ := h
  have wyr := h.wyr
  have m36 : τ 0 36 = σ 0 9 := h.wys.symm
  have w9 : w32 (σ 0 9) = σ 0 9 := w32_id (by omega) (by omega)
  have r31 := w32_lo a1
  have r32 := w32_hi a1
  have m35 := h.wsr
  have bad : ∀ k (c : Int), k ≠ 0 → c = cdC k → 0 < w32 c → wp_X9_choose_B31 a1 c (fun r' τ' => RX cdC k 0 σ r' τ') τ := fun k c hk hc hp => by
    unfold wp_X9_choose_B31
    intro τ1 et
    rw [et, su_at]
    exact ⟨fun z => absurd z (by omega), fun _ => RX_t h c hk hc 0 0⟩
  have b4 : wp_X9_choose_B26 a1 (fun r' τ' => RX cdC 4 0 σ r' τ') τ := by
    unfold wp_X9_choose_B26
    exact bad 4 2 (by decide) rfl (by decide)
  have b3 := bad 3 1 (by decide) rfl (by decide)
  clear bad
  unfold wp_X8_choose wp_X8_choose_B30
  rw [w9]
  refine ⟨fun c0 => ?_, fun c0 => ?_⟩
  · have t35 : ¬ w32 (τ 0 35) = 0 := by rw [m35, if_neg c0]; decide
    have lc : w32 (lCmp (w32 a1) (τ 0 36)) < 0 ↔ a1 < σ 0 9 := by
      rw [m36, e1]
      exact lCmp_lt (by omega) (by omega)
    rw [e1]
    refine ⟨fun c1 => ?_, fun c1 => ⟨fun c2 => R_choose hR e1 (by omega) c2, fun c2 => ?_⟩⟩
    · unfold wp_X9_choose
      exact ⟨fun _ => ⟨fun _ => b4, fun z => absurd (by rw [e1]; exact c1) z⟩, fun z => absurd z t35⟩
    · unfold wp_X9_choose
      exact ⟨fun _ => ⟨fun z => absurd (by rw [e1] at z; exact z) c1, fun _ => ⟨fun z => absurd (lc.mp z) c2, fun _ => b4⟩⟩, fun z => absurd z t35⟩
  · have t35 : w32 (τ 0 35) = 0 := by rw [m35, if_pos c0]; decide
    unfold wp_X9_choose
    exact ⟨fun z => absurd t35 z, fun _ => b3⟩
