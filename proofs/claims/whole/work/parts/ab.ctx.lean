/-! pure: what a way may lean on -/
theorem CC_of {σ τ : St} {N : Nat} {sz : Nat → Nat} (h : RR σ τ N sz) {c : Nat → Nat → Int} {sd : Nat → Int} {hw wo : Nat → Prop} {n : Nat} (a1 : n ≤ 8) (a2 : σ 17 0 = (n : Int)) (a4 : ∀ t x w, t < N → x < sz t → w < 12 → c (12 * t + x) w = cc σ (12 * t + x) w) (a5 : CF c N sz hw wo) (a6 : RD c N sz sd n σ) (a12 : CL c N sz hw wo) : CC c N sz sd n hw wo σ := ⟨a1, h.N16, h.c34, h.ft, fun t x w q1 q2 q3 => (a4 t x w q1 q2 q3).symm, a5, a6, a2, a12⟩
theorem CM_of {σ τ : St} {N : Nat} {sz : Nat → Nat} (h : RR σ τ N sz) {c : Nat → Nat → Int} {sd : Nat → Int} {hw wo : Nat → Prop} {n : Nat} (a1 : n ≤ 8) (a3 : τ 0 26 = (n : Int)) (a4 : ∀ t x w, t < N → x < sz t → w < 12 → c (12 * t + x) w = cc σ (12 * t + x) w) (a5 : CF c N sz hw wo) (a7 : RDm c N sz sd n τ) (a8 : NS τ) : CM c N sz sd n hw wo τ := by
  refine ⟨a1, h.N16, h.c23, a3, fun t x ht hx => ?_, a5, a7, a8, h.mb⟩
  obtain ⟨m1, m2, m3⟩ := MC_of h.ft h.fr h.c23
  obtain ⟨b0, b1, b2, b3, b4, b5, b6, b7, b8⟩ := m3 t x ht hx
  have e0 := a4 t x 0 ht hx (by decide)
  have e1 := a4 t x 1 ht hx (by decide)
  have e4 := a4 t x 4 ht hx (by decide)
  have e5 := a4 t x 5 ht hx (by decide)
  have e6 := a4 t x 6 ht hx (by decide)
  refine ⟨b0.trans e0.symm, b1.trans e1.symm, b2.trans e4.symm, b3.trans e5.symm, b4.trans e6.symm, fun z => b6 (e0 ▸ z), ?_⟩
  rw [e4]
  exact ((h.ft t ht).2.2.2.2.2.1 x hx).2.2.2.1
theorem TM_of {σ τ : St} {N : Nat} {sz : Nat → Nat} (h : RR σ τ N sz) {c : Nat → Nat → Int} {hw wo : Nat → Prop} (a4 : ∀ t x w, t < N → x < sz t → w < 12 → c (12 * t + x) w = cc σ (12 * t + x) w) (a5 : CF c N sz hw wo) : TM c N sz τ := by
  refine ⟨h.N16, fun t ht => ⟨(h.fr t ht).1, RR_sz h t ht, fun y hy => ?_⟩⟩
  obtain ⟨b0, b1, b2, b3, _⟩ := (h.fr t ht).2 y hy
  have e0 := a4 t y 0 ht hy (by decide)
  have e2 := a4 t y 2 ht hy (by decide)
  have e3 := a4 t y 3 ht hy (by decide)
  have p := (h.ft t ht).2.2.2.1.1 y hy
  have e2' : pT c t y = nd σ t y 2 := e2
  refine ⟨b0.trans e0.symm, b2.trans e2'.symm, b3.trans e3.symm, ?_, (a5.1 t y ht hy).1⟩
  rw [e2']
  exact p
def trU (σ : St) : Nat → Nat := fun v => (σ 24 (7 * v)).toNat
def chU (σ : St) (w : Nat) : Nat → Nat → Int := fun v y => σ 25 (nJ v y w)
def ofS (σ : St) (w : Nat) : Nat → Int := fun v => σ 24 (7 * v + w)
theorem trU_e {σ : St} {v t : Nat} (h : σ 24 (7 * v) = (t : Int)) : trU σ v = t := by unfold trU; rw [h]; exact Int.toNat_natCast t
theorem UsC_of {c : Nat → Nat → Int} {N : Nat} {sz : Nat → Nat} {σ : St} {U : Nat} (hU : ∀ v, v < U → UF c N sz σ U v) : UsC sz U (trU σ) (chU σ 2) (chU σ 3) (chU σ 4) (ofS σ 1) (ofS σ 2) σ ∧ ∀ v, v < U → trU σ v < N := by
  refine ⟨fun v hv => ?_, fun v hv => ?_⟩
  · obtain ⟨t, h1, h2, h3⟩ := hU v hv
    exact ⟨by rw [trU_e h1]; exact h1, rfl, rfl, fun y hy => ⟨rfl, rfl, rfl⟩⟩
  · obtain ⟨t, h1, h2, h3⟩ := hU v hv
    rw [trU_e h1]; exact h2
theorem UsM_of {c : Nat → Nat → Int} {N : Nat} {sz : Nat → Nat} {σ τ : St} {U : Nat} (hU : ∀ v, v < U → UF c N sz σ U v) (hR : ∀ v, v < U → RU N sz σ τ v) : UsM sz U (trU σ) (chU σ 2) (chU σ 3) (chU σ 4) (ofS σ 1) (ofS σ 2) τ := by
  intro v hv
  obtain ⟨r1, t, r2, r3, r4⟩ := hR v hv
  have e := trU_e r2
  refine ⟨?_, r1 1 (by decide), r1 2 (by decide), fun y hy => ?_⟩
  · rw [e, ← r2]; exact r1 0 (by decide)
  · rw [e] at hy
    obtain ⟨b1, b2, b3⟩ := r4 y hy
    exact ⟨b3, b1, b2⟩
theorem Shp_of {c : Nat → Nat → Int} {N : Nat} {sz : Nat → Nat} {sd : Nat → Int} {n : Nat} {hw wo : Nat → Prop} {σ : St} {U t0 : Nat} (hC : CC c N sz sd n hw wo σ) (hU0 : 0 < U) (hU8 : U ≤ 8) (hU : ∀ v, v < U → UF c N sz σ U v) (h0 : σ 24 0 = (t0 : Int)) (ht0 : t0 < N) (h6 : c (12 * t0) 6 = 0) : Shp U (Kd c (trU σ)) (Pp c (trU σ)) (chU σ 2) (Zu sz (trU σ)) (ofS σ 1) (ofS σ 2) := by
  have hC0 := hC
  obtain ⟨c1, c2, c3, c4, c5, c6, c7, c8⟩ := hC
  have tN := (UsC_of hU).2
  refine ⟨hU0, hU8, fun v hv => ?_, fun v y hv hy => ?_, fun v y z hv hy hz h1 h2 => ?_, fun y hy h2 => ?_, fun v y hv h0' hy => ?_⟩
  · obtain ⟨a1, a2, a3, a4⟩ := c6.2 (trU σ v) (tN v hv)
    refine ⟨a1, a2, ?_⟩
    have e : Kd c (trU σ) v 0 = 0 := a3
    rw [e]; decide
  · obtain ⟨t, h1, h2, h3⟩ := hU v hv
    have e := trU_e h1
    have hy' : y < sz t := by rw [← e]; exact hy
    rcases h3 y hy' with z | ⟨w, t', z1, z2, z3, z4, z5, z6, z7, z8⟩
    · exact Or.inl z
    · refine Or.inr ⟨w, z1, z2, z3, z6, z7, ?_⟩
      show c (12 * trU σ v + y) 0 ≠ 2
      rw [e]
      rcases z8 with q | q
      · rw [q.1]; decide
      · rw [q.1]; decide
  · have g := (c4 (trU σ v) (tN v hv)).2.2.2.2.2.2.1 y z hy hz
    refine g ?_ ?_
    · exact (c5 (trU σ v) y 0 (tN v hv) hy (by decide)).trans h1
    · exact (c5 (trU σ v) z 0 (tN v hv) hz (by decide)).trans h2
  · have e : trU σ 0 = t0 := trU_e h0
    have hy' : y < sz t0 := by rw [← e]; exact hy
    have h2' : c (12 * t0 + y) 0 = 2 := by rw [← e]; exact h2
    have := ft_root hC0 ht0 hy' h2'
    rw [h6] at this
    exact absurd this (by decide)
  · obtain ⟨tj, _, tsx⟩ := TS hC0 (tN v hv)
    exact ⟨(tsx y h0' hy).1, (tj.1 y hy).2⟩
