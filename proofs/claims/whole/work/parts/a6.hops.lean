/-! pure: which node is added, in both worlds -/
def Kd (c : Nat → Nat → Int) (tr : Nat → Nat) : Nat → Nat → Int := fun v y => c (12 * tr v + y) 0
def Pp (c : Nat → Nat → Int) (tr : Nat → Nat) : Nat → Nat → Int := fun v => pT c (tr v)
def Zu (sz tr : Nat → Nat) : Nat → Nat := fun v => sz (tr v)
def UsC (sz : Nat → Nat) (U : Nat) (tr : Nat → Nat) (ch fr to : Nat → Nat → Int) (ofU atU : Nat → Int) (σ : St) : Prop := ∀ v, v < U → σ 24 (7 * v) = (tr v : Int) ∧ σ 24 (7 * v + 1) = ofU v ∧ σ 24 (7 * v + 2) = atU v ∧ ∀ y, y < sz (tr v) → σ 25 (nJ v y 2) = ch v y ∧ σ 25 (nJ v y 3) = fr v y ∧ σ 25 (nJ v y 4) = to v y
def UsM (sz : Nat → Nat) (U : Nat) (tr : Nat → Nat) (ch fr to : Nat → Nat → Int) (ofU atU : Nat → Int) (τ : St) : Prop := ∀ v, v < U → τ 23 (7 * v) = (tr v : Int) ∧ τ 23 (7 * v + 1) = ofU v ∧ τ 23 (7 * v + 2) = atU v ∧ ∀ y, y < sz (tr v) → τ 26 (12 * v + y) = ch v y ∧ τ 24 (12 * v + y) = fr v y ∧ τ 25 (12 * v + y) = to v y
def TM (c : Nat → Nat → Int) (N : Nat) (sz : Nat → Nat) (τ : St) : Prop := N ≤ 16 ∧ ∀ t, t < N → τ 17 t = ((sz t : Nat) : Int) ∧ sz t ≤ 12 ∧ ∀ y, y < sz t → τ 6 (12 * t + y) = c (12 * t + y) 0 ∧ τ 8 (12 * t + y) = pT c t y ∧ τ 9 (12 * t + y) = c (12 * t + y) 3 ∧ (-1 ≤ pT c t y ∧ pT c t y < (y : Int)) ∧ (0 ≤ c (12 * t + y) 0 ∧ c (12 * t + y) 0 ≤ 3)
theorem sp_hops {sz : Nat → Nat} {U : Nat} {tr : Nat → Nat} {ch fr to kd pp : Nat → Nat → Int} {ofU atU : Nat → Int} {σ : St} {Q : St → Prop} {w x : Nat} {a3 : Int} (hs : UsC sz U tr ch fr to ofU atU σ) (hS : Shp U kd pp ch (Zu sz tr) ofU atU) (hx : ch w x = -1) (h : wp_X7_add (w : Int) (x : Int) a3 Q σ) : ∀ (k v y hops : Nat), v < U → y < sz (tr v) → Chn U ch (Zu sz tr) k v y w x → hops + k < 8 → wp_X7_addInstead_L62 Q (k + 1) a3 (v : Int) (y : Int) (hops : Int) σ := by
  intro k
  induction k with
  | zero =>
    intro v y hops hv hy hc hk
    obtain ⟨e1, e2⟩ := hc
    subst e1; subst e2
    have u8 := hS.2.1
    have s12 : sz (tr v) ≤ 12 := (hS.2.2.1 v hv).2.1
    have n8 : ¬ 8 ≤ w32 (hops : Int) := by rw [w32_id (by omega) (by omega)]; omega
    unfold wp_X7_addInstead_L62
    refine ⟨fun z => absurd z n8, fun _ => sp_nodeCell (u := v) (x := y) (w := 2) (by omega) (by omega) (by decide) rfl rfl rfl ?_⟩
    rw [((hs v hv).2.2.2 y hy).1, hx]
    exact ⟨fun z => absurd (by decide) z, fun _ => h⟩
  | succ k ih =>
    intro v y hops hv hy hc hk
    obtain ⟨a, e1, e2, e3, e4⟩ := hc
    have u8 := hS.2.1
    have s12 : sz (tr v) ≤ 12 := (hS.2.2.1 v hv).2.1
    have n8 : ¬ 8 ≤ w32 (hops : Int) := by rw [w32_id (by omega) (by omega)]; omega
    have up := Shp_up hS hv hy e3
    have a0 : 0 < sz (tr a) := (hS.2.2.1 a up.2.1).1
    have na : ¬ w32 (a : Int) = -1 := by have := up.2.1; rw [w32_id (by omega) (by omega)]; omega
    unfold wp_X7_addInstead_L62
    refine ⟨fun z => absurd z n8, fun _ => sp_nodeCell (u := v) (x := y) (w := 2) (by omega) (by omega) (by decide) rfl rfl rfl ?_⟩
    rw [((hs v hv).2.2.2 y hy).1, e3]
    refine ⟨fun _ x_3 ex => ?_, fun z => absurd z na⟩
    rw [ex, show (hops : Int) + 1 = ((hops + 1 : Nat) : Int) by omega]
    exact ih a 0 (hops + 1) up.2.1 a0 e4 (by omega)
theorem sp_addInstead {c : Nat → Nat → Int} {N : Nat} {sz : Nat → Nat} {sd : Nat → Int} {n : Nat} {hw wo : Nat → Prop} {U : Nat} {tr : Nat → Nat} {ch fr to : Nat → Nat → Int} {ofU atU : Nat → Int} {σ : St} {Q : St → Prop} {v y w x : Nat} {a1 a2 a3 : Int} (hC : CC c N sz sd n hw wo σ) (hN : ∀ v, v < U → tr v < N) (hs : UsC sz U tr ch fr to ofU atU σ) (hS : Shp U (Kd c tr) (Pp c tr) ch (Zu sz tr) ofU atU) (hv : v < U) (hy : y < sz (tr v)) (hg : Gv U (Kd c tr) ch (Zu sz tr) v y w x) (h1 : a1 = (v : Int)) (h2 : a2 = (y : Int)) (h : wp_X7_add (w : Int) (x : Int) a3 Q σ) : wp_X7_addInstead a1 a2 a3 Q σ := by
  have u8 := hS.2.1
  have s12 : sz (tr v) ≤ 12 := (hS.2.2.1 v hv).2.1
  have tN := hN v hv
  have N16 := hC.2.1
  have e0 : nd σ (tr v) y 0 = Kd c tr v y := hC.2.2.2.2.1 (tr v) y 0 tN hy (by decide)
  have r0 : 0 ≤ Kd c tr v y ∧ Kd c tr v y ≤ 3 := (hC.2.2.2.2.2.1.1 (tr v) y tN hy).1
  have wk : w32 (Kd c tr v y) = Kd c tr v y := w32_id (by omega) (by omega)
  obtain ⟨s1, s2, s3, s4⟩ := hs v hv
  unfold wp_X7_addInstead
  rw [h1, h2]
  refine sp_useCell (u := v) (w := 0) (by omega) (by decide) rfl rfl ?_
  rw [Nat.add_zero, s1]
  refine sp_row1 (t := tr v) (x := y) rfl rfl (sp_cell (t := tr v) (x := y) (w := 0) rfl rfl (by omega) (by omega) (by decide) ?_)
  rw [e0, wk]
  obtain ⟨g1, g2, g3⟩ := hg
  refine ⟨fun q => ?_, fun q => ?_⟩
  · rcases g3 with ⟨z, _⟩ | ⟨_, z1, k, z2, z3⟩
    · exact absurd z q
    · exact ⟨k + 1, sp_hops hs hS z1 h k v y 0 hv hy z3 (by omega)⟩
  · rcases g3 with ⟨_, z⟩ | ⟨z, _⟩
    · have up := Shp_up hS g1 g2 z
      refine sp_useCell (u := v) (w := 1) (by omega) (by decide) rfl rfl ?_
      rw [s2, up.2.2.1]
      refine sp_useCell (u := v) (w := 2) (by omega) (by decide) rfl rfl ?_
      rw [s3, up.2.2.2.1]
      exact h
    · exact absurd q z
/-! the reference -/
def Lb (QM : St → Prop) (F : Nat) (τ : St) : Prop := wp_X9_build_L18 QM F τ
def bF (τ τ' : St) (b : Nat) : Prop := ∀ o k, ¬ (o = 0 ∧ k = 48) → ¬ (o = 27 ∧ 4 * b ≤ k) → τ' o k = τ o k
theorem bpN {P : Nat} (h : P < 300) : (w32 ((P + 1 : Nat) : Int) = ((P + 1 : Nat) : Int)) ∧ (¬ ((P + 1 : Nat) : Int) ≤ 0) ∧ (((P + 1 : Nat) : Int) - 1 = (P : Int)) ∧ (w32 (4 * (P : Int)) = 4 * (P : Int)) ∧ (w32 (4 * (P : Int) + 1) = 4 * (P : Int) + 1) ∧ (w32 (4 * (P : Int) + 2) = 4 * (P : Int) + 2) ∧ (w32 (4 * (P : Int) + 3) = 4 * (P : Int) + 3) ∧ (0 ≤ 4 * (P : Int) ∧ 4 * (P : Int) < 1400) ∧ (0 ≤ 4 * (P : Int) + 1 ∧ 4 * (P : Int) + 1 < 1400) ∧ (0 ≤ 4 * (P : Int) + 2 ∧ 4 * (P : Int) + 2 < 1400) ∧ (0 ≤ 4 * (P : Int) + 3 ∧ 4 * (P : Int) + 3 < 1400) ∧ ((4 * (P : Int)).toNat = 4 * P) ∧ ((4 * (P : Int) + 1).toNat = 4 * P + 1) ∧ ((4 * (P : Int) + 2).toNat = 4 * P + 2) ∧ ((4 * (P : Int) + 3).toNat = 4 * P + 3) := ⟨w32_id (by omega) (by omega), by omega, by omega, w32_id (by omega) (by omega), w32_id (by omega) (by omega), w32_id (by omega) (by omega), w32_id (by omega) (by omega), by omega, by omega, by omega, by omega, by omega, by omega, by omega, by omega⟩
theorem buN {v y : Nat} (hv : v < 8) (hy : y < 12) : (w32 (7 * (v : Int)) = 7 * (v : Int)) ∧ ((7 * (v : Int)).toNat = 7 * v) ∧ (0 ≤ 7 * (v : Int) ∧ 7 * (v : Int) < 70) ∧ (w32 (7 * (v : Int) + 1) = 7 * (v : Int) + 1) ∧ ((7 * (v : Int) + 1).toNat = 7 * v + 1) ∧ (0 ≤ 7 * (v : Int) + 1 ∧ 7 * (v : Int) + 1 < 70) ∧ (w32 (7 * (v : Int) + 2) = 7 * (v : Int) + 2) ∧ ((7 * (v : Int) + 2).toNat = 7 * v + 2) ∧ (0 ≤ 7 * (v : Int) + 2 ∧ 7 * (v : Int) + 2 < 70) ∧ (w32 (12 * (v : Int) + (y : Int)) = 12 * (v : Int) + (y : Int)) ∧ ((12 * (v : Int) + (y : Int)).toNat = 12 * v + y) ∧ (0 ≤ 12 * (v : Int) + (y : Int) ∧ 12 * (v : Int) + (y : Int) < 120) := ⟨w32_id (by omega) (by omega), by omega, by omega, w32_id (by omega) (by omega), by omega, by omega, w32_id (by omega) (by omega), by omega, by omega, w32_id (by omega) (by omega), by omega, by omega⟩
theorem sp_bpop {c : Nat → Nat → Int} {N : Nat} {sz : Nat → Nat} {U : Nat} {tr : Nat → Nat} {ch fr to : Nat → Nat → Int} {ofU atU : Nat → Int} {τ : St} {QM : St → Prop} {F P v y : Nat} {it par : Int} (hT : TM c N sz τ) (hN : ∀ v, v < U → tr v < N) (hs : UsM sz U tr ch fr to ofU atU τ) (hS : Shp U (Kd c tr) (Pp c tr) ch (Zu sz tr) ofU atU) (hv : v < U) (hy : y < sz (tr v)) (hP : P < 300) (h48 : τ 0 48 = ((P + 1 : Nat) : Int)) (k0 : τ 27 (4 * P) = (v : Int)) (k1 : τ 27 (4 * P + 1) = (y : Int)) (k2 : τ 27 (4 * P + 2) = it) (k3 : τ 27 (4 * P + 3) = par) (hit : it = 0 ∨ it = 1)
    (h1 : Kd c tr v y ≠ 2 → ch v y = -1 ∨ it = 1 → wp_X9_show (v : Int) (y : Int) (12 * (tr v : Int) + (y : Int)) par (fun s => Lb QM F s) (su τ 0 48 (P : Int)))
    (h2 : Kd c tr v y ≠ 2 → ch v y ≠ -1 → it = 0 → wp_X9_later (ch v y) 0 0 par (fun s => Lb QM F s) (su τ 0 48 (P : Int)))
    (h3 : Kd c tr v y = 2 → wp_X9_later (ofU v) (atU v) 1 par (fun s => Lb QM F s) (su τ 0 48 (P : Int))) : Lb QM (F + 1) τ := by
  have v8 : v < 8 := Nat.lt_of_lt_of_le hv hS.2.1
  have tN := hN v hv
  obtain ⟨N16, hT'⟩ := hT
  obtain ⟨hT1, hT2, hT3⟩ := hT' (tr v) tN
  have y12 : y < 12 := Nat.lt_of_lt_of_le hy hT2
  have t16 : tr v < 16 := Nat.lt_of_lt_of_le tN N16
  have wc : w32 (ch v y) = -1 ↔ ch v y = -1 := by
    rcases hS.2.2.2.1 v y hv hy with z | ⟨w, z1, z2, z3, _⟩
    · rw [z]; exact ⟨fun _ => rfl, fun _ => by decide⟩
    · have w8 : w < 8 := Nat.lt_of_lt_of_le z2 hS.2.1
      rw [z3, w32_id (by clear z3; omega) (by clear z3; omega)]
  obtain ⟨q1, q2, q3, q4, q5⟩ := hT3 y hy
  obtain ⟨s1, s2, s3, s4⟩ := hs v hv
  obtain ⟨s5, s6, s7⟩ := s4 y hy
  obtain ⟨n1, n2, n3, v0, v1, v2, v3, b0, b1, b2, b3, t0, t1, t2, t3⟩ := bpN hP
  obtain ⟨m1, m2, m3, m4, m5, m6, m7, m8, m9, m10, m11, m12⟩ := buN v8 y12
  obtain ⟨l1, l2, l3⟩ := shLp t16 y12
  have wk : w32 (Kd c tr v y) = Kd c tr v y := w32_id (Int.le_trans (by decide) q5.1) (Int.lt_of_le_of_lt q5.2 (by decide))
  have f : ∀ o k, ¬ (o = 0 ∧ k = 48) → su τ 0 48 (P : Int) o k = τ o k := fun o k q => su_ko _ _ q
  have fin : ∀ y0 : Int, w32 y0 = it → wp_X9_build_B83 (fun s => wp_X9_build_L18 QM F s) (v : Int) (y : Int) y0 QM (su τ 0 48 (P : Int)) := by
    intro y0 hy0
    unfold wp_X9_build_B83
    rw [su_at, v3, t3, f 27 _ (fun z => absurd z.1 (by decide)), k3]
    refine ⟨b3, fun x_1 ex1 => ?_⟩
    subst ex1
    rw [m1, m2, f 23 _ (fun z => absurd z.1 (by decide)), s1, m10, m11, f 26 _ (fun z => absurd z.1 (by decide)), s5]
    refine ⟨m3, fun x_2 ex2 => ⟨m12, fun x_3 ex3 => ?_⟩⟩
    subst ex2; subst ex3
    rw [l1, l2, f 6 _ (fun z => absurd z.1 (by decide)), q1]
    have wk' : w32 (c (12 * tr v + y) 0) = Kd c tr v y := wk
    rw [wk', hy0, m4, m5, m7, m8, f 23 _ (fun z => absurd z.1 (by decide)), f 23 _ (fun z => absurd z.1 (by decide)), s2, s3]
    refine ⟨l3, fun z => ⟨fun z2 => ?_, fun z2 => ⟨fun z3 => ?_, fun z3 => ?_⟩⟩, fun z => ⟨m6, m9, ?_⟩⟩
    · exact h1 z (Or.inl (wc.mp z2))
    · exact h1 z (Or.inr (hit.resolve_left z3))
    · exact h2 z (fun q => z2 (wc.mpr q)) z3
    · exact h3 z
  show wp_X9_build_L18 QM (F + 1) τ
  unfold wp_X9_build_L18
  rw [h48, n1, n3]
  refine ⟨fun z => absurd z n2, fun _ σ1 e1 => ?_⟩
  subst e1
  rw [su_at, v0, v1, v2, t0, t1, t2, f 27 _ (fun z => absurd z.1 (by decide)), f 27 _ (fun z => absurd z.1 (by decide)), f 27 _ (fun z => absurd z.1 (by decide)), k0, k1, k2]
  refine ⟨b0, fun x_2 e2 => ⟨b1, fun x_3 e3 => ⟨b2, fun z => ?_, fun z => ?_⟩⟩⟩
  · subst e2; subst e3
    refine fin 0 ?_
    rcases hit with q | q
    · rw [q]; exact w32_0
    · rw [q] at z; exact absurd (by decide) z
  · subst e2; subst e3
    refine fin 1 ?_
    rcases hit with q | q
    · rw [q] at z; exact absurd z (by decide)
    · rw [q]; decide
