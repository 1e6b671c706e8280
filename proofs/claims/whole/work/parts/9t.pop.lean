/-! pure: the reference takes a job -/
def Lp (QM : Int → St → Prop) (F : Nat) (τ : St) : Prop := wp_X9_choose_L143 QM F τ
theorem popN {P : Nat} (hP2 : P < 200) : (w32 ((P + 1 : Nat) : Int) = ((P + 1 : Nat) : Int)) ∧ (¬ ((P + 1 : Nat) : Int) ≤ 0) ∧ (((P + 1 : Nat) : Int) - 1 = (P : Int)) ∧ (w32 (7 * (P : Int)) = 7 * (P : Int)) ∧ (w32 (7 * (P : Int) + 1) = 7 * (P : Int) + 1) ∧ (w32 (7 * (P : Int) + 2) = 7 * (P : Int) + 2) ∧ (w32 (7 * (P : Int) + 3) = 7 * (P : Int) + 3) ∧ (w32 (7 * (P : Int) + 4) = 7 * (P : Int) + 4) ∧ (w32 (7 * (P : Int) + 5) = 7 * (P : Int) + 5) ∧ (w32 (7 * (P : Int) + 6) = 7 * (P : Int) + 6) ∧ (w32 (P : Int) = (P : Int)) ∧ (0 ≤ 7 * (P : Int) ∧ 7 * (P : Int) < 1400) ∧ (0 ≤ 7 * (P : Int) + 1 ∧ 7 * (P : Int) + 1 < 1400) ∧ (0 ≤ 7 * (P : Int) + 2 ∧ 7 * (P : Int) + 2 < 1400) ∧ (0 ≤ 7 * (P : Int) + 3 ∧ 7 * (P : Int) + 3 < 1400) ∧ (0 ≤ 7 * (P : Int) + 4 ∧ 7 * (P : Int) + 4 < 1400) ∧ (0 ≤ 7 * (P : Int) + 5 ∧ 7 * (P : Int) + 5 < 1400) ∧ (0 ≤ 7 * (P : Int) + 6 ∧ 7 * (P : Int) + 6 < 1400) ∧ (0 ≤ (P : Int) ∧ (P : Int) < 200) ∧ ((7 * (P : Int)).toNat = 7 * P) ∧ ((7 * (P : Int) + 1).toNat = 7 * P + 1) ∧ ((7 * (P : Int) + 2).toNat = 7 * P + 2) ∧ ((7 * (P : Int) + 3).toNat = 7 * P + 3) ∧ ((7 * (P : Int) + 4).toNat = 7 * P + 4) ∧ ((7 * (P : Int) + 5).toNat = 7 * P + 5) ∧ ((7 * (P : Int) + 6).toNat = 7 * P + 6) ∧ ((P : Int).toNat = P) := ⟨w32_id (by omega) (by omega), by omega, by omega, w32_id (by omega) (by omega), w32_id (by omega) (by omega), w32_id (by omega) (by omega), w32_id (by omega) (by omega), w32_id (by omega) (by omega), w32_id (by omega) (by omega), w32_id (by omega) (by omega), w32_id (by omega) (by omega), by omega, by omega, by omega, by omega, by omega, by omega, by omega, by omega, by omega, by omega, by omega, by omega, by omega, by omega, by omega, by omega⟩
theorem sp_pop {QM : Int → St → Prop} {F : Nat} {τ : St} {P u r i l : Nat} {on j k way : Int} (hP : τ 0 48 = ((P + 1 : Nat) : Int)) (hP2 : P < 200) (hon : on = 0 ∨ on = 1) (hJ : JobAt τ P u r on i j k l way) (h0 : on = 0 → wp_X9_lay (u : Int) (r : Int) (i : Int) j (τ 27 (7 * P + 5)) (l : Int) way (fun σ1 => Lp QM F σ1) (su τ 0 48 (P : Int))) (h1 : on = 1 → wp_X9_layOn (u : Int) (r : Int) (i : Int) j (τ 27 (7 * P + 5)) (l : Int) way (fun σ1 => Lp QM F σ1) (su τ 0 48 (P : Int))) : Lp QM (F + 1) τ := by
  obtain ⟨a0, a1, a2, a3, a4, a5, a6, a7⟩ := hJ
  obtain ⟨vp1, np, ep, v0, v1, v2, v3, v4, v5, v6, v8, b0, b1, b2, b3, b4, b5, b6, b8, t0, t1, t2, t3, t4, t5, t6, t8⟩ := popN hP2
  have f27 : ∀ k, su τ 0 48 (P : Int) 27 k = τ 27 k := fun k => su_ko _ _ (fun z => absurd z.1 (by decide))
  have f28 : ∀ k, su τ 0 48 (P : Int) 28 k = τ 28 k := fun k => su_ko _ _ (fun z => absurd z.1 (by decide))
  have e48 : su τ 0 48 (P : Int) 0 48 = (P : Int) := su_at _ _ _ _
  show wp_X9_choose_L143 QM (F + 1) τ
  unfold wp_X9_choose_L143
  rw [hP, vp1, ep]
  refine ⟨fun z => absurd z np, fun _ s2 e2 x_3 ex3 => ?_⟩
  subst e2
  rw [e48] at ex3
  subst ex3
  rw [v2, t2, f27, a2]
  have lay : on = 0 → wp_X9_choose_B187 (fun σ => wp_X9_choose_L143 QM F σ) (7 * (P : Int)) 0 QM (su τ 0 48 (P : Int)) := by
    intro q
    unfold wp_X9_choose_B187
    refine ⟨fun _ => ?_, fun z => absurd w32_0 z⟩
    rw [v0, v1, v3, v4, v5, v6, e48, v8, t0, t1, t3, t4, t5, t6, t8, f27, f27, f27, f27, f27, f27, f28, a0, a1, a3, a4, a6, a7]
    exact ⟨b0, b1, b3, b4, b5, b6, b8, h0 q⟩
  have layOn : on = 1 → wp_X9_choose_B187 (fun σ => wp_X9_choose_L143 QM F σ) (7 * (P : Int)) 1 QM (su τ 0 48 (P : Int)) := by
    intro q
    unfold wp_X9_choose_B187
    refine ⟨fun z => absurd z (by decide), fun _ => ?_⟩
    rw [v0, v1, v3, v4, v5, v6, e48, v8, t0, t1, t3, t4, t5, t6, t8, f27, f27, f27, f27, f27, f27, f28, a0, a1, a3, a4, a6, a7]
    exact ⟨b0, b1, b3, b4, b5, b6, b8, h1 q⟩
  refine ⟨b2, fun z => lay ?_, fun z => layOn ?_⟩
  · rcases hon with q | q
    · exact q
    · rw [q] at z; exact absurd (by decide) z
  · rcases hon with q | q
    · rw [q] at z; exact absurd z (by decide)
    · exact q
