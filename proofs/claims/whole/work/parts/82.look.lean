/-! pure: the reference looks where feet and words are -/
theorem bNar_1 : bNar 1 = 1 := by decide
theorem bNar_0 : bNar 0 = 0 := by decide
theorem HF_first {kd p : Nat → Int} {n x : Nat} (h : Pd p n) (hx : x < n) : HF kd p n x ↔ kd x = 2 ∨ (fs p n x ≠ -1 ∧ FO kd p n (fs p n x).toNat) := by
  rw [HF_step h hx]
  constructor
  · rintro (q | ⟨z, z1, z2, z3⟩)
    · exact Or.inl q
    · right
      rcases fs_spec p n x with ⟨_, w⟩ | ⟨j, w1, w2, w3, w4⟩
      · exact absurd z2 (w z z1)
      · rw [w1]
        refine ⟨by omega, z, ?_, z1, by rw [show ((j : Int)).toNat = j by omega, w3]; exact z2, z3⟩
        rcases Nat.lt_or_ge z j with y | y
        · exact absurd z2 (w4 z y)
        · omega
  · rintro (q | ⟨q1, z, z1, z2, z3, z4⟩)
    · exact Or.inl q
    · right
      rcases fs_spec p n x with ⟨w, _⟩ | ⟨j, w1, w2, w3, w4⟩
      · exact absurd w q1
      · rw [w1, show ((j : Int)).toNat = j by omega, w3] at z3
        exact ⟨z, z2, z3, z4⟩
def kwd (kd : Nat → Int) : Nat → Int := fun y => if kd y = 3 then 2 else 0
def LK (τ0 τ : St) (t n i : Nat) : Prop := (∀ o k, ¬ (13 ≤ o ∧ o ≤ 16) → τ o k = τ0 o k) ∧ (∀ o k, (∀ y, y < n → k ≠ 12 * t + y) → τ o k = τ0 o k) ∧
  ∀ y, i ≤ y → y < n → τ 13 (12 * t + y) = bI (HF (fun y => τ0 6 (12 * t + y)) (fun y => τ0 8 (12 * t + y)) n y) ∧ τ 14 (12 * t + y) = bI (HF (kwd (fun y => τ0 6 (12 * t + y))) (fun y => τ0 8 (12 * t + y)) n y) ∧ τ 15 (12 * t + y) = bI (FO (fun y => τ0 6 (12 * t + y)) (fun y => τ0 8 (12 * t + y)) n y) ∧ τ 16 (12 * t + y) = bI (FO (kwd (fun y => τ0 6 (12 * t + y))) (fun y => τ0 8 (12 * t + y)) n y)
theorem sp_mlook {Q : St → Prop} {τ0 : St} {t n : Nat} (hM : MN τ0 t n) (hk : ∀ y, y < n → 0 ≤ τ0 6 (12 * t + y) ∧ τ0 6 (12 * t + y) ≤ 3) (h : ∀ τ', LK τ0 τ' t n 0 → Q τ') : wp_X9_look Q τ0 := by
  obtain ⟨h23, ht, h30, hn12, h31, hpd, hl⟩ := hM
  have key : ∀ (i : Nat) (τ : St), i ≤ n → LK τ0 τ t n i → wp_X9_look_L7 Q (i + 1) ((i : Int) - 1) τ := by
    intro i
    induction i with
    | zero =>
      intro τ _ hL
      unfold wp_X9_look_L7
      exact ⟨fun _ => h τ hL, fun z => absurd (by decide) z⟩
    | succ x ih =>
      intro τ hi hL
      have hx : x < n := by omega
      obtain ⟨L1, L2, L3⟩ := hL
      unfold wp_X9_look_L7
      rw [show ((x + 1 : Nat) : Int) - 1 = (x : Int) by omega, w32_id (show -2147483648 ≤ (x : Int) by omega) (by omega)]
      refine ⟨fun z => by omega, fun _ => ?_⟩
      unfold wp_X9_here
      have r2 : 12 * τ 0 23 + (x : Int) = ((12 * t + x : Nat) : Int) := by rw [L1 0 23 (by omega), h23]; omega
      simp only []
      rw [r2, w32_id (show -2147483648 ≤ ((12 * t + x : Nat) : Int) by omega) (by omega), show (((12 * t + x : Nat)) : Int).toNat = 12 * t + x by omega]
      have hib : (0 : Int) ≤ ((12 * t + x : Nat) : Int) ∧ ((12 * t + x : Nat) : Int) < 204 := by omega
      have hkx := hk x hx
      have hfx := (hl x hx).2
      have hnx := (hl x hx).1
      -- the last two columns
      have b181 : ∀ (τ1 : St) (y2 : Int), LK τ0 τ t n (x + 1) → (∀ o k, ¬ (13 ≤ o ∧ o ≤ 15 ∧ k = 12 * t + x) → τ1 o k = τ o k) → τ1 13 (12 * t + x) = bI (HF (fun y => τ0 6 (12 * t + y)) (fun y => τ0 8 (12 * t + y)) n x) → τ1 14 (12 * t + x) = bI (HF (kwd (fun y => τ0 6 (12 * t + y))) (fun y => τ0 8 (12 * t + y)) n x) → τ1 15 (12 * t + x) = bI (FO (fun y => τ0 6 (12 * t + y)) (fun y => τ0 8 (12 * t + y)) n x) → bNar y2 = bI (FO (kwd (fun y => τ0 6 (12 * t + y))) (fun y => τ0 8 (12 * t + y)) n x) → wp_X9_look_B181 (fun z0 σ => wp_X9_look_L7 Q (x + 1) z0 σ) (x : Int) ((12 * t + x : Nat) : Int) y2 Q τ1 := by
        intro τ1 y2 _ g e13 e14 e15 e16
        unfold wp_X9_look_B181
        rw [w32_id (show -2147483648 ≤ ((12 * t + x : Nat) : Int) by omega) (by omega), show (((12 * t + x : Nat)) : Int).toNat = 12 * t + x by omega]
        refine ⟨hib, fun σ1 e1 x2 ex2 => ?_⟩
        rw [ex2, show (x : Int) + (-1) = (x : Int) - 1 by omega]
        refine ih σ1 (by omega) ⟨fun o k z => by rw [e1, su_ko _ _ (by omega), g o k (by omega)]; exact L1 o k z, fun o k z => by have := z x hx; rw [e1, su_ko _ _ (by omega), g o k (by omega)]; exact L2 o k z, fun y hy1 hy2 => ?_⟩
        by_cases q : y = x
        · subst q
          rw [e1, su_ko _ _ (by omega), su_ko _ _ (by omega), su_ko _ _ (by omega), su_at]
          exact ⟨e13, e14, e15, e16⟩
        · rw [e1, su_ko _ _ (by omega), su_ko _ _ (by omega), su_ko _ _ (by omega), su_ko _ _ (by omega), g _ _ (by omega), g _ _ (by omega), g _ _ (by omega), g _ _ (by omega)]
          exact L3 y (by omega) hy2
      have hFOx : ∀ kd : Nat → Int, FO kd (fun y => τ0 8 (12 * t + y)) n x ↔ HF kd (fun y => τ0 8 (12 * t + y)) n x ∨ (nx (fun y => τ0 8 (12 * t + y)) n x ≠ -1 ∧ FO kd (fun y => τ0 8 (12 * t + y)) n (nx (fun y => τ0 8 (12 * t + y)) n x).toNat) := fun kd => FO_step hx
      have hHFx : ∀ kd : Nat → Int, HF kd (fun y => τ0 8 (12 * t + y)) n x ↔ kd x = 2 ∨ (fs (fun y => τ0 8 (12 * t + y)) n x ≠ -1 ∧ FO kd (fun y => τ0 8 (12 * t + y)) n (fs (fun y => τ0 8 (12 * t + y)) n x).toNat) := fun kd => HF_first hpd hx
      -- next and first as rows
      have nxc : (nx (fun y => τ0 8 (12 * t + y)) n x = -1 ∧ τ0 11 (12 * t + x) = -1) ∨ ∃ j : Nat, x < j ∧ j < n ∧ nx (fun y => τ0 8 (12 * t + y)) n x = (j : Int) ∧ τ0 11 (12 * t + x) = ((12 * t + j : Nat) : Int) := by
        rcases nx_spec (fun y => τ0 8 (12 * t + y)) n x with ⟨q, _⟩ | ⟨j, q1, q2, q3, _, _⟩
        · left; refine ⟨q, ?_⟩; rw [hnx]; unfold nxr; rw [if_pos q]
        · right; refine ⟨j, q2, q3, q1, ?_⟩; rw [hnx]; unfold nxr; rw [if_neg (by omega), q1, show ((j : Int)).toNat = j by omega]
      have fsc : (fs (fun y => τ0 8 (12 * t + y)) n x = -1 ∧ τ0 12 (12 * t + x) = -1) ∨ ∃ j : Nat, x < j ∧ j < n ∧ fs (fun y => τ0 8 (12 * t + y)) n x = (j : Int) ∧ τ0 12 (12 * t + x) = ((12 * t + j : Nat) : Int) := by
        rcases fs_spec (fun y => τ0 8 (12 * t + y)) n x with ⟨q, _⟩ | ⟨j, q1, q2, q3, _⟩
        · left; refine ⟨q, ?_⟩; rw [hfx]; unfold fsr; rw [if_pos q]
        · right
          have := hpd j q2
          simp only [] at this q3
          refine ⟨j, by omega, q2, q1, ?_⟩; rw [hfx]; unfold fsr; rw [if_neg (by omega), q1, show ((j : Int)).toNat = j by omega]
      have b137 : ∀ (τ1 : St) (y2 : Int), (∀ o k, ¬ (13 ≤ o ∧ o ≤ 14 ∧ k = 12 * t + x) → τ1 o k = τ o k) → τ1 13 (12 * t + x) = bI (HF (fun y => τ0 6 (12 * t + y)) (fun y => τ0 8 (12 * t + y)) n x) → τ1 14 (12 * t + x) = bI (HF (kwd (fun y => τ0 6 (12 * t + y))) (fun y => τ0 8 (12 * t + y)) n x) → bNar y2 = bI (FO (fun y => τ0 6 (12 * t + y)) (fun y => τ0 8 (12 * t + y)) n x) → wp_X9_look_B137 (fun z0 σ => wp_X9_look_L7 Q (x + 1) z0 σ) (x : Int) ((12 * t + x : Nat) : Int) ((12 * t + x : Nat) : Int) y2 Q τ1 := by
        intro τ1 y2 g e13 e14 e15
        unfold wp_X9_look_B137
        rw [w32_id (show -2147483648 ≤ ((12 * t + x : Nat) : Int) by omega) (by omega), show (((12 * t + x : Nat)) : Int).toNat = 12 * t + x by omega]
        refine ⟨hib, fun σ1 e1 => ⟨hib, ?_⟩⟩
        have g1 : ∀ o k, ¬ (13 ≤ o ∧ o ≤ 15 ∧ k = 12 * t + x) → σ1 o k = τ o k := fun o k z => by rw [e1, su_ko _ _ (by omega), g o k (by omega)]
        have f14 : σ1 14 (12 * t + x) = bI (HF (kwd (fun y => τ0 6 (12 * t + y))) (fun y => τ0 8 (12 * t + y)) n x) := by rw [e1, su_ko _ _ (by omega)]; exact e14
        have fin : ∀ y2 : Int, bNar y2 = bI (FO (kwd (fun y => τ0 6 (12 * t + y))) (fun y => τ0 8 (12 * t + y)) n x) → wp_X9_look_B181 (fun z0 σ => wp_X9_look_L7 Q (x + 1) z0 σ) (x : Int) ((12 * t + x : Nat) : Int) y2 Q σ1 := fun y2 q => b181 σ1 y2 ⟨L1, L2, L3⟩ g1 (by rw [e1, su_ko _ _ (by omega)]; exact e13) f14 (by rw [e1, su_at]; exact e15) q
        rw [f14, w32_bI, g1 11 _ (by omega), L1 11 _ (by omega)]
        unfold wp_X9_look_B176 wp_X9_look_B180
        by_cases a : HF (kwd (fun y => τ0 6 (12 * t + y))) (fun y => τ0 8 (12 * t + y)) n x
        · rw [bI_t a]
          exact ⟨fun _ => fin 1 (by rw [bNar_1, bI_t ((hFOx _).mpr (Or.inl a))]), fun z => absurd z (by decide)⟩
        · rw [bI_f a]
          refine ⟨fun z => absurd rfl z, fun _ => ⟨hib, ?_⟩⟩
          rcases nxc with ⟨n1, n2⟩ | ⟨j, j1, j2, j3, j4⟩
          · rw [n2]
            refine ⟨fun _ => fin 0 ?_, fun z => absurd (by decide) z⟩
            rw [bNar_0, bI_f]
            intro z
            rcases (hFOx _).mp z with w | w
            · exact a w
            · exact w.1 n1
          · rw [j4, w32_id (by omega) (by omega), show (((12 * t + j : Nat)) : Int).toNat = 12 * t + j by omega, g1 16 _ (by omega), (L3 j (by omega) j2).2.2.2, w32_bI]
            refine ⟨fun z => by omega, fun _ => ⟨hib, by omega, fun z => fin 0 ?_, fun z => fin 1 ?_⟩⟩
            · rw [bNar_0, bI_f]
              intro w
              rcases (hFOx _).mp w with y | y
              · exact a y
              · rw [j3, show ((j : Int)).toNat = j by omega] at y
                rw [bI_t y.2] at z; exact absurd z (by decide)
            · rw [bNar_1, bI_t]
              refine (hFOx _).mpr (Or.inr ⟨by omega, ?_⟩)
              rw [j3, show ((j : Int)).toNat = j by omega]
              rcases bI_01 (FO (kwd fun y => τ0 6 (12 * t + y)) (fun y => τ0 8 (12 * t + y)) n j) with w | w
              · exact absurd w z
              · exact bI_1.mp w
      have b93 : ∀ (τ1 : St) (y2 : Int), (∀ o k, ¬ (o = 13 ∧ k = 12 * t + x) → τ1 o k = τ o k) → τ1 13 (12 * t + x) = bI (HF (fun y => τ0 6 (12 * t + y)) (fun y => τ0 8 (12 * t + y)) n x) → bNar y2 = bI (HF (kwd (fun y => τ0 6 (12 * t + y))) (fun y => τ0 8 (12 * t + y)) n x) → wp_X9_look_B93 (fun z0 σ => wp_X9_look_L7 Q (x + 1) z0 σ) (x : Int) ((12 * t + x : Nat) : Int) ((12 * t + x : Nat) : Int) y2 Q τ1 := by
        intro τ1 y2 g e13 e14
        unfold wp_X9_look_B93
        rw [w32_id (show -2147483648 ≤ ((12 * t + x : Nat) : Int) by omega) (by omega), show (((12 * t + x : Nat)) : Int).toNat = 12 * t + x by omega]
        refine ⟨hib, fun σ1 e1 => ⟨hib, ?_⟩⟩
        have g1 : ∀ o k, ¬ (13 ≤ o ∧ o ≤ 14 ∧ k = 12 * t + x) → σ1 o k = τ o k := fun o k z => by rw [e1, su_ko _ _ (by omega), g o k (by omega)]
        have f13 : σ1 13 (12 * t + x) = bI (HF (fun y => τ0 6 (12 * t + y)) (fun y => τ0 8 (12 * t + y)) n x) := by rw [e1, su_ko _ _ (by omega)]; exact e13
        have fin : ∀ y2 : Int, bNar y2 = bI (FO (fun y => τ0 6 (12 * t + y)) (fun y => τ0 8 (12 * t + y)) n x) → wp_X9_look_B137 (fun z0 σ => wp_X9_look_L7 Q (x + 1) z0 σ) (x : Int) ((12 * t + x : Nat) : Int) ((12 * t + x : Nat) : Int) y2 Q σ1 := fun y2 q => b137 σ1 y2 g1 f13 (by rw [e1, su_at]; exact e14) q
        rw [f13, w32_bI, g1 11 _ (by omega), L1 11 _ (by omega)]
        unfold wp_X9_look_B132 wp_X9_look_B136
        by_cases a : HF (fun y => τ0 6 (12 * t + y)) (fun y => τ0 8 (12 * t + y)) n x
        · rw [bI_t a]
          exact ⟨fun _ => fin 1 (by rw [bNar_1, bI_t ((hFOx _).mpr (Or.inl a))]), fun z => absurd z (by decide)⟩
        · rw [bI_f a]
          refine ⟨fun z => absurd rfl z, fun _ => ⟨hib, ?_⟩⟩
          rcases nxc with ⟨n1, n2⟩ | ⟨j, j1, j2, j3, j4⟩
          · rw [n2]
            refine ⟨fun _ => fin 0 ?_, fun z => absurd (by decide) z⟩
            rw [bNar_0, bI_f]
            intro z
            rcases (hFOx _).mp z with w | w
            · exact a w
            · exact w.1 n1
          · rw [j4, w32_id (by omega) (by omega), show (((12 * t + j : Nat)) : Int).toNat = 12 * t + j by omega, g1 15 _ (by omega), (L3 j (by omega) j2).2.2.1, w32_bI]
            refine ⟨fun z => by omega, fun _ => ⟨hib, by omega, fun z => fin 0 ?_, fun z => fin 1 ?_⟩⟩
            · rw [bNar_0, bI_f]
              intro w
              rcases (hFOx _).mp w with y | y
              · exact a y
              · rw [j3, show ((j : Int)).toNat = j by omega] at y
                rw [bI_t y.2] at z; exact absurd z (by decide)
            · rw [bNar_1, bI_t]
              refine (hFOx _).mpr (Or.inr ⟨by omega, ?_⟩)
              rw [j3, show ((j : Int)).toNat = j by omega]
              rcases bI_01 (FO (fun y => τ0 6 (12 * t + y)) (fun y => τ0 8 (12 * t + y)) n j) with w | w
              · exact absurd w z
              · exact bI_1.mp w
      have b58 : ∀ y2 : Int, bNar y2 = bI (HF (fun y => τ0 6 (12 * t + y)) (fun y => τ0 8 (12 * t + y)) n x) → wp_X9_look_B58 (fun z0 σ => wp_X9_look_L7 Q (x + 1) z0 σ) (x : Int) ((12 * t + x : Nat) : Int) (τ0 12 (12 * t + x)) ((12 * t + x : Nat) : Int) y2 Q τ := by
        intro y2 e13
        unfold wp_X9_look_B58
        rw [w32_id (show -2147483648 ≤ ((12 * t + x : Nat) : Int) by omega) (by omega), show (((12 * t + x : Nat)) : Int).toNat = 12 * t + x by omega]
        refine ⟨hib, fun σ1 e1 => ⟨hib, ?_⟩⟩
        have g1 : ∀ o k, ¬ (o = 13 ∧ k = 12 * t + x) → σ1 o k = τ o k := fun o k z => by rw [e1, su_ko _ _ (by omega)]
        have fin : ∀ y2 : Int, bNar y2 = bI (HF (kwd (fun y => τ0 6 (12 * t + y))) (fun y => τ0 8 (12 * t + y)) n x) → wp_X9_look_B93 (fun z0 σ => wp_X9_look_L7 Q (x + 1) z0 σ) (x : Int) ((12 * t + x : Nat) : Int) ((12 * t + x : Nat) : Int) y2 Q σ1 := fun y2 q => b93 σ1 y2 g1 (by rw [e1, su_at]; exact e13) q
        rw [g1 6 _ (by omega), L1 6 _ (by omega), w32_id (show -2147483648 ≤ τ0 6 (12 * t + x) by omega) (by omega)]
        unfold wp_X9_look_B88 wp_X9_look_B92
        have kw : kwd (fun y => τ0 6 (12 * t + y)) x = 2 ↔ τ0 6 (12 * t + x) = 3 := by
          unfold kwd
          by_cases q : τ0 6 (12 * t + x) = 3
          · simp [q]
          · simp [q]
        refine ⟨fun z => fin 1 (by rw [bNar_1, bI_t ((hHFx _).mpr (Or.inl (kw.mpr z)))]), fun z => ?_⟩
        rcases fsc with ⟨n1, n2⟩ | ⟨j, j1, j2, j3, j4⟩
        · rw [n2]
          refine ⟨fun _ => fin 0 ?_, fun z => absurd (by decide) z⟩
          rw [bNar_0, bI_f]
          intro w
          rcases (hHFx _).mp w with y | y
          · exact z (kw.mp y)
          · exact y.1 n1
        · rw [j4, w32_id (by omega) (by omega), show (((12 * t + j : Nat)) : Int).toNat = 12 * t + j by omega, g1 16 _ (by omega), (L3 j (by omega) j2).2.2.2, w32_bI]
          refine ⟨fun z => by omega, fun _ => ⟨by omega, fun y => fin 0 ?_, fun y => fin 1 ?_⟩⟩
          · rw [bNar_0, bI_f]
            intro w
            rcases (hHFx _).mp w with v | v
            · exact z (kw.mp v)
            · rw [j3, show ((j : Int)).toNat = j by omega] at v
              rw [bI_t v.2] at y; exact absurd y (by decide)
          · rw [bNar_1, bI_t]
            refine (hHFx _).mpr (Or.inr ⟨by omega, ?_⟩)
            rw [j3, show ((j : Int)).toNat = j by omega]
            rcases bI_01 (FO (kwd fun y => τ0 6 (12 * t + y)) (fun y => τ0 8 (12 * t + y)) n j) with w | w
            · exact absurd w y
            · exact bI_1.mp w
      refine ⟨hib, fun x3 ex3 => ⟨hib, ?_⟩⟩
      rw [L1 12 _ (by omega)] at ex3
      rw [ex3, L1 6 _ (by omega), w32_id (show -2147483648 ≤ τ0 6 (12 * t + x) by omega) (by omega)]
      unfold wp_X9_look_B53 wp_X9_look_B57
      refine ⟨fun z => b58 1 (by rw [bNar_1, bI_t ((hHFx _).mpr (Or.inl z))]), fun z => ?_⟩
      rcases fsc with ⟨n1, n2⟩ | ⟨j, j1, j2, j3, j4⟩
      · refine ⟨fun _ => b58 0 ?_, fun w => absurd (by rw [n2]; decide) w⟩
        rw [bNar_0, bI_f]
        intro w
        rcases (hHFx _).mp w with y | y
        · exact z y
        · exact y.1 n1
      · have w12 : w32 (τ0 12 (12 * t + x)) = ((12 * t + j : Nat) : Int) := by rw [j4]; exact w32_id (by omega) (by omega)
        rw [w12, show (((12 * t + j : Nat)) : Int).toNat = 12 * t + j by omega, (L3 j (by omega) j2).2.2.1, w32_bI]
        refine ⟨fun z => by omega, fun _ => ⟨by omega, fun y => b58 0 ?_, fun y => b58 1 ?_⟩⟩
        · rw [bNar_0, bI_f]
          intro w
          rcases (hHFx _).mp w with v | v
          · exact z v
          · rw [j3, show ((j : Int)).toNat = j by omega] at v
            rw [bI_t v.2] at y; exact absurd y (by decide)
        · rw [bNar_1, bI_t]
          refine (hHFx _).mpr (Or.inr ⟨by omega, ?_⟩)
          rw [j3, show ((j : Int)).toNat = j by omega]
          rcases bI_01 (FO (fun y => τ0 6 (12 * t + y)) (fun y => τ0 8 (12 * t + y)) n j) with w | w
          · exact absurd w y
          · exact bI_1.mp w
  unfold wp_X9_look
  intro x1 e1
  rw [h30] at e1
  rw [e1]
  exact ⟨n + 1, key n τ0 (Nat.le_refl n) ⟨fun _ _ _ => rfl, fun _ _ _ => rfl, fun y a b => by omega⟩⟩
