/-! pure: the reference chooses the first tree -/
theorem An_0 {p : Nat → Int} {n : Nat} (hp : Pd p n) (hq : ∀ x, 0 < x → x < n → p x ≠ -1) : ∀ (m y : Nat), y ≤ m → y < n → An p 0 y := by
  intro m
  induction m with
  | zero =>
    intro y h1 h2
    have e : y = 0 := by omega
    subst e
    exact ⟨0, rfl⟩
  | succ m ih =>
    intro y h1 h2
    by_cases e : y = 0
    · subst e; exact ⟨0, rfl⟩
    · have b := hp y h2
      have c := hq y (by omega) h2
      have y0 : 0 ≤ p y := by omega
      exact An_up y0 (ih (p y).toNat (by omega) (by omega))
theorem ft_root {c : Nat → Nat → Int} {N : Nat} {sz : Nat → Nat} {sd : Nat → Int} {n : Nat} {hw wo : Nat → Prop} {σ : St} {t y : Nat} (hC : CC c N sz sd n hw wo σ) (ht : t < N) (hy : y < sz t) (hk : c (12 * t + y) 0 = 2) : c (12 * t) 6 = 1 := by
  obtain ⟨c1, c2, c3, c4, c5, c6, c7, c8⟩ := hC
  obtain ⟨f1, f2, f3, f4, f5, f6, f7, f8⟩ := c4 t ht
  have e := (f6 0 f2).2.2.2.2.2.2.1
  have e6 : nd σ t 0 6 = c (12 * t) 6 := c5 t 0 6 ht f2 (by decide)
  have e0 : nd σ t y 0 = 2 := (c5 t y 0 ht hy (by decide)).trans hk
  rw [← e6, e]
  obtain ⟨k, hk'⟩ := An_0 f4.1 f4.2.2.2.2.2.2.1 y y (Nat.le_refl _) hy
  exact bI_t ⟨k, y, hy, e0, hk'⟩
theorem sp_mgoal {c : Nat → Nat → Int} {N : Nat} {sz : Nat → Nat} {sd : Nat → Int} {n : Nat} {hw wo : Nat → Prop} {τ : St} {QM : Int → St → Prop} {t' : Nat} {way left goal : Int} (hC : CM c N sz sd n hw wo τ) (h37 : τ 0 37 = goal) (hgo : 0 ≤ goal ∧ goal < 16) (hway : way < 1000000001) (hs : SI c N (VV c N sd) goal 0 n way t' left)
    (h : ∀ τ', τ' 0 42 = ((0 + 1 : Nat) : Int) → τ' 0 48 = ((0 + 1 : Nat) : Int) → JobAt τ' 0 0 (12 * t') 0 0 (-1) (-1) n left → τ' 23 (7 * 0) = (t' : Int) → τ' 23 (7 * 0 + 1) = -1 → τ' 23 (7 * 0 + 2) = -1 → τ' 23 (7 * 0 + 3) = ((0 : Nat) : Int) → τ' 23 (7 * 0 + 4) = (n : Int) → τ' 23 (7 * 0 + 5) = -1 → τ' 23 (7 * 0 + 6) = -1 → (∀ d, d < 12 → τ' 26 (12 * 0 + d) = -1) → (∀ o k, ¬ (o = 0 ∧ (k = 42 ∨ k = 48)) → ¬ (23 ≤ o ∧ o ≤ 28) → τ' o k = τ o k) → ∃ nn, wp_X9_choose_L143 QM nn τ') : ∃ nn, wp_X9_choose_L49 QM nn way 0 τ := by
  obtain ⟨c1, c2, c3, c4, c5, c6, c7, c8, c9⟩ := hC
  obtain ⟨s1, s2, s3, s4, s5⟩ := hs
  have gr : -1 ≤ goal ∧ goal < 32 := by omega
  have smp := fun m => sm_p (f := fI c (VV c N sd) goal 0 n) m (fun d _ => (fI_r c N sd goal 0 n d).1)
  have loop : ∀ (m t'' : Nat), t' - t'' = m → t'' ≤ t' → wp_X9_choose_L49 QM (m + 1) (way - sm (fI c (VV c N sd) goal 0 n) t'') (t'' : Int) τ := by
    intro m
    induction m with
    | zero =>
      intro t'' q1 q2
      have e : t'' = t' := by omega
      subst e
      have ft := c6.2 t'' s1
      have mt := c5 t'' 0 s1 ft.1
      have ct := c6.1 t'' 0 s1 ft.1
      have n1 : 0 ≤ c (12 * t'') 1 ∧ c (12 * t'') 1 < 32 := ⟨ct.2.2.2.2.2.2.2.2.2.2.1, ct.2.2.2.2.2.2.2.2.2.2.2.1⟩
      have g6 : c (12 * t'') 6 = 0 ∨ c (12 * t'') 6 = 1 := ct.2.1
      clear ct
      have z16 : t'' < 16 := by omega
      have vr := VV_r c N sd false (12 * t'') 0 (-1) (-1) n
      unfold wp_X9_choose_L49
      refine sp_isGoal (c := c) (t := t'') z16 mt.2.1 mt.2.2.2.2.1 h37 g6 n1 gr rfl ?_
      rw [if_pos s2]
      refine ⟨fun z => absurd z (by decide), fun _ => ?_⟩
      refine sp_lie (g := 0) (n := n) (r := 12 * t'') (i := 0) (l := n) (j := -1) (k := -1) c8 ⟨Nat.zero_le _, Nat.le_refl _, Or.inl ⟨rfl, rfl, rfl⟩⟩ c1 (by omega) (by omega) rfl c4 (fun z => absurd rfl z) ?_
      have eT : mT τ false (12 * t'') 0 (-1) (-1) n = VV c N sd false (12 * t'') 0 (-1) (-1) n := c7 false t'' 0 0 n (-1) (-1) s1 ft.1 ⟨Nat.zero_le _, Nat.le_refl _, Or.inl ⟨s2.2, rfl, rfl⟩⟩
      have el : way - sm (fI c (VV c N sd) goal 0 n) t'' = left := by omega
      rw [eT, el, lCmp_lt (by omega) (by omega)]
      refine ⟨fun _ τ5 e5 τ6 e6 => ?_, fun z => absurd s4 z⟩
      have f6 : ∀ o k, ¬ (o = 0 ∧ (k = 42 ∨ k = 48)) → τ6 o k = τ o k := fun o k q => by rw [e6, su_ko _ _ (fun z => q ⟨z.1, Or.inr z.2⟩), e5, su_ko _ _ (fun z => q ⟨z.1, Or.inl z.2⟩)]
      have p42 : τ6 0 42 = ((0 : Nat) : Int) := by rw [e6, su_ko _ _ (fun z => absurd z.2 (by decide)), e5, su_at]; rfl
      have p48 : τ6 0 48 = ((0 : Nat) : Int) := by rw [e6, su_at]; rfl
      have p26 : τ6 0 26 = (n : Int) := (f6 0 26 (fun z => absurd z.2 (by decide))).trans c4
      refine sp_takeTree (U := 0) (P := 0) (t := t'') (i := 0) (l := n) (k := -1) (y := none) p42 (by decide) p48 (by decide) z16 rfl rfl p26 (by decide) (fun z => absurd rfl z) (fun _ => rfl) (Or.inl ⟨rfl, rfl⟩) (fun τ' p1 p2 p3 p4 p5 p6 p7 p8 p9 p10 p11 p12 p13 => ?_)
      refine h τ' p1 p2 p3 p4 p5 p6 p7 p8 p9 p10 p11 (fun o k q1 q2 => (p13 o k q1 (fun z => q2 (by omega)) (fun z => q2 (by omega)) (fun z => q2 (by omega)) (fun z => q2 (by omega)) (fun z => q2 (by omega))).trans (f6 o k q1))
    | succ m ih =>
      intro t'' q1 q2
      have z0 : t'' < N := by omega
      have ft := c6.2 t'' z0
      have mt := c5 t'' 0 z0 ft.1
      have ct := c6.1 t'' 0 z0 ft.1
      have n1 : 0 ≤ c (12 * t'') 1 ∧ c (12 * t'') 1 < 32 := ⟨ct.2.2.2.2.2.2.2.2.2.2.1, ct.2.2.2.2.2.2.2.2.2.2.2.1⟩
      have g6 : c (12 * t'') 6 = 0 ∨ c (12 * t'') 6 = 1 := ct.2.1
      clear ct
      have z16 : t'' < 16 := by omega
      have z1 : t' - (t'' + 1) = m := by omega
      have z2 : t'' + 1 ≤ t' := by omega
      have z3 : (t'' : Int) + 1 = ((t'' + 1 : Nat) : Int) := by omega
      have z4 : 12 * (t'' : Int) = ((12 * t'' : Nat) : Int) := by omega
      have S0 := smp t''
      have mono := sm_mono (f := fI c (VV c N sd) goal 0 n) (fun d => (fI_r c N sd goal 0 n d).1) z2
      rw [sm_1] at mono
      have nxt := ih (t'' + 1) z1 z2
      rw [sm_1, show way - (sm (fI c (VV c N sd) goal 0 n) t'' + fI c (VV c N sd) goal 0 n t'') = way - sm (fI c (VV c N sd) goal 0 n) t'' - fI c (VV c N sd) goal 0 n t'' by omega] at nxt
      have isF : ∀ R : Int → St → Prop, R (if c (12 * t'') 1 = goal ∧ c (12 * t'') 6 = 0 then 1 else 0) τ → wp_X9_isGoal (t'' : Int) R τ := fun R hR => sp_isGoal (c := c) (t := t'') z16 mt.2.1 mt.2.2.2.2.1 h37 g6 n1 gr rfl hR
      by_cases q : c (12 * t'') 1 = goal ∧ c (12 * t'') 6 = 0
      · have ef : fI c (VV c N sd) goal 0 n t'' = VV c N sd false (12 * t'') 0 (-1) (-1) n := by unfold fI; rw [if_pos q]
        have vr := VV_r c N sd false (12 * t'') 0 (-1) (-1) n
        have eT : mT τ false (12 * t'') 0 (-1) (-1) n = VV c N sd false (12 * t'') 0 (-1) (-1) n := c7 false t'' 0 0 n (-1) (-1) z0 ft.1 ⟨Nat.zero_le _, Nat.le_refl _, Or.inl ⟨q.2, rfl, rfl⟩⟩
        have lie : ∀ R : Int → St → Prop, R (VV c N sd false (12 * t'') 0 (-1) (-1) n) τ → wp_X9_lie (12 * (t'' : Int)) 0 (-1) (-1) (τ 0 26) R τ := fun R hR => sp_lie (g := 0) (n := n) (r := 12 * t'') (i := 0) (l := n) (j := -1) (k := -1) c8 ⟨Nat.zero_le _, Nat.le_refl _, Or.inl ⟨rfl, rfl, rfl⟩⟩ c1 (by omega) z4 rfl c4 (fun z => absurd rfl z) (by rw [eT]; exact hR)
        unfold wp_X9_choose_L49
        refine isF _ ?_
        rw [if_pos q]
        refine ⟨fun z => absurd z (by decide), fun _ => lie _ ?_⟩
        rw [ef] at mono nxt
        rw [lCmp_lt (by omega) (by omega)]
        refine ⟨fun z => by omega, fun _ => ?_⟩
        unfold wp_X9_choose_B79
        refine isF _ ?_
        rw [if_pos q]
        refine ⟨fun z => absurd z (by decide), fun _ => lie _ ?_⟩
        unfold wp_X9_choose_B109
        intro x_1 ex1 x_2 ex2
        rw [ex1, ex2, z3]
        exact nxt
      · have ef : fI c (VV c N sd) goal 0 n t'' = 0 := by unfold fI; rw [if_neg q]
        unfold wp_X9_choose_L49
        refine isF _ ?_
        rw [if_neg q]
        refine ⟨fun _ => ?_, fun z => absurd w32_0 z⟩
        unfold wp_X9_choose_B79
        refine isF _ ?_
        rw [if_neg q]
        refine ⟨fun _ => ?_, fun z => absurd w32_0 z⟩
        unfold wp_X9_choose_B109
        intro x_1 ex1 x_2 ex2
        rw [ef] at nxt
        rw [ex1, ex2, z3]
        exact nxt
  have := loop t' 0 (by omega) (by omega)
  rw [sm_z0, Int.sub_zero] at this
  exact ⟨_, this⟩
