/-! pure: the reference lays a run, and a node -/
def CM (c : Nat → Nat → Int) (N : Nat) (sz : Nat → Nat) (sd : Nat → Int) (n : Nat) (hw wo : Nat → Prop) (τ : St) : Prop := n ≤ 8 ∧ N ≤ 16 ∧ τ 0 23 = (N : Int) ∧ τ 0 26 = (n : Int) ∧ (∀ t x, t < N → x < sz t → τ 6 (12 * t + x) = c (12 * t + x) 0 ∧ τ 7 (12 * t + x) = c (12 * t + x) 1 ∧ τ 10 (12 * t + x) = c (12 * t + x) 4 ∧ τ 11 (12 * t + x) = c (12 * t + x) 5 ∧ τ 13 (12 * t + x) = c (12 * t + x) 6 ∧ (c (12 * t + x) 0 = 0 → τ 12 (12 * t + x) = ((12 * t + x + 1 : Nat) : Int)) ∧ (0 ≤ c (12 * t + x) 4 ∧ c (12 * t + x) 4 ≤ 2)) ∧ CF c N sz hw wo ∧ RDm c N sz sd n τ ∧ NS τ ∧ MB τ
theorem CM_fr {c : Nat → Nat → Int} {N : Nat} {sz : Nat → Nat} {sd : Nat → Int} {n : Nat} {hw wo : Nat → Prop} {τ τ' : St} (h : CM c N sz sd n hw wo τ) (f : ∀ o k, o < 23 → ¬ (o = 0 ∧ (k = 42 ∨ k = 48 ∨ k = 50 ∨ k = 0)) → τ' o k = τ o k) : CM c N sz sd n hw wo τ' := by
  obtain ⟨a1, a2, a3, a4, a5, a6, a7, a8, a9⟩ := h
  refine ⟨a1, a2, by rw [f 0 23 (by omega) (by omega)]; exact a3, by rw [f 0 26 (by omega) (by omega)]; exact a4, fun t x ht hx => ?_, a6, fun o t x i l j k q1 q2 v => ?_, fun i j k l q1 q2 q3 q4 => ?_, ?_⟩
  · rw [f 6 _ (by omega) (by omega), f 7 _ (by omega) (by omega), f 10 _ (by omega) (by omega), f 11 _ (by omega) (by omega), f 13 _ (by omega) (by omega), f 12 _ (by omega) (by omega)]
    exact a5 t x ht hx
  · rw [← a7 o t x i l j k q1 q2 v, mT_ar, mT_ar]
    exact f _ _ (by cases o <;> decide) (by cases o <;> (intro z; exact absurd z.1 (by decide)))
  · rw [f 20 _ (by omega) (by omega)]; exact a8 i j k l q1 q2 q3 q4
  · intro k; rw [f 21 k (by omega) (by omega), f 22 k (by omega) (by omega)]; exact a9 k
theorem spl_m {c : Nat → Nat → Int} {N : Nat} {sz : Nat → Nat} {sd : Nat → Int} {n : Nat} {hw wo : Nat → Prop} {τ : St} {t x xn i l e : Nat} {j k : Int} (hC : CM c N sz sd n hw wo τ) (ht : t < N) (hx : x < sz t) (hn : xn < sz t) (h5 : c (12 * t + x) 5 = ((12 * t + xn : Nat) : Int)) (hv : Vs (c (12 * t + x) 7) i j k l n) (hie : i ≤ e) (hel : e ≤ l) : spl c (mT τ) (12 * t + x) i j k l e = spl c (VV c N sd) (12 * t + x) i j k l e := by
  obtain ⟨a1, a2, a3, a4, a5, a6, a7, a8, a9⟩ := hC
  by_cases g : gd c (12 * t + x) j k e
  · rw [spl_g.1 g, spl_g.1 g]
    obtain ⟨w1, w2⟩ := gd_vs a6 ht hx hn h5 hv hie hel g
    have en : (c (12 * t + x) 5).toNat = 12 * t + xn := by rw [h5]; omega
    have e1 : hdV c (mT τ) (12 * t + x) i j k e = hdV c (VV c N sd) (12 * t + x) i j k e := a7 false t x i e _ _ ht hx w1
    have e2 : tlV c (mT τ) (12 * t + x) j k l e = tlV c (VV c N sd) (12 * t + x) j k l e := by unfold tlV; rw [en]; exact a7 true t xn e l _ _ ht hn w2
    rw [e1, e2]
  · rw [spl_g.2 g, spl_g.2 g]
theorem sp_mlayOn {c : Nat → Nat → Int} {N : Nat} {sz : Nat → Nat} {sd : Nat → Int} {n : Nat} {hw wo : Nat → Prop} {τ : St} {Q : St → Prop} {u t x xn P i l e : Nat} {j k k' way left a1 a2 a3 a6 : Int} (hC : CM c N sz sd n hw wo τ) (ht : t < N) (hx : x < sz t) (hn : xn < sz t) (h5 : c (12 * t + x) 5 = ((12 * t + xn : Nat) : Int)) (hP : τ 0 48 = (P : Int)) (hP2 : P + 1 < 200) (hr : RV c (VV c N sd) n (12 * t + x) i j k l way) (hs : SpO c (VV c N sd) (12 * t + x) i j k l way e left) (h1 : a1 = (u : Int)) (h2 : a2 = ((12 * t + x : Nat) : Int)) (h3 : a3 = (i : Int)) (h6 : a6 = (l : Int)) (hk : j ≠ -1 → k' = k)
    (h : ∀ τ', τ' 0 48 = ((P + 2 : Nat) : Int) → JobAt τ' P u (12 * t + xn) 1 e (tJ c (12 * t + x) j) (tJ c (12 * t + x) k) l (left % tlV c (VV c N sd) (12 * t + x) j k l e) → JobAt τ' (P + 1) u (12 * t + x) 0 i (hJ c (12 * t + x) j) (hJ c (12 * t + x) k) e (left / tlV c (VV c N sd) (12 * t + x) j k l e) → (∀ o k, ¬ (o = 0 ∧ k = 48) → ¬ (o = 27 ∧ 7 * P ≤ k ∧ k < 7 * P + 14) → ¬ (o = 28 ∧ P ≤ k ∧ k < P + 2) → τ' o k = τ o k) → Q τ') : wp_X9_layOn a1 a2 a3 j k' a6 way Q τ := by
  have hC0 := hC
  obtain ⟨c1, c2, c3, c4, c5, c6, c7, c8, c9⟩ := hC
  obtain ⟨m6, m7, m10, m11, m13, m12, m4⟩ := c5 t x ht hx
  have s12 := (c6.2 t ht).2.1
  have h01 : c (12 * t + x) 6 = 0 ∨ c (12 * t + x) 6 = 1 := (c6.1 t x ht hx).2.1
  have g7 : c (12 * t + x) 6 = 1 → c (12 * t + x) 7 = 1 := fun z => (c6.1 t x ht hx).2.2.2.2.2.2.1.mpr (Or.inl z)
  obtain ⟨k1, k2, k3, k4, k5⟩ := SpO_k c6 ht hx hn h5 hr.1 hs
  obtain ⟨s1, s2, s3, s4, s5⟩ := hs
  obtain ⟨v, w0, wl⟩ := hr
  have hv := v.vs
  obtain ⟨v1, v2, v3⟩ := v.vs
  have wV : way < 1000000001 := by have := (VV_r c N sd true (12 * t + x) i j k l).2; omega
  have hj6 : c (12 * t + x) 6 = 1 → j ≠ -1 := fun z => by have := g7 z; rcases v3 with w | w <;> omega
  have zr : 12 * t + x < 192 := by omega
  have zn : 12 * t + xn < 192 := by omega
  have w1 : w32 a2 = ((12 * t + x : Nat) : Int) := by rw [h2]; exact w32_id (by omega) (by omega)
  have rn : (((12 * t + x : Nat) : Int)).toNat = 12 * t + x := by omega
  have sp0 : ∀ e, 0 ≤ cap (spl c (VV c N sd) (12 * t + x) i j k l e) := fun e => by
    refine (cap_r ?_).1
    unfold spl
    repeat' split
    all_goals first | exact Int.mul_nonneg (VV_r _ _ _ _ _ _ _ _ _).1 (VV_r _ _ _ _ _ _ _ _ _).1 | exact Int.le_refl 0
  have tr : tlV c (VV c N sd) (12 * t + x) j k l e ≤ 1000000000 := (VV_r _ _ _ _ _ _ _ _ _).2
  -- sp_split takes the k of the span
  have splt : ∀ (e' : Nat) (R : Int → St → Prop), i ≤ e' → e' ≤ l → R (cap (spl c (VV c N sd) (12 * t + x) i j k l e')) τ → wp_X9_split a2 a3 (e' : Int) j k' a6 R τ := by
    intro e' R q1 q2 hR
    rw [← spl_m hC0 ht hx hn h5 hv q1 q2] at hR
    by_cases q : j = -1
    · -- k is not looked at
      have kk : k = -1 := by rcases v3 with w | w <;> omega
      have q6 : c (12 * t + x) 6 = 0 := by rcases h01 with w | w; exact w; exact absurd q (hj6 w)
      have base := sp_split (c := c) (Q := R) (g := c (12 * t + x) 7) (r := 12 * t + x) (i := i) (e := e') (l := l) (n := n) (xr := 12 * t + xn) (j := j) (k := k) c8 c9 c1 zr m13 h01 (by rw [m11]; exact h5) zn h5 hj6 hv q1 q2 h2 h3 rfl h6 hR
      unfold wp_X9_split wp_X9_split_B19 wp_X9_split_B38 wp_X9_split_B52 wp_X9_split_B77 at base ⊢
      rw [w1, rn, m13, q6] at base ⊢
      refine ⟨base.1, fun x_1 ex => ?_⟩
      have b2 := base.2 x_1 ex
      rw [ex] at b2 ⊢
      refine ⟨fun _ => ?_, fun z => absurd w32_0 z⟩
      have b3 := b2.1 w32_0
      refine ⟨fun z => absurd w32_0 z, fun _ => ?_⟩
      have b4 := b3.2 w32_0
      rw [q] at b4 ⊢
      refine ⟨fun _ => ?_, fun z => absurd (by decide) z⟩
      have b5 := (b4.1 (by decide)).1 w32_0
      refine ⟨fun _ => ?_, fun z => absurd w32_0 z⟩
      -- both looks go without a gap
      unfold wp_X9_lie at b5 ⊢
      refine ⟨fun z => absurd (by decide) z, fun _ => ?_⟩
      have b6 := b5.2 (by decide)
      unfold wp_X9_key at b6 ⊢
      unfold wp_X9_lie_B38 at b6 ⊢
      refine ⟨b6.1, b6.2.1, ?_⟩
      have b7 := b6.2.2
      refine ⟨b7.1, fun _ => ?_, fun z => absurd w32_0 z⟩
      have b8 := b7.2.1 w32_0
      unfold wp_X9_run at b8 ⊢
      exact ⟨fun z => absurd (by decide) z, fun _ => b8.2 (by decide)⟩
    · rw [hk q]
      exact sp_split (c := c) (g := c (12 * t + x) 7) (r := 12 * t + x) (i := i) (e := e') (l := l) (n := n) (xr := 12 * t + xn) c8 c9 c1 zr m13 h01 (by rw [m11]; exact h5) zn h5 hj6 hv q1 q2 h2 h3 rfl h6 hR
  have mono : ∀ e', i ≤ e' → e' < e → sm (fun d => cap (spl c (VV c N sd) (12 * t + x) i j k l (i + d))) (e' - i) + cap (spl c (VV c N sd) (12 * t + x) i j k l e') ≤ way := by
    intro e' q1 q2
    have := sm_mono (f := fun d => cap (spl c (VV c N sd) (12 * t + x) i j k l (i + d))) (fun d => sp0 _) (show e' + 1 - i ≤ e - i by omega)
    rw [show e' + 1 - i = (e' - i) + 1 by omega, sm_1, show i + (e' - i) = e' by omega] at this
    omega
  have smp := fun m => sm_p (f := fun d => cap (spl c (VV c N sd) (12 * t + x) i j k l (i + d))) m (fun d _ => sp0 _)
  have S0e := smp (e - i)
  have dv := lDiv_n (x := left) (y := tlV c (VV c N sd) (12 * t + x) j k l e) (by omega) (by omega)
  -- the end of the search
  have fin : ∀ (tj hj : Int) (x_3 : Int), x_3 = c (12 * t + x) 6 → tj = tJ c (12 * t + x) j → hj = hJ c (12 * t + x) j → wp_X9_run ((12 * t + xn : Nat) : Int) (e : Int) tj k' a6 (fun r2 σ1 => (0 ≤ w32 a2 ∧ w32 a2 < 204) ∧ (¬ w64 r2 = 0 ∧ wp_X9_job a1 (σ1 11 (w32 a2).toNat) 1 (e : Int) tj k' a6 (lRem left r2) (fun σ1 => ¬ w64 r2 = 0 ∧ wp_X9_job a1 a2 0 a3 hj k' (e : Int) (lDiv left r2) (fun σ1 => Q σ1) σ1) σ1)) τ := by
    intro tj hj x_3 q0 q1 q2
    subst q1 q2
    have vt := (gd_vs c6 ht hx hn h5 hv s1 s2 k1).2
    have kt : tJ c (12 * t + x) j ≠ -1 → k' = tJ c (12 * t + x) k := fun q => by
      unfold tJ at q ⊢
      by_cases z : c (12 * t + x) 6 = 1
      · rw [if_pos z] at q; exact absurd rfl q
      · rw [if_neg z] at q ⊢; exact hk q
    have kh : hJ c (12 * t + x) j ≠ -1 → k' = hJ c (12 * t + x) k := fun q => by
      unfold hJ at q ⊢
      by_cases z : c (12 * t + x) 6 = 1
      · rw [if_pos z] at q ⊢; exact hk q
      · rw [if_neg z] at q; exact absurd rfl q
    have er : mT τ true (12 * t + xn) e (tJ c (12 * t + x) j) (tJ c (12 * t + x) k) l = tlV c (VV c N sd) (12 * t + x) j k l e := by rw [k3]; exact c7 true t xn e l _ _ ht hn vt
    refine sp_run (r := 12 * t + xn) (i := e) (l := l) (j := tJ c (12 * t + x) j) (k := tJ c (12 * t + x) k) c8 vt c1 zn rfl rfl h6 kt ?_
    rw [er, w1, rn, m11, h5, w64_id (by omega) (by omega)]
    refine ⟨by omega, by omega, ?_⟩
    rw [dv.1, dv.2]
    refine sp_job (P := P) (u := u) (r := 12 * t + xn) (i := e) (l := l) (k := tJ c (12 * t + x) k) hP (by omega) (Or.inr rfl) h1 rfl rfl h6 kt (fun τ1 y1 y2 y3 => ⟨by omega, ?_⟩)
    refine sp_job (P := P + 1) (u := u) (r := 12 * t + x) (i := i) (l := e) (k := hJ c (12 * t + x) k) y1 (by omega) (Or.inl rfl) h1 h2 h3 rfl kh (fun τ2 y4 y5 y6 => ?_)
    refine h τ2 y4 (JobAt_fr y2 (fun d hd => y6 27 _ (by omega) (by omega) (by omega)) (y6 28 P (by omega) (by omega) (by omega))) y5 (fun o k q1 q2 q3 => ?_)
    rw [y6 o k q1 (by omega) (by omega)]
    exact y3 o k q1 (by omega) (by omega)
  have loop : ∀ (m e' : Nat), e - e' = m → i ≤ e' → e' ≤ e → wp_X9_layOn_L34 Q (m + 1) a1 a2 a3 j k' a6 (way - sm (fun d => cap (spl c (VV c N sd) (12 * t + x) i j k l (i + d))) (e' - i)) (e' : Int) τ := by
    intro m
    induction m with
    | zero =>
      intro e' q1 q2 q3
      have ee : e' = e := by omega
      subst ee
      have el : way - sm (fun d => cap (spl c (VV c N sd) (12 * t + x) i j k l (i + d))) (e' - i) = left := by omega
      have cr : cap (spl c (VV c N sd) (12 * t + x) i j k l e') ≤ 1000000000 := by unfold cap; split <;> omega
      rw [el]
      unfold wp_X9_layOn_L34
      refine splt e' _ s1 s2 ?_
      rw [lCmp_lt (by omega) (by omega)]
      refine ⟨fun _ => ?_, fun z => absurd s4 z⟩
      rw [w1, rn]
      refine ⟨by omega, fun x_3 ex3 => ⟨by omega, ?_⟩⟩
      rw [m13] at ex3
      unfold wp_X9_layOn_B107 wp_X9_layOn_B138 wp_X9_layOn_B166
      rw [m11, h5]
      rcases h01 with q | q
      · have f := fin j (-1) x_3 ex3 (by unfold tJ; rw [if_neg (by omega)]) (by unfold hJ; rw [if_neg (by omega)])
        rw [ex3, q]
        refine ⟨fun _ => ?_, fun z => absurd w32_0 z⟩
        rw [w1, rn] at f
        rw [w1, rn]
        have mono2 : ∀ (A B : Int → St → Prop) (p1 p2 p3 p4 p5 : Int) (s : St), (∀ r s, A r s → B r s) → wp_X9_run p1 p2 p3 p4 p5 A s → wp_X9_run p1 p2 p3 p4 p5 B s := by
          intro A B p1 p2 p3 p4 p5 s hAB
          unfold wp_X9_run wp_X9_key wp_X9_run_B38
          exact fun hh => ⟨fun z => ⟨(hh.1 z).1, (hh.1 z).2.1, hAB _ _ (hh.1 z).2.2⟩, fun z => ⟨(hh.2 z).1, (hh.2 z).2.1, hAB _ _ (hh.2 z).2.2⟩⟩
        have mono3 : ∀ (A B : St → Prop) (p1 p2 p3 p4 p5 p6 p7 p8 : Int) (s : St), (∀ s, A s → B s) → wp_X9_job p1 p2 p3 p4 p5 p6 p7 p8 A s → wp_X9_job p1 p2 p3 p4 p5 p6 p7 p8 B s := by
          intro A B p1 p2 p3 p4 p5 p6 p7 p8 s hAB
          unfold wp_X9_job wp_X9_job_B44
          intro hh x1 ex1
          have h1 := hh x1 ex1
          refine ⟨h1.1, fun s2 e2 => ?_⟩
          have h2 := h1.2 s2 e2
          refine ⟨h2.1, fun s3 e3 => ?_⟩
          have h3 := h2.2 s3 e3
          have go : ∀ o : Int, ((0 ≤ w32 (x1 + 2) ∧ w32 (x1 + 2) < 1400) ∧ ∀ σ1 : St, σ1 = su s3 27 (w32 (x1 + 2)).toNat o → (0 ≤ w32 (x1 + 3) ∧ w32 (x1 + 3) < 1400) ∧ ∀ σ2 : St, σ2 = su σ1 27 (w32 (x1 + 3)).toNat p4 → (0 ≤ w32 (x1 + 4) ∧ w32 (x1 + 4) < 1400) ∧ ∀ σ3 : St, σ3 = su σ2 27 (w32 (x1 + 4)).toNat p5 → (0 ≤ w32 (x1 + 5) ∧ w32 (x1 + 5) < 1400) ∧ ∀ σ4 : St, σ4 = su σ3 27 (w32 (x1 + 5)).toNat p6 → (0 ≤ w32 (x1 + 6) ∧ w32 (x1 + 6) < 1400) ∧ ∀ σ5 : St, σ5 = su σ4 27 (w32 (x1 + 6)).toNat p7 → (0 ≤ w32 (σ5 0 48) ∧ w32 (σ5 0 48) < 200) ∧ ∀ σ6 : St, σ6 = su σ5 28 (w32 (σ5 0 48)).toNat p8 → ∀ σ7 : St, σ7 = su σ6 0 48 ((σ6 0 48) + 1) → A σ7) → ((0 ≤ w32 (x1 + 2) ∧ w32 (x1 + 2) < 1400) ∧ ∀ σ1 : St, σ1 = su s3 27 (w32 (x1 + 2)).toNat o → (0 ≤ w32 (x1 + 3) ∧ w32 (x1 + 3) < 1400) ∧ ∀ σ2 : St, σ2 = su σ1 27 (w32 (x1 + 3)).toNat p4 → (0 ≤ w32 (x1 + 4) ∧ w32 (x1 + 4) < 1400) ∧ ∀ σ3 : St, σ3 = su σ2 27 (w32 (x1 + 4)).toNat p5 → (0 ≤ w32 (x1 + 5) ∧ w32 (x1 + 5) < 1400) ∧ ∀ σ4 : St, σ4 = su σ3 27 (w32 (x1 + 5)).toNat p6 → (0 ≤ w32 (x1 + 6) ∧ w32 (x1 + 6) < 1400) ∧ ∀ σ5 : St, σ5 = su σ4 27 (w32 (x1 + 6)).toNat p7 → (0 ≤ w32 (σ5 0 48) ∧ w32 (σ5 0 48) < 200) ∧ ∀ σ6 : St, σ6 = su σ5 28 (w32 (σ5 0 48)).toNat p8 → ∀ σ7 : St, σ7 = su σ6 0 48 ((σ6 0 48) + 1) → B σ7) := fun o hh => ⟨hh.1, fun a ea => ⟨(hh.2 a ea).1, fun b eb => ⟨((hh.2 a ea).2 b eb).1, fun c' ec => ⟨(((hh.2 a ea).2 b eb).2 c' ec).1, fun d ed => ⟨((((hh.2 a ea).2 b eb).2 c' ec).2 d ed).1, fun f' ef => ⟨(((((hh.2 a ea).2 b eb).2 c' ec).2 d ed).2 f' ef).1, fun g eg s' es => hAB _ ((((((hh.2 a ea).2 b eb).2 c' ec).2 d ed).2 f' ef).2 g eg s' es)⟩⟩⟩⟩⟩⟩
          exact ⟨fun z => go 0 (h3.1 z), fun z => go 1 (h3.2 z)⟩
        refine mono2 _ _ _ _ _ _ _ _ (fun r s hh => ⟨hh.1, fun _ => ⟨hh.2.1, mono3 _ _ _ _ _ _ _ _ _ _ _ (fun s' hs' => ⟨fun _ => hs', fun z => absurd w32_0 z⟩) hh.2.2⟩, fun z => absurd w32_0 z⟩) f
      · have f := fin (-1) j x_3 ex3 (by unfold tJ; rw [if_pos q]) (by unfold hJ; rw [if_pos q])
        rw [ex3, q]
        refine ⟨fun z => absurd z (by decide), fun _ => ?_⟩
        rw [w1, rn] at f
        rw [w1, rn]
        have mono2 : ∀ (A B : Int → St → Prop) (p1 p2 p3 p4 p5 : Int) (s : St), (∀ r s, A r s → B r s) → wp_X9_run p1 p2 p3 p4 p5 A s → wp_X9_run p1 p2 p3 p4 p5 B s := by
          intro A B p1 p2 p3 p4 p5 s hAB
          unfold wp_X9_run wp_X9_key wp_X9_run_B38
          exact fun hh => ⟨fun z => ⟨(hh.1 z).1, (hh.1 z).2.1, hAB _ _ (hh.1 z).2.2⟩, fun z => ⟨(hh.2 z).1, (hh.2 z).2.1, hAB _ _ (hh.2 z).2.2⟩⟩
        have mono3 : ∀ (A B : St → Prop) (p1 p2 p3 p4 p5 p6 p7 p8 : Int) (s : St), (∀ s, A s → B s) → wp_X9_job p1 p2 p3 p4 p5 p6 p7 p8 A s → wp_X9_job p1 p2 p3 p4 p5 p6 p7 p8 B s := by
          intro A B p1 p2 p3 p4 p5 p6 p7 p8 s hAB
          unfold wp_X9_job wp_X9_job_B44
          intro hh x1 ex1
          have h1 := hh x1 ex1
          refine ⟨h1.1, fun s2 e2 => ?_⟩
          have h2 := h1.2 s2 e2
          refine ⟨h2.1, fun s3 e3 => ?_⟩
          have h3 := h2.2 s3 e3
          have go : ∀ o : Int, ((0 ≤ w32 (x1 + 2) ∧ w32 (x1 + 2) < 1400) ∧ ∀ σ1 : St, σ1 = su s3 27 (w32 (x1 + 2)).toNat o → (0 ≤ w32 (x1 + 3) ∧ w32 (x1 + 3) < 1400) ∧ ∀ σ2 : St, σ2 = su σ1 27 (w32 (x1 + 3)).toNat p4 → (0 ≤ w32 (x1 + 4) ∧ w32 (x1 + 4) < 1400) ∧ ∀ σ3 : St, σ3 = su σ2 27 (w32 (x1 + 4)).toNat p5 → (0 ≤ w32 (x1 + 5) ∧ w32 (x1 + 5) < 1400) ∧ ∀ σ4 : St, σ4 = su σ3 27 (w32 (x1 + 5)).toNat p6 → (0 ≤ w32 (x1 + 6) ∧ w32 (x1 + 6) < 1400) ∧ ∀ σ5 : St, σ5 = su σ4 27 (w32 (x1 + 6)).toNat p7 → (0 ≤ w32 (σ5 0 48) ∧ w32 (σ5 0 48) < 200) ∧ ∀ σ6 : St, σ6 = su σ5 28 (w32 (σ5 0 48)).toNat p8 → ∀ σ7 : St, σ7 = su σ6 0 48 ((σ6 0 48) + 1) → A σ7) → ((0 ≤ w32 (x1 + 2) ∧ w32 (x1 + 2) < 1400) ∧ ∀ σ1 : St, σ1 = su s3 27 (w32 (x1 + 2)).toNat o → (0 ≤ w32 (x1 + 3) ∧ w32 (x1 + 3) < 1400) ∧ ∀ σ2 : St, σ2 = su σ1 27 (w32 (x1 + 3)).toNat p4 → (0 ≤ w32 (x1 + 4) ∧ w32 (x1 + 4) < 1400) ∧ ∀ σ3 : St, σ3 = su σ2 27 (w32 (x1 + 4)).toNat p5 → (0 ≤ w32 (x1 + 5) ∧ w32 (x1 + 5) < 1400) ∧ ∀ σ4 : St, σ4 = su σ3 27 (w32 (x1 + 5)).toNat p6 → (0 ≤ w32 (x1 + 6) ∧ w32 (x1 + 6) < 1400) ∧ ∀ σ5 : St, σ5 = su σ4 27 (w32 (x1 + 6)).toNat p7 → (0 ≤ w32 (σ5 0 48) ∧ w32 (σ5 0 48) < 200) ∧ ∀ σ6 : St, σ6 = su σ5 28 (w32 (σ5 0 48)).toNat p8 → ∀ σ7 : St, σ7 = su σ6 0 48 ((σ6 0 48) + 1) → B σ7) := fun o hh => ⟨hh.1, fun a ea => ⟨(hh.2 a ea).1, fun b eb => ⟨((hh.2 a ea).2 b eb).1, fun c' ec => ⟨(((hh.2 a ea).2 b eb).2 c' ec).1, fun d ed => ⟨((((hh.2 a ea).2 b eb).2 c' ec).2 d ed).1, fun f' ef => ⟨(((((hh.2 a ea).2 b eb).2 c' ec).2 d ed).2 f' ef).1, fun g eg s' es => hAB _ ((((((hh.2 a ea).2 b eb).2 c' ec).2 d ed).2 f' ef).2 g eg s' es)⟩⟩⟩⟩⟩⟩
          exact ⟨fun z => go 0 (h3.1 z), fun z => go 1 (h3.2 z)⟩
        refine mono2 _ _ _ _ _ _ _ _ (fun r s hh => ⟨hh.1, fun z => absurd z (by decide), fun _ => ⟨hh.2.1, mono3 _ _ _ _ _ _ _ _ _ _ _ (fun s' hs' => ⟨fun z => absurd z (by decide), fun _ => hs'⟩) hh.2.2⟩⟩) f
    | succ m ih =>
      intro e' q1 q2 q3
      have z1 := mono e' q2 (by omega)
      have S0 := smp (e' - i)
      have cr : cap (spl c (VV c N sd) (12 * t + x) i j k l e') ≤ 1000000000 := by unfold cap; split <;> omega
      have cr0 := sp0 e'
      unfold wp_X9_layOn_L34
      refine splt e' _ q2 (by omega) ?_
      rw [lCmp_lt (by omega) (by omega)]
      refine ⟨fun z => by omega, fun _ => splt e' _ q2 (by omega) (fun x_6 ex6 x_7 ex7 => ?_)⟩
      have := ih (e' + 1) (by omega) (by omega) (by omega)
      rw [show e' + 1 - i = (e' - i) + 1 by omega, sm_1, show i + (e' - i) = e' by omega, show way - (sm (fun d => cap (spl c (VV c N sd) (12 * t + x) i j k l (i + d))) (e' - i) + cap (spl c (VV c N sd) (12 * t + x) i j k l e')) = way - sm (fun d => cap (spl c (VV c N sd) (12 * t + x) i j k l (i + d))) (e' - i) - cap (spl c (VV c N sd) (12 * t + x) i j k l e') by omega] at this
      rw [ex6, ex7, show (e' : Int) + 1 = ((e' + 1 : Nat) : Int) by omega]
      exact this
  unfold wp_X9_layOn
  rw [w1, rn, m11, h5, w32_id (by omega) (by omega)]
  refine ⟨by omega, fun _ => ?_, fun z => by omega⟩
  have := loop (e - i) i rfl (Nat.le_refl i) s1
  rw [Nat.sub_self, sm_z0, Int.sub_zero] at this
  rw [h3] at this ⊢
  exact ⟨_, this⟩
