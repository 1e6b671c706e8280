/-! pure: what the class reckons for a cell -/
theorem sm_ext {f : Nat → Int} {a : Nat} : ∀ b, a ≤ b → (∀ d, a ≤ d → d < b → f d = 0) → sm f b = sm f a := by
  intro b
  induction b with
  | zero => intro h _; rw [show a = 0 by omega]
  | succ b ih =>
    intro h hz
    by_cases e : a = b + 1
    · rw [e]
    · show sm f b + f b = sm f a
      rw [ih (by omega) (fun d x y => hz d x (by omega)), hz b (by omega) (by omega), Int.add_zero]
def CB (σ : St) : Prop := ∀ k, (0 ≤ σ 19 k ∧ σ 19 k ≤ 1000000000) ∧ (0 ≤ σ 20 k ∧ σ 20 k ≤ 1000000000) ∧ (0 ≤ σ 21 k ∧ σ 21 k ≤ 1000000000) ∧ (0 ≤ σ 22 k ∧ σ 22 k ≤ 1000000000)
theorem CB_T {σ : St} (h : CB σ) (o r i j k l) : 0 ≤ cT σ o r i j k l ∧ cT σ o r i j k l ≤ 1000000000 := by
  unfold cT
  cases o with
  | true => exact (h _).2.1
  | false => exact (h _).1
theorem CB_A {σ : St} (h : CB σ) (nm i p q l) : 0 ≤ cA σ nm i p q l ∧ cA σ nm i p q l ≤ 1000000000 := (h _).2.2.2
theorem mul_b {a b : Int} (ha : 0 ≤ a ∧ a ≤ 1000000000) (hb : 0 ≤ b ∧ b ≤ 1000000000) : 0 ≤ a * b ∧ a * b ≤ 1000000000000000000 := by
  refine ⟨Int.mul_nonneg ha.1 hb.1, ?_⟩
  have h1 : a * b ≤ 1000000000 * b := Int.mul_le_mul_of_nonneg_right ha.2 hb.1
  omega
theorem sp_head1 {t x i e n : Nat} {j k a1 a2 a3 : Int} {Q : Int → St → Prop} {σ : St} (ht : t < 16) (hx : x < 12) (q : cc σ (12 * t + x) 6 = 1) (hv : Vt 1 i j k e n) (hn : n ≤ 8) (h1 : a1 = ((12 * t + x : Nat) : Int)) (h2 : a2 = (i : Int)) (h3 : a3 = (e : Int)) (h : Q (cT σ false (12 * t + x) i j k e) σ) : wp_X0_headWays a1 a2 a3 j k Q σ := by
  refine sp_headWays (t := t) (x := x) (i := i) (e := e) (n := n) ht hx (Or.inr q) ?_ hn h1 h2 h3 ?_
  · rw [if_pos q, if_pos q, q]; exact hv
  · rw [if_pos q, if_pos q]; exact h
theorem sp_head0 {t x i e n : Nat} {j k a1 a2 a3 : Int} {Q : Int → St → Prop} {σ : St} (ht : t < 16) (hx : x < 12) (q : cc σ (12 * t + x) 6 = 0) (hie : i ≤ e) (hen : e ≤ n) (hn : n ≤ 8) (h1 : a1 = ((12 * t + x : Nat) : Int)) (h2 : a2 = (i : Int)) (h3 : a3 = (e : Int)) (h : Q (cT σ false (12 * t + x) i (-1) (-1) e) σ) : wp_X0_headWays a1 a2 a3 j k Q σ := by
  have q0 : ¬ cc σ (12 * t + x) 6 = 1 := by omega
  refine sp_headWays (t := t) (x := x) (i := i) (e := e) (n := n) ht hx (Or.inl q) ?_ hn h1 h2 h3 ?_
  · rw [if_neg q0, if_neg q0]; exact ⟨hie, hen, Or.inl ⟨q, rfl, rfl⟩⟩
  · rw [if_neg q0, if_neg q0]; exact h
theorem sp_tail1 {t x e l n xr : Nat} {j k a1 a2 a3 : Int} {Q : Int → St → Prop} {σ : St} (ht : t < 16) (hx : x < 12) (q : cc σ (12 * t + x) 6 = 1) (h5 : cc σ (12 * t + x) 5 = (xr : Int)) (hxr : xr < 192) (hel : e ≤ l) (hln : l ≤ n) (hn : n ≤ 8) (h1 : a1 = ((12 * t + x : Nat) : Int)) (h2 : a2 = (e : Int)) (h3 : a3 = (l : Int)) (h : Q (cT σ true xr e (-1) (-1) l) σ) : wp_X0_tailWays a1 a2 a3 j k Q σ := by
  refine sp_tailWays (t := t) (x := x) (e := e) (l := l) (n := n) (xr := xr) (g := 0) ht hx (Or.inr q) h5 hxr ?_ hn h1 h2 h3 ?_
  · rw [if_pos q, if_pos q]; exact ⟨hel, hln, Or.inl ⟨rfl, rfl, rfl⟩⟩
  · rw [if_pos q, if_pos q]; exact h
theorem sp_tail0 {t x e l n xr : Nat} {g j k a1 a2 a3 : Int} {Q : Int → St → Prop} {σ : St} (ht : t < 16) (hx : x < 12) (q : cc σ (12 * t + x) 6 = 0) (h5 : cc σ (12 * t + x) 5 = (xr : Int)) (hxr : xr < 192) (hv : Vt g e j k l n) (hn : n ≤ 8) (h1 : a1 = ((12 * t + x : Nat) : Int)) (h2 : a2 = (e : Int)) (h3 : a3 = (l : Int)) (h : Q (cT σ true xr e j k l) σ) : wp_X0_tailWays a1 a2 a3 j k Q σ := by
  have q0 : ¬ cc σ (12 * t + x) 6 = 1 := by omega
  refine sp_tailWays (t := t) (x := x) (e := e) (l := l) (n := n) (xr := xr) (g := g) ht hx (Or.inl q) h5 hxr ?_ hn h1 h2 h3 ?_
  · rw [if_neg q0, if_neg q0]; exact hv
  · rw [if_neg q0, if_neg q0]; exact h
/-- where a part that has later ones may end, as the class has it -/
def fsp (c : Nat → Nat → Int) (r i : Nat) (k : Int) : Int := if c r 6 = 1 then k else (i : Int) + c r 9
def lsp (c : Nat → Nat → Int) (r : Nat) (j : Int) (l : Nat) : Int := if c r 6 = 1 ∨ j = -1 then (l : Int) - c (c r 5).toNat 10 else j
def splC (c : Nat → Nat → Int) (T : Tb) (r i : Nat) (j k : Int) (l e : Nat) : Int :=
  if fsp c r i k ≤ (e : Int) ∧ (e : Int) ≤ lsp c r j l then (if c r 6 = 1 then T false r i j k e * T true (c r 5).toNat e (-1) (-1) l else T false r i (-1) (-1) e * T true (c r 5).toNat e j k l) else 0
def rOnC (c : Nat → Nat → Int) (T : Tb) (r i : Nat) (j k : Int) (l : Nat) : Int := if c r 5 = -1 then T false r i j k l else cap (sm (fun d => splC c T r i j k l (i + d)) (l + 1 - i))
/-- of a run -/
theorem sp_reckonOnward {σ : St} {Q : Int → St → Prop} {t x i l n : Nat} {j k a1 a2 a3 : Int} (ht : t < 16) (hx : x < 12) (h01 : cc σ (12 * t + x) 6 = 0 ∨ cc σ (12 * t + x) 6 = 1) (h9 : 0 ≤ cc σ (12 * t + x) 9 ∧ cc σ (12 * t + x) 9 ≤ 5000) (h5 : cc σ (12 * t + x) 5 = -1 ∨ ∃ x' : Nat, x' < 12 ∧ cc σ (12 * t + x) 5 = ((12 * t + x' : Nat) : Int) ∧ 0 ≤ cc σ (12 * t + x') 10 ∧ cc σ (12 * t + x') 10 ≤ 5000) (h67 : cc σ (12 * t + x) 6 = 1 → cc σ (12 * t + x) 7 = 1) (hv : Vt (cc σ (12 * t + x) 7) i j k l n) (hn : n ≤ 8) (hB : CB σ) (h1 : a1 = ((12 * t + x : Nat) : Int)) (h2 : a2 = (i : Int)) (h3 : a3 = (l : Int))
    (h : Q (rOnC (cc σ) (cT σ) (12 * t + x) i j k l) σ) : wp_X0_reckonOnward a1 a2 a3 j k Q σ := by
  have hv0 := hv
  obtain ⟨v1, v2, v3⟩ := hv
  unfold wp_X0_reckonOnward
  refine sp_cell (t := t) (x := x) (w := 5) h1 rfl (by omega) hx (by omega) ?_
  have e5 : nd σ t x 5 = cc σ (12 * t + x) 5 := rfl
  rw [e5]
  unfold rOnC at h
  rcases h5 with q5 | ⟨x', x1, x2, x3, x4⟩
  · rw [if_pos q5] at h
    rw [q5]
    refine ⟨fun z => absurd (by decide) z, fun _ => ?_⟩
    exact sp_nodeWays hv0 hn (by omega) h1 h2 h3 h
  · rw [if_neg (by omega)] at h
    rw [x2, w32_id (by omega) (by omega)]
    refine ⟨fun _ => ?_, fun z => by omega⟩
    have xn : (cc σ (12 * t + x) 5).toNat = 12 * t + x' := by omega
    have e6 : nd σ t x 6 = cc σ (12 * t + x) 6 := rfl
    have lb : -5000 ≤ lsp (cc σ) (12 * t + x) j l ∧ lsp (cc σ) (12 * t + x) j l ≤ (l : Int) := by
      unfold lsp
      rw [xn]
      split
      · omega
      · rcases v3 with z | z <;> omega
    have fb : (i : Int) ≤ fsp (cc σ) (12 * t + x) i k ∧ fsp (cc σ) (12 * t + x) i k ≤ 6000 := by
      unfold fsp
      split
      · rename_i q
        have := h67 q
        rcases v3 with z | z <;> omega
      · omega
    -- the loop: e the place, lst the last one
    have loop : ∀ (m e : Nat), fsp (cc σ) (12 * t + x) i k ≤ (e : Int) → i ≤ e → (e : Int) ≤ lsp (cc σ) (12 * t + x) j l + 1 → (lsp (cc σ) (12 * t + x) j l + 1 - (e : Int)).toNat = m → wp_X0_reckonOnward_L48 Q (m + 1) a1 a2 a3 j k (cap (sm (fun d => splC (cc σ) (cT σ) (12 * t + x) i j k l (i + d)) (e - i))) (lsp (cc σ) (12 * t + x) j l) (e : Int) σ := by
      intro m
      induction m with
      | zero =>
        intro e he0 he1 he2 hm
        unfold wp_X0_reckonOnward_L48
        rw [w32_id (show -2147483648 ≤ lsp (cc σ) (12 * t + x) j l by omega) (by omega), w32_id (show -2147483648 ≤ (e : Int) by omega) (by omega)]
        refine ⟨fun _ => ?_, fun z => by omega⟩
        rw [← sm_ext (l + 1 - i) (by omega) (fun d a b => by unfold splC; rw [if_neg (by omega)])]
        exact h
      | succ m ih =>
        intro e he0 he1 he2 hm
        have S0 : 0 ≤ sm (fun d => splC (cc σ) (cT σ) (12 * t + x) i j k l (i + d)) (e - i) := sm_p _ (fun d _ => by
          unfold splC
          repeat' split
          all_goals first | exact (mul_b (CB_T hB _ _ _ _ _ _) (CB_T hB _ _ _ _ _ _)).1 | exact Int.le_refl 0)
        have cs := cap_r S0
        have el : (e : Int) ≤ lsp (cc σ) (12 * t + x) j l := by omega
        unfold wp_X0_reckonOnward_L48
        rw [w32_id (show -2147483648 ≤ lsp (cc σ) (12 * t + x) j l by omega) (by omega), w32_id (show -2147483648 ≤ (e : Int) by omega) (by omega)]
        refine ⟨fun z => by omega, fun _ => ?_⟩
        have nxt : ∀ v : Int, v = cap (sm (fun d => splC (cc σ) (cT σ) (12 * t + x) i j k l (i + d)) (e + 1 - i)) → wp_X0_reckonOnward_B102 (fun z0 z1 z2 z3 z4 z5 z6 z7 σ => wp_X0_reckonOnward_L48 Q (m + 1) z0 z1 z2 z3 z4 z5 z6 z7 σ) a1 a2 a3 j k v (lsp (cc σ) (12 * t + x) j l) (e : Int) Q σ := by
          intro v hv'
          unfold wp_X0_reckonOnward_B102
          intro x_1 ex
          rw [ex, hv', show (e : Int) + 1 = ((e + 1 : Nat) : Int) by omega]
          exact ih (e + 1) (by omega) (by omega) (by omega) (by omega)
        have es : sm (fun d => splC (cc σ) (cT σ) (12 * t + x) i j k l (i + d)) (e + 1 - i) = sm (fun d => splC (cc σ) (cT σ) (12 * t + x) i j k l (i + d)) (e - i) + splC (cc σ) (cT σ) (12 * t + x) i j k l e := by
          rw [show e + 1 - i = (e - i) + 1 by omega]
          show sm _ (e - i) + splC (cc σ) (cT σ) (12 * t + x) i j k l (i + (e - i)) = _
          rw [show i + (e - i) = e by omega]
        -- a head and a tail
        have step : ∀ (hd tl : Int), (0 ≤ hd ∧ hd ≤ 1000000000) → (0 ≤ tl ∧ tl ≤ 1000000000) → splC (cc σ) (cT σ) (12 * t + x) i j k l e = hd * tl → (∀ R : Int → St → Prop, R hd σ → wp_X0_headWays a1 a2 (e : Int) j k R σ) → (∀ R : Int → St → Prop, R tl σ → wp_X0_tailWays a1 (e : Int) a3 j k R σ) → wp_X0_headWays a1 a2 (e : Int) j k (fun r2 σ1 => ∀ x_3 : Int, x_3 = w32 r2 → (w32 (lCmp x_3 0) = 0 → wp_X0_reckonOnward_B102 (fun z0 z1 z2 z3 z4 z5 z6 z7 σ => wp_X0_reckonOnward_L48 Q (m + 1) z0 z1 z2 z3 z4 z5 z6 z7 σ) a1 a2 a3 j k (cap (sm (fun d => splC (cc σ) (cT σ) (12 * t + x) i j k l (i + d)) (e - i))) (lsp (cc σ) (12 * t + x) j l) (e : Int) Q σ1) ∧ (¬ w32 (lCmp x_3 0) = 0 → wp_X0_tailWays a1 (e : Int) a3 j k (fun r5 σ4 => wp_X0_cut ((w32 (cap (sm (fun d => splC (cc σ) (cT σ) (12 * t + x) i j k l (i + d)) (e - i)))) + (x_3 * (w32 r5))) (fun r7 σ6 => wp_X0_reckonOnward_B102 (fun z0 z1 z2 z3 z4 z5 z6 z7 σ => wp_X0_reckonOnward_L48 Q (m + 1) z0 z1 z2 z3 z4 z5 z6 z7 σ) a1 a2 a3 j k r7 (lsp (cc σ) (12 * t + x) j l) (e : Int) Q σ6) σ4) σ1)) σ := by
          intro hd tl b1 b2 hs H1 H2
          apply H1
          intro x_3 ex3
          rw [w32_id (by omega) (by omega)] at ex3
          rw [ex3, lCmp_0 (by omega)]
          refine ⟨fun z => nxt _ ?_, fun _ => H2 _ ?_⟩
          · rw [es, hs, z, Int.zero_mul, Int.add_zero]
          · have hm2 := mul_b b1 b2
            rw [w32_id (show -2147483648 ≤ cap (sm (fun d => splC (cc σ) (cT σ) (12 * t + x) i j k l (i + d)) (e - i)) by omega) (by omega), w32_id (show -2147483648 ≤ tl by omega) (by omega)]
            refine sp_cut (by omega) (nxt _ ?_)
            rw [es, hs, cap_add S0 hm2.1]
        have sv : splC (cc σ) (cT σ) (12 * t + x) i j k l e = (if cc σ (12 * t + x) 6 = 1 then cT σ false (12 * t + x) i j k e * cT σ true (12 * t + x') e (-1) (-1) l else cT σ false (12 * t + x) i (-1) (-1) e * cT σ true (12 * t + x') e j k l) := by
          unfold splC; rw [if_pos ⟨he0, el⟩, xn]
        by_cases w : cc σ (12 * t + x) 6 = 1
        · have fk : fsp (cc σ) (12 * t + x) i k = k := by unfold fsp; rw [if_pos w]
          rw [if_pos w] at sv
          rcases v3 with z | z
          · have := h67 w; omega
          · exact step (cT σ false (12 * t + x) i j k e) (cT σ true (12 * t + x') e (-1) (-1) l) (CB_T hB _ _ _ _ _ _) (CB_T hB _ _ _ _ _ _) sv (fun R hR => sp_head1 ht hx w ⟨he1, by omega, Or.inr ⟨rfl, z.2.1, z.2.2.1, by omega⟩⟩ hn h1 h2 rfl hR) (fun R hR => sp_tail1 ht hx w x2 (by omega) (by omega) v2 hn h1 rfl h3 hR)
        · have w0 : cc σ (12 * t + x) 6 = 0 := by omega
          rw [if_neg w] at sv
          refine step (cT σ false (12 * t + x) i (-1) (-1) e) (cT σ true (12 * t + x') e j k l) (CB_T hB _ _ _ _ _ _) (CB_T hB _ _ _ _ _ _) sv (fun R hR => sp_head0 ht hx w0 he1 (by omega) hn h1 h2 rfl hR) (fun R hR => sp_tail0 (g := cc σ (12 * t + x) 7) ht hx w0 x2 (by omega) ⟨by omega, v2, ?_⟩ hn h1 rfl h3 hR)
          rcases v3 with z | z
          · exact Or.inl z
          · have lj : lsp (cc σ) (12 * t + x) j l = j := by unfold lsp; rw [if_neg (by omega)]
            exact Or.inr ⟨z.1, by omega, z.2.2.1, z.2.2.2⟩
    have start : ∃ nn, wp_X0_reckonOnward_L48 Q nn a1 a2 a3 j k 0 (lsp (cc σ) (12 * t + x) j l) (fsp (cc σ) (12 * t + x) i k) σ := by
      by_cases q : fsp (cc σ) (12 * t + x) i k ≤ lsp (cc σ) (12 * t + x) j l + 1
      · have := loop _ (fsp (cc σ) (12 * t + x) i k).toNat (by omega) (by omega) (by omega) rfl
        rw [sm_0 _ (fun d hd => by unfold splC; rw [if_neg (by omega)]), cap_0, show (((fsp (cc σ) (12 * t + x) i k).toNat : Nat) : Int) = fsp (cc σ) (12 * t + x) i k by omega] at this
        exact ⟨_, this⟩
      · refine ⟨1, ?_⟩
        unfold wp_X0_reckonOnward_L48
        rw [w32_id (show -2147483648 ≤ lsp (cc σ) (12 * t + x) j l by omega) (by omega), w32_id (show -2147483648 ≤ fsp (cc σ) (12 * t + x) i k by omega) (by omega)]
        refine ⟨fun _ => ?_, fun z => by omega⟩
        rw [sm_0 _ (fun d hd => by unfold splC; rw [if_neg (by omega)]), cap_0] at h
        exact h
    unfold wp_X0_lastSplit wp_X0_lastSplit_B27
    refine sp_cell (t := t) (x := x) (w := 5) h1 rfl (by omega) hx (by omega) ?_
    rw [e5, x2]
    refine sp_hasFoot (t := t) (x := x) h1 (by omega) hx h01 ?_
    rw [e6]
    unfold wp_X0_firstSplit
    have e10 : nd σ t x' 10 = cc σ (12 * t + x') 10 := rfl
    have e9 : nd σ t x 9 = cc σ (12 * t + x) 9 := rfl
    rcases h01 with q | q
    · -- the foot is not here
      have q1 : ¬ cc σ (12 * t + x) 6 = 1 := by omega
      have first : ∀ lI : Int, lI = lsp (cc σ) (12 * t + x) j l → wp_X1_hasFoot a1 (fun r2 σ1 => (w32 r2 = 0 → wp_X1_cell a1 7 (fun r4 σ3 => (fun r6 σ5 => ∃ nn, wp_X0_reckonOnward_L48 Q nn a1 a2 a3 j k 0 lI r6 σ5) (a2 + r4) σ3) σ1) ∧ (¬ w32 r2 = 0 → (fun r6 σ5 => ∃ nn, wp_X0_reckonOnward_L48 Q nn a1 a2 a3 j k 0 lI r6 σ5) k σ1)) σ := by
        intro lI eI
        refine sp_hasFoot (t := t) (x := x) h1 (by omega) hx (by rw [e6]; exact Or.inl q) ?_
        rw [e6, q]
        refine ⟨fun _ => ?_, fun z => absurd w32_0 z⟩
        refine sp_cell (t := t) (x := x) (w := 9) h1 rfl (by omega) hx (by omega) ?_
        have ef : a2 + nd σ t x 9 = fsp (cc σ) (12 * t + x) i k := by unfold fsp; rw [if_neg q1, e9, h2]
        show ∃ nn, wp_X0_reckonOnward_L48 Q nn a1 a2 a3 j k 0 lI (a2 + nd σ t x 9) σ
        rw [ef, eI]
        exact start
      rw [q]
      refine ⟨fun z => absurd w32_0 z, fun _ => ?_⟩
      rcases v3 with z | z
      · have el : (l : Int) - cc σ (12 * t + x') 10 = lsp (cc σ) (12 * t + x) j l := by unfold lsp; rw [if_pos (Or.inr z.2.1), xn]
        refine ⟨fun y => absurd (by rw [z.2.1]; decide) y, fun _ => ?_⟩
        refine sp_cell (t := t) (x := x') (w := 10) rfl rfl (by omega) x1 (by omega) ?_
        exact first _ (by rw [e10, h3]; exact el)
      · have el : j = lsp (cc σ) (12 * t + x) j l := by unfold lsp; rw [if_neg (by omega)]
        rw [w32_id (show -2147483648 ≤ j by omega) (by omega)]
        exact ⟨fun _ => first _ el, fun y => by omega⟩
    · rw [q]
      refine ⟨fun _ => ?_, fun z => absurd z (by decide)⟩
      have el : (l : Int) - cc σ (12 * t + x') 10 = lsp (cc σ) (12 * t + x) j l := by unfold lsp; rw [if_pos (Or.inl q), xn]
      have ef : k = fsp (cc σ) (12 * t + x) i k := by unfold fsp; rw [if_pos q]
      refine sp_cell (t := t) (x := x') (w := 10) rfl rfl (by omega) x1 (by omega) ?_
      refine sp_hasFoot (t := t) (x := x) h1 (by omega) hx (by rw [e6]; exact Or.inr q) ?_
      rw [e6, q]
      refine ⟨fun z => absurd z (by decide), fun _ => ?_⟩
      show ∃ nn, wp_X0_reckonOnward_L48 Q nn a1 a2 a3 j k 0 (a3 - nd σ t x' 10) k σ
      rw [e10, h3, el]
      rw [h3, ← ef] at start
      exact start
