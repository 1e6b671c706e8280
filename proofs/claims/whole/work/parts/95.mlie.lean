/-! pure: what the reference reckons for a cell -/
def MC (c : Nat → Nat → Int) (N : Nat) (sz : Nat → Nat) (hw wo : Nat → Prop) (τ : St) : Prop := τ 0 23 = (N : Int) ∧ (∀ t, t < N → τ 17 t = ((sz t : Nat) : Int)) ∧ ∀ t x, t < N → x < sz t → τ 6 (12 * t + x) = c (12 * t + x) 0 ∧ τ 7 (12 * t + x) = c (12 * t + x) 1 ∧ τ 10 (12 * t + x) = c (12 * t + x) 4 ∧ τ 11 (12 * t + x) = c (12 * t + x) 5 ∧ τ 13 (12 * t + x) = c (12 * t + x) 6 ∧ τ 15 (12 * t + x) = c (12 * t + x) 7 ∧ (c (12 * t + x) 0 = 0 → τ 12 (12 * t + x) = ((12 * t + x + 1 : Nat) : Int)) ∧ τ 14 (12 * t + x) = bI (hw (12 * t + x)) ∧ τ 16 (12 * t + x) = bI (wo (12 * t + x))
theorem cap_add2 {a b : Int} (ha : 0 ≤ a) (hb : 0 ≤ b) : cap (cap a + cap b) = cap (a + b) := by
  rw [cap_add ha (cap_r hb).1, Int.add_comm a (cap b), cap_add hb ha, Int.add_comm]
theorem mul_m {τ : St} (h : MB τ) (o r i j k l o' r' i' j' k' l') : 0 ≤ mT τ o r i j k l * mT τ o' r' i' j' k' l' ∧ mT τ o r i j k l * mT τ o' r' i' j' k' l' ≤ 1000000000000000000 := mul_b (MB_T h _ _ _ _ _ _) (MB_T h _ _ _ _ _ _)
theorem spl_p {τ : St} (h : MB τ) (c : Nat → Nat → Int) (r i : Nat) (j k : Int) (l e : Nat) : 0 ≤ spl c (mT τ) r i j k l e := by
  unfold spl
  repeat' split
  all_goals first | exact (mul_m h _ _ _ _ _ _ _ _ _ _ _ _).1 | exact Int.le_refl 0
theorem sp_split {τ : St} {Q : Int → St → Prop} {c : Nat → Nat → Int} {g : Int} {r i e l n xr : Nat} {j k a1 a2 a3 a6 : Int} (hS : NS τ) (hB : MB τ) (hn : n ≤ 8) (hr : r < 192) (h13 : τ 13 r = c r 6) (h01 : c r 6 = 0 ∨ c r 6 = 1) (h11 : τ 11 r = (xr : Int)) (hxr : xr < 192) (h5 : c r 5 = (xr : Int)) (h6 : c r 6 = 1 → j ≠ -1) (hv : Vs g i j k l n) (hie : i ≤ e) (hel : e ≤ l) (h1 : a1 = (r : Int)) (h2 : a2 = (i : Int)) (h3 : a3 = (e : Int)) (h6' : a6 = (l : Int))
    (h : Q (cap (spl c (mT τ) r i j k l e)) τ) : wp_X9_split a1 a2 a3 j k a6 Q τ := by
  obtain ⟨v1, v2, v3⟩ := hv
  have xn : (c r 5).toNat = xr := by omega
  have wj : w32 j = j := by rcases v3 with z | z; exact w32_id (by omega) (by omega); exact w32_id (by omega) (by omega)
  have wk : w32 k = k := by rcases v3 with z | z; exact w32_id (by omega) (by omega); exact w32_id (by omega) (by omega)
  have w1 : w32 a1 = (r : Int) := by rw [h1]; exact w32_id (by omega) (by omega)
  have w3 : w32 a3 = (e : Int) := by rw [h3]; exact w32_id (by omega) (by omega)
  have b1 : 0 ≤ (r : Int) ∧ (r : Int) < 204 := by omega
  have rn : ((r : Int)).toNat = r := by omega
  unfold wp_X9_split
  rw [w1, rn]
  refine ⟨b1, fun x_1 ex => ?_⟩
  rw [h13] at ex
  unfold spl at h
  rw [ex, wk, w3]
  unfold wp_X9_split_B19 wp_X9_split_B36 wp_X9_split_B38
  rw [wj, w3]
  rcases h01 with q | q
  · rw [if_neg (by omega)] at h
    rw [q]
    have body : (j = -1 ∨ (e : Int) ≤ j) → wp_X9_split_B52 a1 a3 j k a6 0 a1 a2 (-1) Q τ := by
      intro hj
      rw [if_pos hj, xn] at h
      unfold wp_X9_split_B52
      refine sp_lie (g := 0) (n := n) (r := r) (i := i) (l := e) (j := -1) (k := -1) hS ⟨hie, by omega, Or.inl ⟨rfl, rfl, rfl⟩⟩ hn hr h1 h2 h3 (fun z => absurd rfl z) ?_
      rw [w1, rn, h11]
      refine ⟨b1, fun _ => ?_, fun z => absurd w32_0 z⟩
      unfold wp_X9_split_B77
      refine sp_run (g := g) (n := n) (r := xr) (i := e) (l := l) (j := j) (k := k) hS ⟨hel, v2, ?_⟩ hn hxr rfl h3 h6' (fun _ => rfl) (sp_least ⟨(mul_m hB _ _ _ _ _ _ _ _ _ _ _ _).1, by have := (mul_m hB false r i (-1) (-1) e true xr e j k l).2; omega⟩ h)
      rcases v3 with z | z
      · exact Or.inl z
      · exact Or.inr ⟨z.1, by omega, z.2.2⟩
    refine ⟨fun _ => ⟨fun z => absurd w32_0 z, fun _ => ⟨fun z => ⟨fun _ => body (Or.inl z), fun z => absurd w32_0 z⟩, fun z => ⟨fun y => ⟨fun _ => body (Or.inr y), fun z => absurd w32_0 z⟩, fun y => ?_⟩⟩⟩, fun z => absurd w32_0 z⟩
    rw [if_neg (by omega), cap_0] at h
    exact h
  · rw [if_pos q] at h
    have hj := h6 q
    rw [q]
    refine ⟨fun z => absurd z (by decide), fun _ => ⟨fun z => ?_, fun z => ⟨fun _ => ⟨fun z => absurd z (by decide), fun _ => ?_⟩, fun z => absurd z (by decide)⟩⟩⟩
    · rw [if_neg (by omega), cap_0] at h
      exact h
    · rw [if_pos (by omega), xn] at h
      unfold wp_X9_split_B52
      refine sp_lie (g := g) (n := n) (r := r) (i := i) (l := e) (j := j) (k := k) hS ⟨hie, by omega, ?_⟩ hn hr h1 h2 h3 (fun _ => rfl) ?_
      · rcases v3 with z | z
        · exact absurd z.2.1 hj
        · exact Or.inr ⟨z.1, z.2.1, z.2.2.1, by omega⟩
      · rw [w1, rn, h11]
        refine ⟨b1, fun z => absurd z (by decide), fun _ => ?_⟩
        unfold wp_X9_split_B77
        exact sp_run (g := 0) (n := n) (r := xr) (i := e) (l := l) (j := -1) (k := -1) hS ⟨hel, v2, Or.inl ⟨rfl, rfl, rfl⟩⟩ hn hxr rfl h3 h6' (fun z => absurd rfl z) (sp_least ⟨(mul_m hB _ _ _ _ _ _ _ _ _ _ _ _).1, by have := (mul_m hB false r i j k e true xr e (-1) (-1) l).2; omega⟩ h)
theorem sp_mreckonRun {τ : St} {Q : Int → St → Prop} {c : Nat → Nat → Int} {g : Int} {r i l n : Nat} {j k a1 a2 a5 : Int} (hS : NS τ) (hB : MB τ) (hn : n ≤ 8) (hr : r < 192) (h13 : τ 13 r = c r 6) (h01 : c r 6 = 0 ∨ c r 6 = 1) (h11 : τ 11 r = c r 5) (h5 : c r 5 = -1 ∨ ∃ xr : Nat, xr < 192 ∧ c r 5 = (xr : Int)) (h6 : c r 6 = 1 → j ≠ -1) (hv : Vs g i j k l n) (h1 : a1 = (r : Int)) (h2 : a2 = (i : Int)) (h5' : a5 = (l : Int))
    (h : Q (rOn c (mT τ) r i j k l) τ) : wp_X9_reckonRun a1 a2 j k a5 Q τ := by
  have hv0 := hv
  obtain ⟨v1, v2, v3⟩ := hv
  have w1 : w32 a1 = (r : Int) := by rw [h1]; exact w32_id (by omega) (by omega)
  have b1 : 0 ≤ (r : Int) ∧ (r : Int) < 204 := by omega
  have rn : ((r : Int)).toNat = r := by omega
  unfold wp_X9_reckonRun
  rw [w1, rn, h11]
  unfold rOn at h
  refine ⟨b1, ?_⟩
  rcases h5 with q | ⟨xr, x1, x2⟩
  · rw [if_pos q] at h
    rw [q]
    exact ⟨fun z => absurd (by decide) z, fun _ => sp_lie hS hv0 hn hr h1 h2 h5' (fun _ => rfl) h⟩
  · rw [if_neg (by omega)] at h
    rw [x2, w32_id (by omega) (by omega)]
    refine ⟨fun _ => ⟨l + 1 - i + 1, ?_⟩, fun z => by omega⟩
    have S0 : ∀ m, 0 ≤ sm (fun d => spl c (mT τ) r i j k l (i + d)) m := fun m => sm_p _ (fun d _ => spl_p hB _ _ _ _ _ _ _)
    have loop : ∀ (m e : Nat), l + 1 - e = m → i ≤ e → e ≤ l + 1 → wp_X9_reckonRun_L28 Q (m + 1) a1 a2 j k a5 (cap (sm (fun d => spl c (mT τ) r i j k l (i + d)) (e - i))) (e : Int) τ := by
      intro m
      induction m with
      | zero =>
        intro e e1 e2 e3
        unfold wp_X9_reckonRun_L28
        rw [h5', w32_id (show -2147483648 ≤ (l : Int) by omega) (by omega), w32_id (show -2147483648 ≤ (e : Int) by omega) (by omega)]
        refine ⟨fun _ => ?_, fun z => by omega⟩
        rw [show e - i = l + 1 - i by omega]
        exact h
      | succ m ih =>
        intro e e1 e2 e3
        unfold wp_X9_reckonRun_L28
        rw [show w32 a5 = (l : Int) by rw [h5']; exact w32_id (by omega) (by omega), w32_id (show -2147483648 ≤ (e : Int) by omega) (by omega)]
        refine ⟨fun z => by omega, fun _ => ?_⟩
        refine sp_split (c := c) (e := e) hS hB hn hr h13 h01 (by rw [h11]; exact x2) x1 x2 h6 hv0 e2 (by omega) h1 h2 rfl h5' ?_
        have c1 := cap_r (S0 (e - i))
        have c2 := cap_r (spl_p hB c r i j k l e)
        refine sp_least (by omega) (fun x_5 ex => ?_)
        rw [ex, cap_add2 (S0 _) (spl_p hB _ _ _ _ _ _ _), show (e : Int) + 1 = ((e + 1 : Nat) : Int) by omega]
        have := ih (e + 1) (by omega) (by omega) (by omega)
        rw [show e + 1 - i = (e - i) + 1 by omega, sm_1, show i + (e - i) = e by omega] at this
        exact this
    have := loop (l + 1 - i) i rfl (Nat.le_refl i) (by omega)
    rw [Nat.sub_self, sm_z0, cap_0, ← h2] at this
    exact this
theorem sm_comm (f : Nat → Nat → Int) (n : Nat) : ∀ m, sm (fun a => sm (fun b => f a b) n) m = sm (fun b => sm (fun a => f a b) m) n := by
  intro m
  induction m with
  | zero => exact (sm_0 n (fun b _ => rfl)).symm
  | succ m ih =>
    rw [sm_1, ih]
    clear ih
    induction n with
    | zero => rfl
    | succ n ih2 => rw [sm_1, sm_1, sm_1, sm_1, ← ih2]; omega
theorem sm_mulr (f : Nat → Int) (b : Int) : ∀ n, sm f n * b = sm (fun d => f d * b) n := by
  intro n
  induction n with
  | zero => exact Int.zero_mul b
  | succ n ih => rw [sm_1, sm_1, Int.add_mul, ih]
/-- the trees outermost -/
def axT (c : Nat → Nat → Int) (T : Tb) (r i : Nat) (j k : Int) (l t : Nat) : Int := if c (12 * t) 1 = c r 1 ∧ c (12 * t) 6 = 1 then sm (fun dp => sm (fun dq => T false (12 * t) i ((i + dp : Nat) : Int) ((fstQ j k (i + dp) + dq : Nat) : Int) l * T true (r + 1) (i + dp) j k (fstQ j k (i + dp) + dq)) (l + 1 - fstQ j k (i + dp))) (lastP j l + 1 - i) else 0
theorem axs_t (c : Nat → Nat → Int) (N : Nat) (T : Tb) (r i : Nat) (j k : Int) (l : Nat) : axs c N T r i j k l = sm (axT c T r i j k l) N := by
  unfold axs aux
  have e1 : ∀ dp, sm (fun dq => sm (fun t => if c (12 * t) 1 = c r 1 ∧ c (12 * t) 6 = 1 then T false (12 * t) i ((i + dp : Nat) : Int) ((fstQ j k (i + dp) + dq : Nat) : Int) l else 0) N * T true (r + 1) (i + dp) j k (fstQ j k (i + dp) + dq)) (l + 1 - fstQ j k (i + dp)) = sm (fun t => sm (fun dq => (if c (12 * t) 1 = c r 1 ∧ c (12 * t) 6 = 1 then T false (12 * t) i ((i + dp : Nat) : Int) ((fstQ j k (i + dp) + dq : Nat) : Int) l else 0) * T true (r + 1) (i + dp) j k (fstQ j k (i + dp) + dq)) (l + 1 - fstQ j k (i + dp))) N := by
    intro dp
    rw [← sm_comm]
    exact sm_c _ (fun dq _ => sm_mulr _ _ N)
  rw [sm_c _ (fun dp _ => e1 dp), sm_comm]
  refine sm_c _ (fun t _ => ?_)
  unfold axT
  by_cases q : c (12 * t) 1 = c r 1 ∧ c (12 * t) 6 = 1
  · rw [if_pos q]
    exact sm_c _ (fun dp _ => sm_c _ (fun dq _ => by rw [if_pos q]))
  · rw [if_neg q]
    exact sm_0 _ (fun dp _ => sm_0 _ (fun dq _ => by rw [if_neg q, Int.zero_mul]))
theorem sp_isFor {c : Nat → Nat → Int} {τ : St} {Q : Int → St → Prop} {r t : Nat} {b a1 a2 : Int} (ht : t < 16) (hr : r < 192) (h7t : τ 7 (12 * t) = c (12 * t) 1) (h7r : τ 7 r = c r 1) (h13 : τ 13 (12 * t) = c (12 * t) 6) (h6 : c (12 * t) 6 = 0 ∨ c (12 * t) 6 = 1) (hb : b = 0 ∨ b = 1) (n1 : 0 ≤ c (12 * t) 1 ∧ c (12 * t) 1 < 32) (n2 : 0 ≤ c r 1 ∧ c r 1 < 32) (h1 : a1 = (t : Int)) (h2 : a2 = (r : Int)) (h : Q (if c (12 * t) 1 = c r 1 ∧ c (12 * t) 6 = b then 1 else 0) τ) : wp_X9_isFor a1 a2 b Q τ := by
  unfold wp_X9_isFor
  rw [h1, h2, w32_id (show -2147483648 ≤ (12 * (t : Int)) by omega) (by omega), w32_id (show -2147483648 ≤ (r : Int) by omega) (by omega), show (12 * (t : Int)).toNat = 12 * t by omega, show ((r : Int)).toNat = r by omega, h7t, h7r, h13, w32_id (show -2147483648 ≤ c (12 * t) 1 by omega) (by omega), w32_id (show -2147483648 ≤ c r 1 by omega) (by omega), w32_id (show -2147483648 ≤ c (12 * t) 6 by omega) (by omega), w32_id (show -2147483648 ≤ b by omega) (by omega)]
  refine ⟨by omega, by omega, fun q => ?_, fun q => ⟨by omega, fun q' => ?_, fun q' => ?_⟩⟩
  · rw [if_neg (fun z => q z.1)] at h; exact h
  · rw [if_neg (fun z => q' z.2)] at h; exact h
  · rw [if_pos ⟨q, q'⟩] at h; exact h
theorem sp_mset {τ : St} {Q : Int → St → Prop} {g : Int} {r t i p q l n : Nat} {j k a1 a2 a3 a4 a5 a6 : Int} (hS : NS τ) (hB : MB τ) (hn : n ≤ 8) (hr : r + 1 < 192) (ht : t < 16) (h12 : τ 12 r = ((r + 1 : Nat) : Int)) (hip : i ≤ p) (hpq : p ≤ q) (hql : q ≤ l) (hln : l ≤ n) (hv : Vs g p j k q n) (h1 : a1 = (r : Int)) (h2 : a2 = (t : Int)) (h3 : a3 = (i : Int)) (h4 : a4 = (p : Int)) (h5 : a5 = (q : Int)) (h6 : a6 = (l : Int))
    (h : Q (cap (mT τ false (12 * t) i (p : Int) (q : Int) l * mT τ true (r + 1) p j k q)) τ) : wp_X9_set a1 a2 a3 a4 a5 a6 j k Q τ := by
  unfold wp_X9_set
  rw [h4, h5]
  refine sp_lie (g := 1) (n := n) (r := 12 * t) (i := i) (l := l) (j := (p : Int)) (k := (q : Int)) hS ⟨by omega, hln, Or.inr ⟨rfl, by omega, by omega, by omega⟩⟩ hn (by omega) (by omega) h3 h6 (fun _ => rfl) ?_
  rw [h1, w32_id (show -2147483648 ≤ (r : Int) by omega) (by omega), show ((r : Int)).toNat = r by omega, h12]
  refine ⟨by omega, ?_⟩
  exact sp_run (g := g) (n := n) (r := r + 1) (i := p) (l := q) (j := j) (k := k) hS hv hn hr rfl rfl rfl (fun _ => rfl) (sp_least ⟨(mul_m hB _ _ _ _ _ _ _ _ _ _ _ _).1, by have := (mul_m hB false (12 * t) i (p : Int) (q : Int) l true (r + 1) p j k q).2; omega⟩ h)
