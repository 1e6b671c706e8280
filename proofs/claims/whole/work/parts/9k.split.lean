/-! pure: the class lays the parts of a node -/
theorem bm32 (z : Int) : z.bmod (2 ^ 32) = w32 z := by
  have := Int32.toInt_ofInt (n := z)
  rw [w32_toInt] at this
  exact this.symm
theorem bm64 (z : Int) : z.bmod (2 ^ 64) = w64 z := by
  have := Int64.toInt_ofInt (n := z)
  rw [w64_toInt] at this
  exact this.symm
theorem div_b {x y : Int} (hx : 0 ≤ x) (hy : 0 < y) : 0 ≤ x / y ∧ x / y ≤ x ∧ x / y * y + x % y = x ∧ 0 ≤ x % y ∧ x % y < y ∧ 0 ≤ x / y * y := by
  have h1 := Int.ediv_nonneg hx (Int.le_of_lt hy)
  have h2 := Int.ediv_le_self y hx
  have h3 := Int.emod_nonneg x (show y ≠ 0 by omega)
  have h4 := Int.emod_lt_of_pos x hy
  have h5 : x / y * y + x % y = x := by rw [Int.mul_comm]; exact Int.mul_ediv_add_emod x y
  exact ⟨h1, h2, h5, h3, h4, Int.mul_nonneg h1 (Int.le_of_lt hy)⟩
theorem iDiv_n {x y : Int} (hx : 0 ≤ x ∧ x < 2147483648) (hy : 0 < y ∧ y < 2147483648) : iDiv x y = x / y ∧ iRem x y = x % y := by
  obtain ⟨d1, d2, d3, d4, d5, d6⟩ := div_b hx.1 hy.1
  have e1 : (Int32.ofInt x / Int32.ofInt y).toInt = x / y := by
    rw [Int32.toInt_div, w32_toInt, w32_toInt, w32_id (by omega) hx.2, w32_id (by omega) hy.2, Int.tdiv_eq_ediv_of_nonneg hx.1, bm32, w32_id (by omega) (by omega)]
  refine ⟨e1, ?_⟩
  unfold iRem
  rw [Int32.toInt_sub, Int32.toInt_mul, e1, w32_toInt, w32_toInt, w32_id (show -2147483648 ≤ x by omega) hx.2, w32_id (show -2147483648 ≤ y by omega) hy.2, bm32, bm32, w32_id (show -2147483648 ≤ x / y * y by omega) (by omega), w32_id (by omega) (by omega)]
  omega
theorem lDiv_n {x y : Int} (hx : 0 ≤ x ∧ x < 9223372036854775808) (hy : 0 < y ∧ y < 9223372036854775808) : lDiv x y = x / y ∧ lRem x y = x % y := by
  obtain ⟨d1, d2, d3, d4, d5, d6⟩ := div_b hx.1 hy.1
  have e1 : (Int64.ofInt x / Int64.ofInt y).toInt = x / y := by
    rw [Int64.toInt_div, w64_toInt, w64_toInt, w64_id (by omega) hx.2, w64_id (by omega) hy.2, Int.tdiv_eq_ediv_of_nonneg hx.1, bm64, w64_id (by omega) (by omega)]
  refine ⟨e1, ?_⟩
  unfold lRem
  rw [Int64.toInt_sub, Int64.toInt_mul, e1, w64_toInt, w64_toInt, w64_id (show -9223372036854775808 ≤ x by omega) hx.2, w64_id (show -9223372036854775808 ≤ y by omega) hy.2, bm64, bm64, w64_id (show -9223372036854775808 ≤ x / y * y by omega) (by omega), w64_id (by omega) (by omega)]
  omega
theorem cap_le (x : Int) : cap x ≤ x := by unfold cap; split <;> omega
def hJ (c : Nat → Nat → Int) (r : Nat) (j : Int) : Int := if c r 6 = 1 then j else -1
def tJ (c : Nat → Nat → Int) (r : Nat) (j : Int) : Int := if c r 6 = 1 then -1 else j
def hdV (c : Nat → Nat → Int) (V : Tb) (r i : Nat) (j k : Int) (e : Nat) : Int := V false r i (hJ c r j) (hJ c r k) e
def tlV (c : Nat → Nat → Int) (V : Tb) (r : Nat) (j k : Int) (l e : Nat) : Int := V true (c r 5).toNat e (tJ c r j) (tJ c r k) l
def gd (c : Nat → Nat → Int) (r : Nat) (j k : Int) (e : Nat) : Prop := (c r 6 = 1 ∧ k ≤ (e : Int)) ∨ (c r 6 ≠ 1 ∧ (j = -1 ∨ (e : Int) ≤ j))
theorem spl_g {c : Nat → Nat → Int} {V : Tb} {r i : Nat} {j k : Int} {l e : Nat} : (gd c r j k e → spl c V r i j k l e = hdV c V r i j k e * tlV c V r j k l e) ∧ (¬ gd c r j k e → spl c V r i j k l e = 0) := by
  unfold gd spl hdV tlV hJ tJ
  by_cases q : c r 6 = 1
  · rw [if_pos q, if_pos q, if_pos q, if_pos q, if_pos q]
    refine ⟨fun z => ?_, fun z => ?_⟩
    · rw [if_pos (by omega)]
    · rw [if_neg (by omega)]
  · rw [if_neg q, if_neg q, if_neg q, if_neg q, if_neg q]
    refine ⟨fun z => ?_, fun z => ?_⟩
    · rw [if_pos (by omega)]
    · rw [if_neg (by omega)]
def SpO (c : Nat → Nat → Int) (V : Tb) (r i : Nat) (j k : Int) (l : Nat) (way : Int) (e : Nat) (left : Int) : Prop := i ≤ e ∧ e ≤ l ∧ 0 ≤ left ∧ left < cap (spl c V r i j k l e) ∧ way = sm (fun d => cap (spl c V r i j k l (i + d))) (e - i) + left
/-- a run: valid, with a way of it -/
def RV (c : Nat → Nat → Int) (V : Tb) (n r i : Nat) (j k : Int) (l : Nat) (way : Int) : Prop := Vt (c r 7) i j k l n ∧ 0 ≤ way ∧ way < V true r i j k l
def LV (c : Nat → Nat → Int) (V : Tb) (n r i : Nat) (j k : Int) (l : Nat) (way : Int) : Prop := Vt (c r 6) i j k l n ∧ 0 ≤ way ∧ way < V false r i j k l
theorem gd_vs {c : Nat → Nat → Int} {N : Nat} {sz : Nat → Nat} {hw wo : Nat → Prop} {t x xn i l e n : Nat} {j k : Int} (hF : CF c N sz hw wo) (ht : t < N) (hx : x < sz t) (hn : xn < sz t) (h5 : c (12 * t + x) 5 = ((12 * t + xn : Nat) : Int)) (hv : Vs (c (12 * t + x) 7) i j k l n) (hie : i ≤ e) (hel : e ≤ l) (hg : gd c (12 * t + x) j k e) : Vs (c (12 * t + x) 6) i (hJ c (12 * t + x) j) (hJ c (12 * t + x) k) e n ∧ Vs (c (12 * t + xn) 7) e (tJ c (12 * t + x) j) (tJ c (12 * t + x) k) l n := by
  obtain ⟨g1, g2, g3, g4, g5, g6, g7, g8, g9, g10, g11⟩ := hF.1 t x ht hx
  have g3' := (hF.1 t xn ht hn).2.2.1
  have en : (c (12 * t + x) 5).toNat = 12 * t + xn := by clear g5; rw [h5]; omega
  rw [en] at g7 g8
  clear g1 g4 g5 g6 g9 g10 g11
  obtain ⟨v1, v2, v3⟩ := hv
  unfold hJ tJ
  unfold gd at hg
  by_cases q : c (12 * t + x) 6 = 1
  · rw [if_pos q, if_pos q, if_pos q, if_pos q]
    have h7 := g7.mpr (Or.inl q)
    have h0 := g8 q (by omega)
    rcases v3 with z | z
    · omega
    · exact ⟨⟨hie, by omega, Or.inr ⟨q, z.2.1, z.2.2.1, by omega⟩⟩, ⟨hel, v2, Or.inl ⟨h0, rfl, rfl⟩⟩⟩
  · rw [if_neg q, if_neg q, if_neg q, if_neg q]
    have q0 : c (12 * t + x) 6 = 0 := by omega
    refine ⟨⟨hie, by omega, Or.inl ⟨q0, rfl, rfl⟩⟩, ⟨hel, v2, ?_⟩⟩
    rcases v3 with z | z
    · left; refine ⟨?_, z.2⟩
      rcases g3' with w | w
      · exact w
      · have := g7.mpr (Or.inr ⟨by omega, w⟩); omega
    · right
      rcases g7.mp z.1 with w | w
      · exact absurd w q
      · exact ⟨w.2, by omega, z.2.2⟩
theorem gd_vt {c : Nat → Nat → Int} {N : Nat} {sz : Nat → Nat} {hw wo : Nat → Prop} {t x xn i l e n : Nat} {j k : Int} (hF : CF c N sz hw wo) (ht : t < N) (hx : x < sz t) (hn : xn < sz t) (h5 : c (12 * t + x) 5 = ((12 * t + xn : Nat) : Int)) (hv : Vt (c (12 * t + x) 7) i j k l n) (hie : i ≤ e) (hel : e ≤ l) (hg : gd c (12 * t + x) j k e) : Vt (c (12 * t + x) 6) i (hJ c (12 * t + x) j) (hJ c (12 * t + x) k) e n ∧ Vt (c (12 * t + xn) 7) e (tJ c (12 * t + x) j) (tJ c (12 * t + x) k) l n := by
  obtain ⟨g1, g2, g3, g4, g5, g6, g7, g8, g9, g10, g11⟩ := hF.1 t x ht hx
  have g3' := (hF.1 t xn ht hn).2.2.1
  have en : (c (12 * t + x) 5).toNat = 12 * t + xn := by clear g5; rw [h5]; omega
  rw [en] at g7 g8
  clear g1 g4 g5 g6 g9 g10 g11
  obtain ⟨v1, v2, v3⟩ := hv
  unfold hJ tJ
  unfold gd at hg
  by_cases q : c (12 * t + x) 6 = 1
  · rw [if_pos q, if_pos q, if_pos q, if_pos q]
    have h7 := g7.mpr (Or.inl q)
    have h0 := g8 q (by omega)
    rcases v3 with z | z
    · omega
    · exact ⟨⟨hie, by omega, Or.inr ⟨q, z.2.1, z.2.2.1, by omega⟩⟩, ⟨hel, v2, Or.inl ⟨h0, rfl, rfl⟩⟩⟩
  · rw [if_neg q, if_neg q, if_neg q, if_neg q]
    have q0 : c (12 * t + x) 6 = 0 := by omega
    refine ⟨⟨hie, by omega, Or.inl ⟨q0, rfl, rfl⟩⟩, ⟨hel, v2, ?_⟩⟩
    rcases v3 with z | z
    · left; refine ⟨?_, z.2⟩
      rcases g3' with w | w
      · exact w
      · have := g7.mpr (Or.inr ⟨by omega, w⟩); omega
    · right
      rcases g7.mp z.1 with w | w
      · exact absurd w q
      · exact ⟨w.2, by omega, z.2.2⟩
/-- outside of where the class looks there is no split; inside there is one -/
theorem spl_z {c : Nat → Nat → Int} {N : Nat} {sz : Nat → Nat} {hw wo : Nat → Prop} {t x xn i l e n : Nat} {j k : Int} (sd : Nat → Int) (hF : CF c N sz hw wo) (hL : CL c N sz hw wo) (ht : t < N) (hx : x < sz t) (hn : xn < sz t) (h5 : c (12 * t + x) 5 = ((12 * t + xn : Nat) : Int)) (hv : Vt (c (12 * t + x) 7) i j k l n) (hie : i ≤ e) (hel : e ≤ l) : ((fsp c (12 * t + x) i k ≤ (e : Int) ∧ (e : Int) ≤ lsp c (12 * t + x) j l) → gd c (12 * t + x) j k e) ∧ (¬ (fsp c (12 * t + x) i k ≤ (e : Int) ∧ (e : Int) ≤ lsp c (12 * t + x) j l) → spl c (VV c N sd) (12 * t + x) i j k l e = 0) := by
  have en : (c (12 * t + x) 5).toNat = 12 * t + xn := by rw [h5]; omega
  have g2 := (hF.1 t x ht hx).2.1
  have v3 := hv.2.2
  have l9 := (hL t x ht hx).1
  refine ⟨fun z => ?_, fun z => ?_⟩
  · unfold fsp lsp at z
    unfold gd
    by_cases q : c (12 * t + x) 6 = 1
    · rw [if_pos q, if_pos (Or.inl q)] at z
      exact Or.inl ⟨q, z.1⟩
    · rw [if_neg q] at z
      by_cases qj : j = -1
      · exact Or.inr ⟨q, Or.inl qj⟩
      · rw [if_neg (show ¬ (c (12 * t + x) 6 = 1 ∨ j = -1) from fun w => w.elim q qj)] at z
        exact Or.inr ⟨q, Or.inr z.2⟩
  · refine Classical.byContradiction (fun nz => ?_)
    have g : gd c (12 * t + x) j k e := Classical.byContradiction (fun w => nz (spl_g.2 w))
    obtain ⟨w1, w2⟩ := gd_vt hF ht hx hn h5 hv hie hel g
    have es := (spl_g (V := VV c N sd) (i := i) (l := l)).1 g
    -- neither factor is nothing
    have hh : ¬ ((e : Int) - i - (hJ c (12 * t + x) k - hJ c (12 * t + x) j) < c (12 * t + x) 9) := fun w => by
      have : hdV c (VV c N sd) (12 * t + x) i j k e = 0 := VV_l (o := false) sd hF hL ht hx w1.vs w
      rw [es, this, Int.zero_mul] at nz
      exact nz rfl
    have ht' : ¬ ((l : Int) - e - (tJ c (12 * t + x) k - tJ c (12 * t + x) j) < c (12 * t + xn) 10) := fun w => by
      have : tlV c (VV c N sd) (12 * t + x) j k l e = 0 := by unfold tlV; rw [en]; exact VV_l (o := true) sd hF hL ht hn w2.vs w
      rw [es, this, Int.mul_zero] at nz
      exact nz rfl
    refine z ?_
    unfold hJ at hh
    unfold tJ at ht'
    unfold fsp lsp
    rw [en]
    unfold gd at g
    by_cases q : c (12 * t + x) 6 = 1
    · rw [if_pos q, if_pos q] at hh ht'
      rw [if_pos q, if_pos (Or.inl q)]
      omega
    · rw [if_neg q, if_neg q] at hh ht'
      rw [if_neg q]
      by_cases qj : j = -1
      · rw [if_pos (Or.inr qj)]
        omega
      · rw [if_neg (show ¬ (c (12 * t + x) 6 = 1 ∨ j = -1) from fun w => w.elim q qj)]
        omega
/-- what a split gives -/
theorem SpO_k {c : Nat → Nat → Int} {N : Nat} {sz : Nat → Nat} {sd : Nat → Int} {hw wo : Nat → Prop} {t x xn i l e n : Nat} {j k way left : Int} (hF : CF c N sz hw wo) (ht : t < N) (hx : x < sz t) (hn : xn < sz t) (h5 : c (12 * t + x) 5 = ((12 * t + xn : Nat) : Int)) (hv : Vt (c (12 * t + x) 7) i j k l n) (hs : SpO c (VV c N sd) (12 * t + x) i j k l way e left) : gd c (12 * t + x) j k e ∧ 0 < tlV c (VV c N sd) (12 * t + x) j k l e ∧ tlV c (VV c N sd) (12 * t + x) j k l e = VV c N sd true (12 * t + xn) e (tJ c (12 * t + x) j) (tJ c (12 * t + x) k) l ∧ LV c (VV c N sd) n (12 * t + x) i (hJ c (12 * t + x) j) (hJ c (12 * t + x) k) e (left / tlV c (VV c N sd) (12 * t + x) j k l e) ∧ RV c (VV c N sd) n (12 * t + xn) e (tJ c (12 * t + x) j) (tJ c (12 * t + x) k) l (left % tlV c (VV c N sd) (12 * t + x) j k l e) := by
  obtain ⟨s1, s2, s3, s4, s5⟩ := hs
  have en : (c (12 * t + x) 5).toNat = 12 * t + xn := by rw [h5]; omega
  have g : gd c (12 * t + x) j k e := by
    refine Classical.byContradiction (fun q => ?_)
    rw [spl_g.2 q, cap_0] at s4
    omega
  obtain ⟨w1, w2⟩ := gd_vt hF ht hx hn h5 hv s1 s2 g
  have et : tlV c (VV c N sd) (12 * t + x) j k l e = VV c N sd true (12 * t + xn) e (tJ c (12 * t + x) j) (tJ c (12 * t + x) k) l := by unfold tlV; rw [en]
  have h0 : 0 ≤ hdV c (VV c N sd) (12 * t + x) i j k e := (VV_r _ _ _ _ _ _ _ _ _).1
  have t0 : 0 ≤ tlV c (VV c N sd) (12 * t + x) j k l e := (VV_r _ _ _ _ _ _ _ _ _).1
  rw [spl_g.1 g] at s4
  have s4' : left < hdV c (VV c N sd) (12 * t + x) i j k e * tlV c (VV c N sd) (12 * t + x) j k l e := by
    unfold cap at s4
    split at s4 <;> omega
  have tp : 0 < tlV c (VV c N sd) (12 * t + x) j k l e := by
    by_cases z : tlV c (VV c N sd) (12 * t + x) j k l e = 0
    · rw [z, Int.mul_zero] at s4'; omega
    · omega
  obtain ⟨d1, d2, d3, d4, d5, d6⟩ := div_b s3 tp
  refine ⟨g, tp, et, ⟨w1, d1, ?_⟩, ⟨w2, d4, by rw [← et]; exact d5⟩⟩
  show _ < hdV c (VV c N sd) (12 * t + x) i j k e
  exact Int.ediv_lt_of_lt_mul tp s4'
theorem rOn_s {c : Nat → Nat → Int} {N : Nat} {sd : Nat → Int} {r i l : Nat} {j k way : Int} (h5 : c r 5 ≠ -1) (h : way < rOn c (VV c N sd) r i j k l) : way < sm (fun d => cap (spl c (VV c N sd) r i j k l (i + d))) (l + 1 - i) := by
  unfold rOn at h
  rw [if_neg h5] at h
  have sp : ∀ e, 0 ≤ spl c (VV c N sd) r i j k l e := fun e => by
    unfold spl
    repeat' split
    all_goals first | exact Int.mul_nonneg (VV_r _ _ _ _ _ _ _ _ _).1 (VV_r _ _ _ _ _ _ _ _ _).1 | exact Int.le_refl 0
  have ce : CE (sm (fun d => cap (spl c (VV c N sd) r i j k l (i + d))) (l + 1 - i)) (sm (fun d => spl c (VV c N sd) r i j k l (i + d)) (l + 1 - i)) := CE_sm _ (fun d _ => by
    have := CE_mul (b := 1) (sp (i + d)) (by omega)
    rw [Int.mul_one, Int.mul_one] at this
    exact this)
  rw [← CE_cap ce] at h
  have := cap_le (sm (fun d => cap (spl c (VV c N sd) r i j k l (i + d))) (l + 1 - i))
  omega
theorem sp_splitOff {c : Nat → Nat → Int} {N : Nat} {sz : Nat → Nat} {sd : Nat → Int} {n : Nat} {hw wo : Nat → Prop} {σ : St} {Q : Int → St → Prop} {u t x xn i l : Nat} {j k way a1 a2 a3 : Int} (hC : CC c N sz sd n hw wo σ) (hu : u < 8) (ht : t < N) (hx : x < sz t) (hxn : x < xn) (hn : xn < sz t) (h5 : c (12 * t + x) 5 = ((12 * t + xn : Nat) : Int)) (h1 : a1 = (u : Int)) (h2 : a2 = (x : Int)) (h3 : a3 = ((12 * t + x : Nat) : Int)) (hc : Cl σ u x i j k l way) (hr : RV c (VV c N sd) n (12 * t + x) i j k l way)
    (h : ∀ e left σ', SpO c (VV c N sd) (12 * t + x) i j k l way e left → Cl σ' u x i (hJ c (12 * t + x) j) (hJ c (12 * t + x) k) e (left / tlV c (VV c N sd) (12 * t + x) j k l e) → Cl σ' u xn e (tJ c (12 * t + x) j) (tJ c (12 * t + x) k) l (left % tlV c (VV c N sd) (12 * t + x) j k l e) → (∀ o k, ¬ (o = 25 ∧ (k = nJ u x 1 ∨ k = nJ u x 3 ∨ k = nJ u x 4 ∨ k = nJ u x 5 ∨ k = nJ u x 6)) → ¬ (o = 25 ∧ (k = nJ u xn 1 ∨ k = nJ u xn 3 ∨ k = nJ u xn 4 ∨ k = nJ u xn 5 ∨ k = nJ u xn 6)) → σ' o k = σ o k) → Q (xn : Int) σ') : wp_X6_splitOff a1 a2 a3 Q σ := by
  obtain ⟨c1, c2, c3, c4, c5, c6, c7, c8⟩ := hC
  obtain ⟨g1, g2, g3, g4, g5, g6, g7, g8, g9, g10, g11⟩ := c6.1 t x ht hx
  clear g1 g3 g4 g5 g6 g8 g9 g10 g11
  have s12 := (c6.2 t ht).2.1
  obtain ⟨b3, b4, b5, b6, b1⟩ := hc
  obtain ⟨v, hw0, hwl⟩ := hr
  have hv := v
  have hCL := c8.2
  obtain ⟨v1, v2, v3⟩ := v
  have e5 : nd σ t x 5 = ((12 * t + xn : Nat) : Int) := by rw [c5 t x 5 ht hx (by omega)]; exact h5
  have e6 : nd σ t x 6 = c (12 * t + x) 6 := c5 t x 6 ht hx (by omega)
  have ec5 : cc σ (12 * t + x) 5 = ((12 * t + xn : Nat) : Int) := e5
  have ec6 : cc σ (12 * t + x) 6 = c (12 * t + x) 6 := e6
  have wV : way < 1000000001 := by have := (VV_r c N sd true (12 * t + x) i j k l).2; omega
  have eqv := VV_eq (n := n) sd c6 c1 (o := true) ht hx hv.vs
  have eqr : VV c N sd true (12 * t + x) i j k l = rOn c (VV c N sd) (12 * t + x) i j k l := by rw [eqv]; unfold rhs; rw [if_pos rfl]
  rw [eqr] at hwl
  have wsum := rOn_s (by rw [h5]; omega) hwl
  have sp0 : ∀ e, 0 ≤ cap (spl c (VV c N sd) (12 * t + x) i j k l e) := fun e => by
    refine (cap_r ?_).1
    unfold spl
    repeat' split
    all_goals first | exact Int.mul_nonneg (VV_r _ _ _ _ _ _ _ _ _).1 (VV_r _ _ _ _ _ _ _ _ _).1 | exact Int.le_refl 0
  have z24 : 12 * t + x < 192 := by omega
  have z24n : 12 * t + xn < 192 := by omega
  have z12 : x < 12 := by omega
  have z12n : xn < 12 := by omega
  have z16 : t < 16 := by omega
  have z16' : t ≤ 16 := by omega
  have h67 : c (12 * t + x) 6 = 1 → j ≠ -1 := fun q => by
    have := g7.mpr (Or.inl q)
    rcases v3 with z | z <;> omega
  clear g7
  -- the loop
  have loop : ∀ (fst lst : Nat), (∀ e, i ≤ e → e ≤ l → (fst ≤ e ∧ e ≤ lst → gd c (12 * t + x) j k e) ∧ (¬ (fst ≤ e ∧ e ≤ lst) → spl c (VV c N sd) (12 * t + x) i j k l e = 0)) → i ≤ fst → lst ≤ l → ∀ (m e : Nat), lst + 1 - e = m → fst ≤ e → e ≤ lst + 1 → sm (fun d => cap (spl c (VV c N sd) (12 * t + x) i j k l (i + d))) (e - i) ≤ way → wp_X6_splitOff_L99 Q (m + 1) a1 a2 a3 (i : Int) (l : Int) j k (way - sm (fun d => cap (spl c (VV c N sd) (12 * t + x) i j k l (i + d))) (e - i)) (xn : Int) (c (12 * t + x) 6) (lst : Int) (e : Int) σ := by
    intro fst lst hg hf hl m
    induction m with
    | zero =>
      intro e e1 e2 e3 e4
      exfalso
      have : sm (fun d => cap (spl c (VV c N sd) (12 * t + x) i j k l (i + d))) (l + 1 - i) = sm (fun d => cap (spl c (VV c N sd) (12 * t + x) i j k l (i + d))) (e - i) := sm_ext (l + 1 - i) (by omega) (fun d a b => by
        have ng := (hg (i + d) (by omega) (by omega)).2 (by omega)
        show cap (spl c (VV c N sd) (12 * t + x) i j k l (i + d)) = 0
        rw [ng, cap_0])
      omega
    | succ m ih =>
      intro e e1 e2 e3 e4
      have hge : gd c (12 * t + x) j k e := (hg e (by omega) (by omega)).1 ⟨e2, by omega⟩
      obtain ⟨w1, w2⟩ := gd_vt c6 ht hx hn h5 hv (show i ≤ e by omega) (show e ≤ l by omega) hge
      have S0 := sm_p (f := fun d => cap (spl c (VV c N sd) (12 * t + x) i j k l (i + d))) (e - i) (fun d _ => sp0 _)
      have nxt : sm (fun d => cap (spl c (VV c N sd) (12 * t + x) i j k l (i + d))) (e + 1 - i) = sm (fun d => cap (spl c (VV c N sd) (12 * t + x) i j k l (i + d))) (e - i) + cap (spl c (VV c N sd) (12 * t + x) i j k l e) := by
        rw [show e + 1 - i = (e - i) + 1 by omega, sm_1, show i + (e - i) = e by omega]
      have eh : cT σ false (12 * t + x) i (hJ c (12 * t + x) j) (hJ c (12 * t + x) k) e = hdV c (VV c N sd) (12 * t + x) i j k e := c7.1 false t x i e _ _ ht hx w1
      have en : (c (12 * t + x) 5).toNat = 12 * t + xn := by rw [h5]; omega
      have et : cT σ true (12 * t + xn) e (tJ c (12 * t + x) j) (tJ c (12 * t + x) k) l = tlV c (VV c N sd) (12 * t + x) j k l e := by
        unfold tlV; rw [en]; exact c7.1 true t xn e l _ _ ht hn w2
      have rh := VV_r c N sd false (12 * t + x) i (hJ c (12 * t + x) j) (hJ c (12 * t + x) k) e
      have rt := VV_r c N sd true (c (12 * t + x) 5).toNat e (tJ c (12 * t + x) j) (tJ c (12 * t + x) k) l
      have es : spl c (VV c N sd) (12 * t + x) i j k l e = hdV c (VV c N sd) (12 * t + x) i j k e * tlV c (VV c N sd) (12 * t + x) j k l e := spl_g.1 hge
      have mb := mul_b (a := hdV c (VV c N sd) (12 * t + x) i j k e) (b := tlV c (VV c N sd) (12 * t + x) j k l e) rh rt
      have z1 : lst + 1 - (e + 1) = m := by omega
      have z2 : fst ≤ e + 1 := by omega
      have z3 : e + 1 ≤ lst + 1 := by omega
      have z4 : (e : Int) + 1 = ((e + 1 : Nat) : Int) := by omega
      have ze : i ≤ e := by omega
      have zl : e ≤ l := by omega
      have zn : e ≤ n := by omega
      have headW : ∀ R : Int → St → Prop, R (hdV c (VV c N sd) (12 * t + x) i j k e) σ → wp_X0_headWays a3 (i : Int) (e : Int) j k R σ := by
        intro R hR
        rcases g2 with q | q
        · have e1' : hJ c (12 * t + x) j = -1 := by unfold hJ; rw [if_neg (by omega)]
          have e2' : hJ c (12 * t + x) k = -1 := by unfold hJ; rw [if_neg (by omega)]
          rw [e1', e2'] at eh
          exact sp_head0 (t := t) (x := x) (n := n) z16 z12 (by rw [ec6]; exact q) ze zn c1 h3 rfl rfl (by rw [eh]; exact hR)
        · have e1' : hJ c (12 * t + x) j = j := by unfold hJ; rw [if_pos q]
          have e2' : hJ c (12 * t + x) k = k := by unfold hJ; rw [if_pos q]
          rw [e1', e2'] at eh w1
          rw [q] at w1
          exact sp_head1 (t := t) (x := x) (n := n) z16 z12 (by rw [ec6]; exact q) w1 c1 h3 rfl rfl (by rw [eh]; exact hR)
      have tailW : ∀ R : Int → St → Prop, R (tlV c (VV c N sd) (12 * t + x) j k l e) σ → wp_X0_tailWays a3 (e : Int) (l : Int) j k R σ := by
        intro R hR
        rcases g2 with q | q
        · have e1' : tJ c (12 * t + x) j = j := by unfold tJ; rw [if_neg (by omega)]
          have e2' : tJ c (12 * t + x) k = k := by unfold tJ; rw [if_neg (by omega)]
          rw [e1', e2'] at et w2
          exact sp_tail0 (t := t) (x := x) (n := n) (xr := 12 * t + xn) z16 z12 (by rw [ec6]; exact q) ec5 z24n w2 c1 h3 rfl rfl (by rw [et]; exact hR)
        · have e1' : tJ c (12 * t + x) j = -1 := by unfold tJ; rw [if_pos q]
          have e2' : tJ c (12 * t + x) k = -1 := by unfold tJ; rw [if_pos q]
          rw [e1', e2'] at et
          exact sp_tail1 (t := t) (x := x) (n := n) (xr := 12 * t + xn) z16 z12 (by rw [ec6]; exact q) ec5 z24n zl v2 c1 h3 rfl rfl (by rw [et]; exact hR)
      unfold wp_X6_splitOff_L99
      rw [w32_id (show -2147483648 ≤ (lst : Int) by omega) (by omega), w32_id (show -2147483648 ≤ (e : Int) by omega) (by omega)]
      refine ⟨fun z => by omega, fun _ => headW _ (fun x_3 ex3 => tailW _ ?_)⟩
      rw [w32_id (show -2147483648 ≤ hdV c (VV c N sd) (12 * t + x) i j k e by unfold hdV; omega) (by unfold hdV; omega)] at ex3
      rw [ex3, w32_id (show -2147483648 ≤ tlV c (VV c N sd) (12 * t + x) j k l e by unfold tlV; omega) (by unfold tlV; omega)]
      refine sp_cut (by omega) ?_
      rw [← es]
      have cr := sp0 e
      have cr2 : cap (spl c (VV c N sd) (12 * t + x) i j k l e) ≤ 1000000000 := by unfold cap; split <;> omega
      rw [w32_id (show -2147483648 ≤ cap (spl c (VV c N sd) (12 * t + x) i j k l e) by omega) (by omega), w32_id (show -2147483648 ≤ way - sm (fun d => cap (spl c (VV c N sd) (12 * t + x) i j k l (i + d))) (e - i) by omega) (by omega)]
      have go : sm (fun d => cap (spl c (VV c N sd) (12 * t + x) i j k l (i + d))) (e + 1 - i) ≤ way → wp_X6_splitOff_B244 (fun z0 z1 z2 z3 z4 z5 z6 z7 z8 z9 z10 z11 σ => wp_X6_splitOff_L99 Q (m + 1) z0 z1 z2 z3 z4 z5 z6 z7 z8 z9 z10 z11 σ) a1 a2 a3 (i : Int) (l : Int) j k (way - sm (fun d => cap (spl c (VV c N sd) (12 * t + x) i j k l (i + d))) (e - i)) (xn : Int) (c (12 * t + x) 6) (lst : Int) (e : Int) (cap (spl c (VV c N sd) (12 * t + x) i j k l e)) Q σ := by
        intro hle
        unfold wp_X6_splitOff_B244
        intro x_1 ex1 x_2 ex2
        have := ih (e + 1) z1 z2 z3 hle
        rw [nxt, show way - (sm (fun d => cap (spl c (VV c N sd) (12 * t + x) i j k l (i + d))) (e - i) + cap (spl c (VV c N sd) (12 * t + x) i j k l e)) = way - sm (fun d => cap (spl c (VV c N sd) (12 * t + x) i j k l (i + d))) (e - i) - cap (spl c (VV c N sd) (12 * t + x) i j k l e) by omega] at this
        rw [ex1, ex2, z4]
        exact this
      refine ⟨fun z => go ?_, fun z => ⟨fun y => go (by omega), fun y => ?_⟩⟩
      · have tz : tlV c (VV c N sd) (12 * t + x) j k l e = 0 := by have : 0 ≤ tlV c (VV c N sd) (12 * t + x) j k l e := rt.1; omega
        rw [nxt, es, tz, Int.mul_zero, cap_0]
        omega
      · have so : SpO c (VV c N sd) (12 * t + x) i j k l way e (way - sm (fun d => cap (spl c (VV c N sd) (12 * t + x) i j k l (i + d))) (e - i)) := ⟨ze, zl, by omega, by omega, by omega⟩
        have hd := iDiv_n (x := way - sm (fun d => cap (spl c (VV c N sd) (12 * t + x) i j k l (i + d))) (e - i)) (y := tlV c (VV c N sd) (12 * t + x) j k l e) (by omega) (by have : tlV c (VV c N sd) (12 * t + x) j k l e ≤ 1000000000 := rt.2; omega)
        have fin : ∀ (hj hk tj tk : Int), hj = hJ c (12 * t + x) j → hk = hJ c (12 * t + x) k → tj = tJ c (12 * t + x) j → tk = tJ c (12 * t + x) k → wp_X6_lay a1 a2 (i : Int) (e : Int) hj hk (iDiv (way - sm (fun d => cap (spl c (VV c N sd) (12 * t + x) i j k l (i + d))) (e - i)) (tlV c (VV c N sd) (12 * t + x) j k l e)) (fun σ1 => ¬ w32 (tlV c (VV c N sd) (12 * t + x) j k l e) = 0 ∧ wp_X6_lay a1 (xn : Int) (e : Int) (l : Int) tj tk (iRem (way - sm (fun d => cap (spl c (VV c N sd) (12 * t + x) i j k l (i + d))) (e - i)) (tlV c (VV c N sd) (12 * t + x) j k l e)) (fun σ1 => Q (xn : Int) σ1) σ1) σ := by
          intro hj hk tj tk q1 q2 q3 q4
          rw [hd.1, hd.2, q1, q2, q3, q4]
          refine sp_lay6 (u := u) (x := x) (i := i) (l := e) hu z12 h1 h2 rfl rfl (fun σ1 y1 y2 => ⟨by rw [w32_id (by omega) (by have : tlV c (VV c N sd) (12 * t + x) j k l e ≤ 1000000000 := rt.2; omega)]; omega, ?_⟩)
          refine sp_lay6 (u := u) (x := xn) (i := e) (l := l) hu z12n h1 rfl rfl rfl (fun σ2 y3 y4 => ?_)
          exact h e _ σ2 so (Cl_nF y1 y4 z12n z12 (fun z => by omega)) y3 (fun o k' p1 p2 => by rw [y4 o k' p2]; exact y2 o k' p1)
        have zt : ¬ w32 (tlV c (VV c N sd) (12 * t + x) j k l e) = 0 := by rw [w32_id (by omega) (by have : tlV c (VV c N sd) (12 * t + x) j k l e ≤ 1000000000 := rt.2; omega)]; omega
        unfold wp_X6_splitOff_B184 wp_X6_splitOff_B195 wp_X6_splitOff_B222 wp_X6_splitOff_B233
        rcases g2 with q | q
        · have r1 : hJ c (12 * t + x) j = -1 := by unfold hJ; rw [if_neg (by omega)]
          have r2 : hJ c (12 * t + x) k = -1 := by unfold hJ; rw [if_neg (by omega)]
          have r3 : tJ c (12 * t + x) j = j := by unfold tJ; rw [if_neg (by omega)]
          have r4 : tJ c (12 * t + x) k = k := by unfold tJ; rw [if_neg (by omega)]
          have := fin (-1) (-1) j k r1.symm r2.symm r3.symm r4.symm
          rw [q]
          refine ⟨fun _ => ⟨fun _ => ⟨zt, ?_⟩, fun z => absurd w32_0 z⟩, fun z => absurd w32_0 z⟩
          have mono : ∀ (A B : St → Prop) (a b d e' f g h' : Int) (s : St), (∀ s, A s → B s) → wp_X6_lay a b d e' f g h' A s → wp_X6_lay a b d e' f g h' B s := by
            intro A B a b d e' f g h' s hAB
            unfold wp_X6_lay wp_X6_setNodeCell
            intro hh
            refine ⟨hh.1, fun s1 e1 => ?_⟩
            have h1 := hh.2 s1 e1
            refine ⟨h1.1, fun s2 e2 => ?_⟩
            have h2 := h1.2 s2 e2
            refine ⟨h2.1, fun s3 e3 => ?_⟩
            have h3 := h2.2 s3 e3
            refine ⟨h3.1, fun s4 e4 => ?_⟩
            have h4 := h3.2 s4 e4
            exact ⟨h4.1, fun s5 e5 => hAB s5 (h4.2 s5 e5)⟩
          exact mono _ _ _ _ _ _ _ _ _ _ (fun s hs => ⟨fun _ => ⟨fun _ => hs, fun z => absurd w32_0 z⟩, fun z => absurd w32_0 z⟩) this
        · have r1 : hJ c (12 * t + x) j = j := by unfold hJ; rw [if_pos q]
          have r2 : hJ c (12 * t + x) k = k := by unfold hJ; rw [if_pos q]
          have r3 : tJ c (12 * t + x) j = -1 := by unfold tJ; rw [if_pos q]
          have r4 : tJ c (12 * t + x) k = -1 := by unfold tJ; rw [if_pos q]
          have := fin j k (-1) (-1) r1.symm r2.symm r3.symm r4.symm
          rw [q]
          refine ⟨fun z => absurd z (by decide), fun _ => ⟨fun z => absurd z (by decide), fun _ => ⟨zt, ?_⟩⟩⟩
          have mono : ∀ (A B : St → Prop) (a b d e' f g h' : Int) (s : St), (∀ s, A s → B s) → wp_X6_lay a b d e' f g h' A s → wp_X6_lay a b d e' f g h' B s := by
            intro A B a b d e' f g h' s hAB
            unfold wp_X6_lay wp_X6_setNodeCell
            intro hh
            refine ⟨hh.1, fun s1 e1 => ?_⟩
            have h1 := hh.2 s1 e1
            refine ⟨h1.1, fun s2 e2 => ?_⟩
            have h2 := h1.2 s2 e2
            refine ⟨h2.1, fun s3 e3 => ?_⟩
            have h3 := h2.2 s3 e3
            refine ⟨h3.1, fun s4 e4 => ?_⟩
            have h4 := h3.2 s4 e4
            exact ⟨h4.1, fun s5 e5 => hAB s5 (h4.2 s5 e5)⟩
          exact mono _ _ _ _ _ _ _ _ _ _ (fun s hs => ⟨fun z => absurd z (by decide), fun _ => ⟨fun z => absurd z (by decide), fun _ => hs⟩⟩) this
  unfold wp_X6_splitOff
  refine sp_nodeCell (w := 3) hu z12 (by omega) h1 h2 rfl ?_
  refine sp_nodeCell (w := 4) hu z12 (by omega) h1 h2 rfl ?_
  refine sp_nodeCell (w := 5) hu z12 (by omega) h1 h2 rfl ?_
  refine sp_nodeCell (w := 6) hu z12 (by omega) h1 h2 rfl ?_
  refine sp_nodeCell (w := 1) hu z12 (by omega) h1 h2 rfl ?_
  rw [b3, b4, b5, b6, b1]
  refine sp_cell (t := t) (x := x) (w := 5) h3 rfl z16' z12 (by omega) ?_
  rw [e5]
  intro x_13 ex13
  have ex13' : x_13 = (xn : Int) := by omega
  rw [ex13']
  refine sp_hasFoot (t := t) (x := x) h3 z16' z12 (by rw [e6]; exact g2) ?_
  rw [e6]
  have ec9 : nd σ t x 9 = c (12 * t + x) 9 := c5 t x 9 ht hx (by omega)
  have ec10 : nd σ t xn 10 = c (12 * t + xn) 10 := c5 t xn 10 ht hn (by omega)
  have en5 : (c (12 * t + x) 5).toNat = 12 * t + xn := by rw [h5]; omega
  have l9 := (hCL t x ht hx).1
  have l10 := (hCL t xn ht hn).2.1
  have start : ∃ nn, wp_X6_splitOff_L99 Q nn a1 a2 a3 (i : Int) (l : Int) j k way (xn : Int) (c (12 * t + x) 6) (lsp c (12 * t + x) j l) (fsp c (12 * t + x) i k) σ := by
    have sz' := fun (e : Nat) (a : i ≤ e) (b : e ≤ l) => spl_z (e := e) sd c6 hCL ht hx hn h5 hv a b
    have fb : (i : Int) ≤ fsp c (12 * t + x) i k := by
      unfold fsp
      split
      · rename_i q; have := h67 q; rcases v3 with z | z <;> omega
      · omega
    have lb : lsp c (12 * t + x) j l ≤ (l : Int) := by
      unfold lsp
      rw [en5]
      split
      · omega
      · rcases v3 with z | z <;> omega
    have ne : fsp c (12 * t + x) i k ≤ lsp c (12 * t + x) j l := by
      refine Classical.byContradiction (fun z => ?_)
      rw [sm_0 _ (fun d hd => by
        show cap (spl c (VV c N sd) (12 * t + x) i j k l (i + d)) = 0
        rw [(sz' (i + d) (by omega) (by omega)).2 (fun w => z (Int.le_trans w.1 w.2)), cap_0])] at wsum
      omega
    have f0 : (((fsp c (12 * t + x) i k).toNat : Nat) : Int) = fsp c (12 * t + x) i k := by omega
    have l0 : (((lsp c (12 * t + x) j l).toNat : Nat) : Int) = lsp c (12 * t + x) j l := by omega
    have z0 : sm (fun d => cap (spl c (VV c N sd) (12 * t + x) i j k l (i + d))) ((fsp c (12 * t + x) i k).toNat - i) = 0 := sm_0 _ (fun d hd => by
      show cap (spl c (VV c N sd) (12 * t + x) i j k l (i + d)) = 0
      rw [(sz' (i + d) (by omega) (by omega)).2 (by omega), cap_0])
    have := loop (fsp c (12 * t + x) i k).toNat (lsp c (12 * t + x) j l).toNat (fun e a b => ⟨fun w => (sz' e a b).1 (by omega), fun w => (sz' e a b).2 (by omega)⟩) (by omega) (by omega) ((lsp c (12 * t + x) j l).toNat + 1 - (fsp c (12 * t + x) i k).toNat) (fsp c (12 * t + x) i k).toNat rfl (Nat.le_refl _) (by omega) (by rw [z0]; exact hw0)
    rw [z0, Int.sub_zero, f0, l0] at this
    exact ⟨_, this⟩
  unfold wp_X0_lastSplit wp_X0_lastSplit_B27 wp_X0_firstSplit
  refine sp_cell (t := t) (x := x) (w := 5) h3 rfl z16' z12 (by omega) ?_
  rw [e5]
  refine sp_hasFoot (t := t) (x := x) h3 z16' z12 (by rw [e6]; exact g2) ?_
  rw [e6]
  rcases g2 with q | q
  · have q1 : ¬ c (12 * t + x) 6 = 1 := by omega
    have first : ∀ lI : Int, lI = lsp c (12 * t + x) j l → wp_X1_hasFoot a3 (fun r2 σ1 => (w32 r2 = 0 → wp_X1_cell a3 7 (fun r4 σ3 => (fun r19 σ18 => ∃ nn, wp_X6_splitOff_L99 Q nn a1 a2 a3 (i : Int) (l : Int) j k way (xn : Int) (c (12 * t + x) 6) lI r19 σ18) ((i : Int) + r4) σ3) σ1) ∧ (¬ w32 r2 = 0 → (fun r19 σ18 => ∃ nn, wp_X6_splitOff_L99 Q nn a1 a2 a3 (i : Int) (l : Int) j k way (xn : Int) (c (12 * t + x) 6) lI r19 σ18) k σ1)) σ := by
      intro lI eI
      refine sp_hasFoot (t := t) (x := x) h3 z16' z12 (by rw [e6]; exact Or.inl q) ?_
      rw [e6, q]
      refine ⟨fun _ => ?_, fun z => absurd w32_0 z⟩
      refine sp_cell (t := t) (x := x) (w := 9) h3 rfl z16' z12 (by omega) ?_
      have ef : (i : Int) + nd σ t x 9 = fsp c (12 * t + x) i k := by unfold fsp; rw [if_neg q1, ec9]
      show ∃ nn, wp_X6_splitOff_L99 Q nn a1 a2 a3 (i : Int) (l : Int) j k way (xn : Int) 0 lI ((i : Int) + nd σ t x 9) σ
      rw [ef, eI]
      rw [q] at start
      exact start
    rw [q] at first ⊢
    refine ⟨fun z => absurd w32_0 z, fun _ => ?_⟩
    rcases v3 with z | z
    · have el : (l : Int) - c (12 * t + xn) 10 = lsp c (12 * t + x) j l := by unfold lsp; rw [if_pos (Or.inr z.2.1), en5]
      refine ⟨fun y => absurd (by rw [z.2.1]; decide) y, fun _ => ?_⟩
      refine sp_cell (t := t) (x := xn) (w := 10) rfl rfl z16' z12n (by omega) ?_
      exact first _ (by rw [ec10]; exact el)
    · have el : j = lsp c (12 * t + x) j l := by unfold lsp; rw [if_neg (by omega)]
      rw [w32_id (show -2147483648 ≤ j by omega) (by omega)]
      exact ⟨fun _ => first _ el, fun y => by omega⟩
  · have el : (l : Int) - c (12 * t + xn) 10 = lsp c (12 * t + x) j l := by unfold lsp; rw [if_pos (Or.inl q), en5]
    have ef : fsp c (12 * t + x) i k = k := by unfold fsp; rw [if_pos q]
    rw [ef, q] at start
    rw [q]
    refine ⟨fun _ => ?_, fun z => absurd z (by decide)⟩
    refine sp_cell (t := t) (x := xn) (w := 10) rfl rfl z16' z12n (by omega) ?_
    refine sp_hasFoot (t := t) (x := x) h3 z16' z12 (by rw [e6]; exact Or.inr q) ?_
    rw [e6, q]
    refine ⟨fun z => absurd z (by decide), fun _ => ?_⟩
    show ∃ nn, wp_X6_splitOff_L99 Q nn a1 a2 a3 (i : Int) (l : Int) j k way (xn : Int) 1 ((l : Int) - nd σ t xn 10) k σ
    rw [ec10, el]
    exact start
