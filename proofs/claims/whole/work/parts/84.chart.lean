/-! pure: the counts of the chart, once for all -/
def sm (f : Nat → Int) : Nat → Int
  | 0 => 0
  | n + 1 => sm f n + f n
theorem sm_c {f g : Nat → Int} : ∀ n, (∀ d, d < n → f d = g d) → sm f n = sm g n := by
  intro n
  induction n with
  | zero => intro _; rfl
  | succ n ih => intro h; unfold sm; rw [ih (fun d hd => h d (by omega)), h n (by omega)]
theorem sm_0 {f : Nat → Int} : ∀ n, (∀ d, d < n → f d = 0) → sm f n = 0 := by
  intro n
  induction n with
  | zero => intro _; rfl
  | succ n ih => intro h; unfold sm; rw [ih (fun d hd => h d (by omega)), h n (by omega)]; rfl
theorem sm_p {f : Nat → Int} : ∀ n, (∀ d, d < n → 0 ≤ f d) → 0 ≤ sm f n := by
  intro n
  induction n with
  | zero => intro _; exact Int.le_refl 0
  | succ n ih => intro h; unfold sm; have := ih (fun d hd => h d (by omega)); have := h n (by omega); omega
def cap (x : Int) : Int := if x > 1000000000 then 1000000000 else x
theorem cap_r {x : Int} (h : 0 ≤ x) : 0 ≤ cap x ∧ cap x ≤ 1000000000 := by unfold cap; split <;> omega
theorem cap_id {x : Int} (h : x ≤ 1000000000) : cap x = x := by unfold cap; rw [if_neg (by omega)]
theorem cap_cap (x : Int) : cap (cap x) = cap x := by
  unfold cap
  split
  · rfl
  · rfl
theorem cap_add {a b : Int} (ha : 0 ≤ a) (hb : 0 ≤ b) : cap (cap a + b) = cap (a + b) := by
  unfold cap
  by_cases q : a > 1000000000
  · rw [if_pos q, if_pos (show a + b > 1000000000 by omega)]; split <;> omega
  · rw [if_neg q]
theorem cap_mul {a x b : Int} (ha : 0 ≤ a) (hx : 0 ≤ x) (hb : 0 ≤ b) : cap (a + cap x * b) = cap (a + x * b) := by
  by_cases q : x > 1000000000
  · have e : cap x = 1000000000 := by unfold cap; rw [if_pos q]
    rw [e]
    by_cases z : b = 0
    · rw [z, Int.mul_zero, Int.mul_zero]
    · have h1 : (1000000000 : Int) * 1 ≤ 1000000000 * b := Int.mul_le_mul_of_nonneg_left (by omega) (by omega)
      have h2 : (1000000000 : Int) * b ≤ x * b := Int.mul_le_mul_of_nonneg_right (by omega) hb
      by_cases w : a = 0 ∧ b = 1
      · rw [w.1, w.2, Int.mul_one, Int.mul_one, Int.zero_add, Int.zero_add]
        unfold cap
        rw [if_neg (by omega), if_pos q]
      · have h3 : 1000000000 < a + 1000000000 * b := by
          by_cases v : b = 1
          · rw [v]; omega
          · have : (1000000000 : Int) * 2 ≤ 1000000000 * b := Int.mul_le_mul_of_nonneg_left (by omega) (by omega)
            omega
        unfold cap
        rw [if_pos h3, if_pos (by omega)]
  · rw [cap_id (x := x) (by omega)]
abbrev Tb := Bool → Nat → Nat → Int → Int → Nat → Int
def spl (c : Nat → Nat → Int) (T : Tb) (r i : Nat) (j k : Int) (l e : Nat) : Int :=
  if c r 6 = 1 then (if k ≤ (e : Int) then T false r i j k e * T true (c r 5).toNat e (-1) (-1) l else 0)
  else (if j = -1 ∨ (e : Int) ≤ j then T false r i (-1) (-1) e * T true (c r 5).toNat e j k l else 0)
def rOn (c : Nat → Nat → Int) (T : Tb) (r i : Nat) (j k : Int) (l : Nat) : Int := if c r 5 = -1 then T false r i j k l else cap (sm (fun d => spl c T r i j k l (i + d)) (l + 1 - i))
def ini (c : Nat → Nat → Int) (N : Nat) (T : Tb) (nm : Int) (i l : Nat) : Int := sm (fun t => if c (12 * t) 1 = nm ∧ c (12 * t) 6 = 0 then T false (12 * t) i (-1) (-1) l else 0) N
def aux (c : Nat → Nat → Int) (N : Nat) (T : Tb) (nm : Int) (i p q l : Nat) : Int := sm (fun t => if c (12 * t) 1 = nm ∧ c (12 * t) 6 = 1 then T false (12 * t) i (p : Int) (q : Int) l else 0) N
def lastP (j : Int) (l : Nat) : Nat := if j = -1 then l else j.toNat
def fstQ (j k : Int) (p : Nat) : Nat := if j = -1 then p else k.toNat
def axs (c : Nat → Nat → Int) (N : Nat) (T : Tb) (r i : Nat) (j k : Int) (l : Nat) : Int := sm (fun dp => sm (fun dq => aux c N T (c r 1) i (i + dp) (fstQ j k (i + dp) + dq) l * T true (r + 1) (i + dp) j k (fstQ j k (i + dp) + dq)) (l + 1 - fstQ j k (i + dp))) (lastP j l + 1 - i)
def rIn (c : Nat → Nat → Int) (N : Nat) (T : Tb) (r i : Nat) (j k : Int) (l : Nat) : Int := (if c r 4 = 1 then 0 else T true (r + 1) i j k l) + (if c r 4 = 2 then 0 else axs c N T r i j k l)
def rLie (c : Nat → Nat → Int) (N : Nat) (sd : Nat → Int) (T : Tb) (r i : Nat) (j k : Int) (l : Nat) : Int :=
  if c r 0 = 3 then (if l = i + 1 ∧ sd i = c r 1 then 1 else 0) else if c r 0 = 2 then (if j = (i : Int) ∧ k = (l : Int) then 1 else 0) else if c r 0 = 1 then cap (ini c N T (c r 1) i l) else cap (rIn c N T r i j k l)
def rhs (c : Nat → Nat → Int) (N : Nat) (sd : Nat → Int) (T : Tb) : Tb := fun o r i j k l => if o then rOn c T r i j k l else rLie c N sd T r i j k l
/-- a span: without a gap, or with one -/
def Vs (g : Int) (i : Nat) (j k : Int) (l n : Nat) : Prop := i ≤ l ∧ l ≤ n ∧ ((g = 0 ∧ j = -1 ∧ k = -1) ∨ (g = 1 ∧ (i : Int) ≤ j ∧ j ≤ k ∧ k ≤ (l : Int)))
def flg (c : Nat → Nat → Int) (o : Bool) (r : Nat) : Int := if o then c r 7 else c r 6
def wd (hw wo : Nat → Prop) (o : Bool) (r : Nat) : Prop := (o = true ∧ wo r) ∨ (o = false ∧ hw r)
/-- what the chart needs to know of the trees -/
def CF (c : Nat → Nat → Int) (N : Nat) (sz : Nat → Nat) (hw wo : Nat → Prop) : Prop :=
  (∀ t x, t < N → x < sz t → (0 ≤ c (12 * t + x) 0 ∧ c (12 * t + x) 0 ≤ 3) ∧ (c (12 * t + x) 6 = 0 ∨ c (12 * t + x) 6 = 1) ∧ (c (12 * t + x) 7 = 0 ∨ c (12 * t + x) 7 = 1) ∧ (c (12 * t + x) 0 = 0 → x + 1 < sz t) ∧
    (c (12 * t + x) 5 = -1 ∨ ∃ x', x < x' ∧ x' < sz t ∧ c (12 * t + x) 5 = ((12 * t + x' : Nat) : Int)) ∧
    (c (12 * t + x) 6 = 1 ↔ c (12 * t + x) 0 = 2 ∨ (c (12 * t + x) 0 = 0 ∧ c (12 * t + x + 1) 7 = 1)) ∧
    (c (12 * t + x) 7 = 1 ↔ c (12 * t + x) 6 = 1 ∨ (c (12 * t + x) 5 ≠ -1 ∧ c (c (12 * t + x) 5).toNat 7 = 1)) ∧
    (c (12 * t + x) 6 = 1 → c (12 * t + x) 5 ≠ -1 → c (c (12 * t + x) 5).toNat 7 = 0) ∧
    (hw (12 * t + x) ↔ c (12 * t + x) 0 = 3 ∨ (c (12 * t + x) 0 = 0 ∧ wo (12 * t + x + 1))) ∧
    (wo (12 * t + x) ↔ hw (12 * t + x) ∨ (c (12 * t + x) 5 ≠ -1 ∧ wo (c (12 * t + x) 5).toNat)) ∧ (0 ≤ c (12 * t + x) 1 ∧ c (12 * t + x) 1 < 32 ∧ (c (12 * t + x) 0 ≠ 3 → c (12 * t + x) 1 < 16))) ∧
  (∀ t, t < N → 0 < sz t ∧ sz t ≤ 12 ∧ c (12 * t) 0 = 0 ∧ hw (12 * t))
/-- cells that are told before the cell (o, t, x) of y words -/
def Rdy (hw wo : Nat → Prop) (o : Bool) (t x : Nat) (y : Int) (o' : Bool) (t' x' : Nat) (y' : Int) : Prop := y' < y ∨ (y' = y ∧ ((¬ wd hw wo o (12 * t + x) ∧ wd hw wo o' (12 * t' + x')) ∨ ((wd hw wo o' (12 * t' + x') ↔ wd hw wo o (12 * t + x)) ∧ t' = t ∧ (x < x' ∨ (x' = x ∧ o' = false ∧ o = true)))))
theorem mul_eq {a a' b b' : Int} (h : (a = a' ∧ b = b') ∨ (a = 0 ∧ a' = 0) ∨ (b = 0 ∧ b' = 0)) : a * b = a' * b' := by
  rcases h with ⟨h1, h2⟩ | ⟨h1, h2⟩ | ⟨h1, h2⟩
  · rw [h1, h2]
  · rw [h1, h2, Int.zero_mul, Int.zero_mul]
  · rw [h1, h2, Int.mul_zero, Int.mul_zero]
/-- the count of a cell depends on those before it alone -/
theorem rhs_K {c : Nat → Nat → Int} {N n : Nat} {sz : Nat → Nat} {hw wo : Nat → Prop} (sd : Nat → Int) (hF : CF c N sz hw wo) {T T' : Tb} {o : Bool} {t x i l : Nat} {j k : Int} (ht : t < N) (hx : x < sz t) (hv : Vs (flg c o (12 * t + x)) i j k l n)
    (hr : ∀ (o' : Bool) (t' x' i' l' : Nat) (j' k' : Int), t' < N → x' < sz t' → Vs (flg c o' (12 * t' + x')) i' j' k' l' n → Rdy hw wo o t x ((l : Int) - i - (k - j)) o' t' x' ((l' : Int) - i' - (k' - j')) → T o' (12 * t' + x') i' j' k' l' = T' o' (12 * t' + x') i' j' k' l')
    (hz : ∀ (o' : Bool) (t' x' i' l' : Nat) (j' k' : Int), t' < N → x' < sz t' → Vs (flg c o' (12 * t' + x')) i' j' k' l' n → Rdy hw wo o t x ((l : Int) - i - (k - j)) o' t' x' ((l' : Int) - i' - (k' - j')) → wd hw wo o' (12 * t' + x') → (l' : Int) - i' - (k' - j') = 0 → T o' (12 * t' + x') i' j' k' l' = 0 ∧ T' o' (12 * t' + x') i' j' k' l' = 0) :
    rhs c N sd T o (12 * t + x) i j k l = rhs c N sd T' o (12 * t + x) i j k l := by
  obtain ⟨hFc, hFt⟩ := hF
  obtain ⟨g1, g2, g3, g4, g5, g6, g7, g8, g9, g10, g11⟩ := hFc t x ht hx
  obtain ⟨v1, v2, v3⟩ := hv
  have wT : ∀ r, wd hw wo true r ↔ wo r := fun r => by unfold wd; simp
  have wF : ∀ r, wd hw wo false r ↔ hw r := fun r => by unfold wd; simp
  unfold rhs
  cases o with
  | true =>
    simp only [if_true]
    have fl : flg c true (12 * t + x) = c (12 * t + x) 7 := rfl
    rw [fl] at v3
    unfold rOn
    by_cases q5 : c (12 * t + x) 5 = -1
    · rw [if_pos q5, if_pos q5]
      have h67 : c (12 * t + x) 7 = 1 ↔ c (12 * t + x) 6 = 1 := by
        rw [g7]; exact ⟨fun z => z.elim id (fun w => absurd q5 w.1), Or.inl⟩
      refine hr false t x i l j k ht hx ⟨v1, v2, ?_⟩ (Or.inr ⟨rfl, Or.inr ⟨?_, rfl, Or.inr ⟨rfl, rfl, rfl⟩⟩⟩)
      · show (c (12 * t + x) 6 = 0 ∧ _) ∨ (c (12 * t + x) 6 = 1 ∧ _)
        rcases v3 with z | z
        · left; refine ⟨?_, z.2⟩
          rcases g2 with w | w
          · exact w
          · have := h67.mpr w; omega
        · right; exact ⟨h67.mp z.1, z.2⟩
      · rw [wT, wF, g10]
        exact ⟨Or.inl, fun z => z.elim id (fun w => absurd q5 w.1)⟩
    · rw [if_neg q5, if_neg q5]
      obtain ⟨x', x1, x2, x3⟩ : ∃ x', x < x' ∧ x' < sz t ∧ c (12 * t + x) 5 = ((12 * t + x' : Nat) : Int) := by
        rcases g5 with z | z
        · exact absurd z q5
        · exact z
      have xn : (c (12 * t + x) 5).toNat = 12 * t + x' := by rw [x3]; omega
      rw [xn] at g7 g8 g10
      have g3' := (hFc t x' ht x2).2.2.1
      congr 1
      refine sm_c _ (fun d hd => ?_)
      -- the product of two parts whose spans make the whole
      have prod : ∀ (j1 k1 j2 k2 : Int), Vs (c (12 * t + x) 6) i j1 k1 (i + d) n → Vs (c (12 * t + x') 7) (i + d) j2 k2 l n → (k1 - j1) + (k2 - j2) = k - j → T false (12 * t + x) i j1 k1 (i + d) * T true (12 * t + x') (i + d) j2 k2 l = T' false (12 * t + x) i j1 k1 (i + d) * T' true (12 * t + x') (i + d) j2 k2 l := by
        intro j1 k1 j2 k2 w1 w2 w3
        have y1 : 0 ≤ ((i + d : Nat) : Int) - i - (k1 - j1) := by rcases w1.2.2 with z | z <;> omega
        have y2 : 0 ≤ (l : Int) - ((i + d : Nat) : Int) - (k2 - j2) := by rcases w2.2.2 with z | z <;> omega
        apply mul_eq
        by_cases hwx : hw (12 * t + x)
        · -- the first part has a word
          have hwo : wd hw wo true (12 * t + x) := (wT _).mpr (g10.mpr (Or.inl hwx))
          have r1 : Rdy hw wo true t x ((l : Int) - i - (k - j)) false t x (((i + d : Nat) : Int) - i - (k1 - j1)) := by
            by_cases e : ((i + d : Nat) : Int) - i - (k1 - j1) < (l : Int) - i - (k - j)
            · exact Or.inl e
            · exact Or.inr ⟨by omega, Or.inr ⟨by rw [wF]; exact ⟨fun _ => hwo, fun _ => hwx⟩, rfl, Or.inr ⟨rfl, rfl, rfl⟩⟩⟩
          by_cases e0 : ((i + d : Nat) : Int) - i - (k1 - j1) = 0
          · exact Or.inr (Or.inl (hz false t x i (i + d) j1 k1 ht hx w1 r1 ((wF _).mpr hwx) e0))
          · exact Or.inl ⟨hr false t x i (i + d) j1 k1 ht hx w1 r1, hr true t x' (i + d) l j2 k2 ht x2 w2 (Or.inl (by omega))⟩
        · by_cases hwn : wo (12 * t + x')
          · have hwo : wd hw wo true (12 * t + x) := (wT _).mpr (g10.mpr (Or.inr ⟨q5, hwn⟩))
            have r2 : Rdy hw wo true t x ((l : Int) - i - (k - j)) true t x' ((l : Int) - ((i + d : Nat) : Int) - (k2 - j2)) := by
              by_cases e : (l : Int) - ((i + d : Nat) : Int) - (k2 - j2) < (l : Int) - i - (k - j)
              · exact Or.inl e
              · exact Or.inr ⟨by omega, Or.inr ⟨by rw [wT]; exact ⟨fun _ => hwo, fun _ => hwn⟩, rfl, Or.inl x1⟩⟩
            by_cases e0 : (l : Int) - ((i + d : Nat) : Int) - (k2 - j2) = 0
            · exact Or.inr (Or.inr (hz true t x' (i + d) l j2 k2 ht x2 w2 r2 ((wT _).mpr hwn) e0))
            · exact Or.inl ⟨hr false t x i (i + d) j1 k1 ht hx w1 (Or.inl (by omega)), hr true t x' (i + d) l j2 k2 ht x2 w2 r2⟩
          · have hno : ¬ wd hw wo true (12 * t + x) := fun z => by
              rcases g10.mp ((wT _).mp z) with w | w
              · exact hwx w
              · exact hwn w.2
            refine Or.inl ⟨hr false t x i (i + d) j1 k1 ht hx w1 ?_, hr true t x' (i + d) l j2 k2 ht x2 w2 ?_⟩
            · by_cases e : ((i + d : Nat) : Int) - i - (k1 - j1) < (l : Int) - i - (k - j)
              · exact Or.inl e
              · exact Or.inr ⟨by omega, Or.inr ⟨by rw [wF]; exact ⟨fun z => absurd z hwx, fun z => absurd z hno⟩, rfl, Or.inr ⟨rfl, rfl, rfl⟩⟩⟩
            · by_cases e : (l : Int) - ((i + d : Nat) : Int) - (k2 - j2) < (l : Int) - i - (k - j)
              · exact Or.inl e
              · exact Or.inr ⟨by omega, Or.inr ⟨by rw [wT (12 * t + x')]; exact ⟨fun z => absurd z hwn, fun z => absurd z hno⟩, rfl, Or.inl x1⟩⟩
      unfold spl
      rw [xn]
      by_cases q6 : c (12 * t + x) 6 = 1
      · rw [if_pos q6, if_pos q6]
        by_cases qk : k ≤ ((i + d : Nat) : Int)
        · rw [if_pos qk, if_pos qk]
          have h7 := g7.mpr (Or.inl q6)
          have g8' := g8 q6 q5
          rcases v3 with z | z
          · omega
          · exact prod j k (-1) (-1) ⟨by omega, by omega, Or.inr ⟨q6, z.2.1, z.2.2.1, qk⟩⟩ ⟨by omega, v2, Or.inl ⟨g8', rfl, rfl⟩⟩ (by omega)
        · rw [if_neg qk, if_neg qk]
      · rw [if_neg q6, if_neg q6]
        have q6' : c (12 * t + x) 6 = 0 := by rcases g2 with w | w; exact w; exact absurd w q6
        by_cases qj : j = -1 ∨ ((i + d : Nat) : Int) ≤ j
        · rw [if_pos qj, if_pos qj]
          refine prod (-1) (-1) j k ⟨by omega, by omega, Or.inl ⟨q6', rfl, rfl⟩⟩ ⟨by omega, v2, ?_⟩ (by omega)
          rcases v3 with z | z
          · left; refine ⟨?_, z.2⟩
            rcases g3' with w | w
            · exact w
            · have := g7.mpr (Or.inr ⟨q5, w⟩); omega
          · right
            rcases g7.mp z.1 with w | w
            · exact absurd w q6
            · exact ⟨w.2, by omega, z.2.2.1, z.2.2.2⟩
        · rw [if_neg qj, if_neg qj]
  | false =>
    simp only [Bool.false_eq_true, if_false]
    have fl : flg c false (12 * t + x) = c (12 * t + x) 6 := rfl
    rw [fl] at v3
    unfold rLie
    by_cases k3 : c (12 * t + x) 0 = 3
    · rw [if_pos k3, if_pos k3]
    rw [if_neg k3, if_neg k3]
    by_cases k2 : c (12 * t + x) 0 = 2
    · rw [if_pos k2, if_pos k2]
    rw [if_neg k2, if_neg k2]
    by_cases k1 : c (12 * t + x) 0 = 1
    · rw [if_pos k1, if_pos k1]
      have hno : ¬ hw (12 * t + x) := fun z => by rcases g9.mp z with w | w <;> omega
      have h6 : c (12 * t + x) 6 = 0 := by
        rcases g2 with w | w
        · exact w
        · rcases g6.mp w with y | y <;> omega
      congr 1
      refine sm_c _ (fun t' ht' => ?_)
      by_cases q : c (12 * t') 1 = c (12 * t + x) 1 ∧ c (12 * t') 6 = 0
      · rw [if_pos q, if_pos q]
        obtain ⟨f1, f2, f3, f4⟩ := hFt t' ht'
        refine hr false t' 0 i l (-1) (-1) ht' f1 ⟨v1, v2, Or.inl ⟨q.2, rfl, rfl⟩⟩ ?_
        rcases v3 with z | z
        · exact Or.inr ⟨by omega, Or.inl ⟨by rw [wF]; exact hno, (wF _).mpr f4⟩⟩
        · omega
      · rw [if_neg q, if_neg q]
    rw [if_neg k1, if_neg k1]
    have k0 : c (12 * t + x) 0 = 0 := by omega
    have hx1 := g4 k0
    have h67 : c (12 * t + x) 6 = 1 ↔ c (12 * t + (x + 1)) 7 = 1 := by
      rw [g6]; exact ⟨fun z => z.elim (fun w => absurd w k2) (fun w => w.2), fun z => Or.inr ⟨k0, z⟩⟩
    have hww : hw (12 * t + x) ↔ wo (12 * t + (x + 1)) := by
      rw [g9]; exact ⟨fun z => z.elim (fun w => absurd w k3) (fun w => w.2), fun z => Or.inr ⟨k0, z⟩⟩
    have g3' := (hFc t (x + 1) ht hx1).2.2.1
    have vP : ∀ p q : Nat, p ≤ q → q ≤ l → ((j = -1 ∧ k = -1) ∨ ((p : Int) ≤ j ∧ j ≤ k ∧ k ≤ (q : Int))) → Vs (flg c true (12 * t + (x + 1))) p j k q n := fun p q a b d => by
      refine ⟨a, by omega, ?_⟩
      show (c (12 * t + (x + 1)) 7 = 0 ∧ _) ∨ (c (12 * t + (x + 1)) 7 = 1 ∧ _)
      rcases v3 with z | z
      · left; refine ⟨?_, z.2⟩
        rcases g3' with w | w
        · exact w
        · have := h67.mpr w; omega
      · right; refine ⟨h67.mp z.1, ?_⟩
        rcases d with w | w
        · omega
        · exact w
    congr 1
    unfold rIn
    congr 1
    · by_cases q : c (12 * t + x) 4 = 1
      · rw [if_pos q, if_pos q]
      · rw [if_neg q, if_neg q]
        refine hr true t (x + 1) i l j k ht hx1 (vP i l v1 (Nat.le_refl l) ?_) (Or.inr ⟨rfl, Or.inr ⟨by rw [wT, wF]; exact hww.symm, rfl, Or.inl (by omega)⟩⟩)
        rcases v3 with z | z
        · exact Or.inl z.2
        · exact Or.inr z.2
    · by_cases q : c (12 * t + x) 4 = 2
      · rw [if_pos q, if_pos q]
      · rw [if_neg q, if_neg q]
        unfold axs
        refine sm_c _ (fun dp hdp => ?_)
        refine sm_c _ (fun dq hdq => ?_)
        have hpq : i + dp ≤ fstQ j k (i + dp) + dq ∧ fstQ j k (i + dp) + dq ≤ l ∧ i + dp ≤ l ∧ ((j = -1 ∧ k = -1) ∨ (((i + dp : Nat) : Int) ≤ j ∧ j ≤ k ∧ k ≤ ((fstQ j k (i + dp) + dq : Nat) : Int))) := by
          unfold lastP at hdp
          unfold fstQ at hdq ⊢
          rcases v3 with z | z
          · rw [if_pos z.2.1] at hdp hdq ⊢; exact ⟨by omega, by omega, by omega, Or.inl z.2⟩
          · rw [if_neg (by omega)] at hdp hdq ⊢; exact ⟨by omega, by omega, by omega, Or.inr (by omega)⟩
        have hip : i ≤ i + dp := by omega
        generalize fstQ j k (i + dp) + dq = q' at *
        generalize i + dp = p at *
        obtain ⟨a1, a2, a3, a4⟩ := hpq
        have w2 := vP p q' a1 a2 a4
        have hy2 : 0 ≤ (q' : Int) - p - (k - j) := by rcases a4 with z | z <;> omega
        have hax : (∀ t', t' < N → c (12 * t') 6 = 1 → Rdy hw wo false t x ((l : Int) - i - (k - j)) false t' 0 ((l : Int) - i - ((q' : Int) - (p : Int)))) → aux c N T (c (12 * t + x) 1) i p q' l = aux c N T' (c (12 * t + x) 1) i p q' l := by
          intro rd
          refine sm_c _ (fun t' ht' => ?_)
          by_cases qq : c (12 * t') 1 = c (12 * t + x) 1 ∧ c (12 * t') 6 = 1
          · rw [if_pos qq, if_pos qq]
            exact hr false t' 0 i l (p : Int) (q' : Int) ht' (hFt t' ht').1 ⟨v1, v2, Or.inr ⟨qq.2, by omega, by omega, by omega⟩⟩ (rd t' ht' qq.2)
          · rw [if_neg qq, if_neg qq]
        apply mul_eq
        by_cases hwn : wo (12 * t + (x + 1))
        · have hwx := hww.mpr hwn
          have r2 : Rdy hw wo false t x ((l : Int) - i - (k - j)) true t (x + 1) ((q' : Int) - p - (k - j)) := by
            by_cases e : (q' : Int) - p - (k - j) < (l : Int) - i - (k - j)
            · exact Or.inl e
            · exact Or.inr ⟨by omega, Or.inr ⟨by rw [wT, wF]; exact hww.symm, rfl, Or.inl (by omega)⟩⟩
          by_cases e0 : (q' : Int) - p - (k - j) = 0
          · exact Or.inr (Or.inr (hz true t (x + 1) p q' j k ht hx1 w2 r2 ((wT _).mpr hwn) e0))
          · exact Or.inl ⟨hax (fun t' _ _ => Or.inl (by omega)), hr true t (x + 1) p q' j k ht hx1 w2 r2⟩
        · have hwx : ¬ hw (12 * t + x) := fun z => hwn (hww.mp z)
          refine Or.inl ⟨hax (fun t' ht' _ => ?_), hr true t (x + 1) p q' j k ht hx1 w2 ?_⟩
          · by_cases e : (l : Int) - i - ((q' : Int) - (p : Int)) < (l : Int) - i - (k - j)
            · exact Or.inl e
            · exact Or.inr ⟨by omega, Or.inl ⟨by rw [wF]; exact hwx, (wF _).mpr (hFt t' ht').2.2.2⟩⟩
          · by_cases e : (q' : Int) - p - (k - j) < (l : Int) - i - (k - j)
            · exact Or.inl e
            · exact Or.inr ⟨by omega, Or.inr ⟨by rw [wT, wF]; exact hww.symm, rfl, Or.inl (by omega)⟩⟩
