/-! pure: the class lays one row of a yield -/
def gJ (g : Int) (h : Nat) : Int := if g = 0 then -1 else (h : Int)
def gK (g : Int) (h l i y : Nat) : Int := if g = 0 then -1 else (h : Int) + (l : Int) - (i : Int) - (y : Int)
def lT (g : Int) (i y n : Nat) : Nat := if g = 0 then i + y else n
def lH (g : Int) (i y : Nat) : Nat := if g = 0 then i else i + y
theorem s_V {g : Int} {i l h y n : Nat} (hg : g = 0 ∨ g = 1) (h1 : i + y ≤ n) (h2 : (i : Int) + y + g ≤ l) (h3 : l ≤ lT g i y n) (h4 : i ≤ h) (h5 : h ≤ lH g i y) : Vt g i (gJ g h) (gK g h l i y) l n ∧ (l : Int) - i - (gK g h l i y - gJ g h) = (y : Int) := by
  unfold gJ gK lT lH at *
  unfold Vt
  rcases hg with q | q
  · rw [if_pos q, if_pos q] at *
    omega
  · rw [if_neg (by omega), if_neg (by omega)] at *
    omega
theorem s_S {g : Int} {i l y n : Nat} {j k : Int} (hv : Vt g i j k l n) (hy : (l : Int) - i - (k - j) = (y : Int)) : ∃ h, i + y ≤ n ∧ (i : Int) + y + g ≤ l ∧ l ≤ lT g i y n ∧ i ≤ h ∧ h ≤ lH g i y ∧ j = gJ g h ∧ k = gK g h l i y := by
  obtain ⟨v1, v2, v3⟩ := hv
  unfold gJ gK lT lH
  rcases v3 with z | z
  · refine ⟨i, ?_⟩
    rw [if_pos z.1, if_pos z.1, if_pos z.1, if_pos z.1]
    omega
  · refine ⟨j.toNat, ?_⟩
    have g0 : ¬ g = 0 := by omega
    rw [if_neg g0, if_neg g0, if_neg g0, if_neg g0]
    omega
def Own (A : Nat) (g : Int) (r y n a b : Nat) : Prop := a = A ∧ ∃ (i l : Nat) (j k : Int), Vt g i j k l n ∧ (l : Int) - i - (k - j) = (y : Int) ∧ b = 330 * r + atF i j k l
def Lay (A : Nat) (g : Int) (r y n : Nat) (σ σ' : St) : Prop := (∀ a b, ¬ Own A g r y n a b → σ' a b = σ a b) ∧ CB σ'
abbrev Bf (i' l' h' i l h : Nat) : Prop := i' < i ∨ (i' = i ∧ (l' < l ∨ (l' = l ∧ h' < h)))
def Dn (A : Nat) (v : Nat → Int → Int → Nat → Int) (g : Int) (r y n : Nat) (σ : St) (i l h : Nat) : Prop := ∀ i' l' h' : Nat, i' + y ≤ n → (i' : Int) + y + g ≤ l' → l' ≤ lT g i' y n → i' ≤ h' → h' ≤ lH g i' y → Bf i' l' h' i l h → σ A (330 * r + atF i' (gJ g h') (gK g h' l' i' y) l') = v i' (gJ g h') (gK g h' l' i' y) l'
theorem CB_su {σ : St} {a b : Nat} {v : Int} (h : CB σ) (hv : 0 ≤ v ∧ v ≤ 1000000000) : CB (su σ a b v) := by
  intro k
  have hk := h k
  refine ⟨?_, ?_, ?_, ?_⟩
  all_goals
    unfold su
    split
    · split
      · exact hv
      · first | exact hk.1 | exact hk.2.1 | exact hk.2.2.1 | exact hk.2.2.2
    · first | exact hk.1 | exact hk.2.1 | exact hk.2.2.1 | exact hk.2.2.2
theorem Dn_step {A : Nat} {v : Nat → Int → Int → Nat → Int} {g : Int} {r y n : Nat} {σ0 σ : St} {i l h : Nat} (hn : n ≤ 8) (hg : g = 0 ∨ g = 1) (h1 : i + y ≤ n) (h2 : (i : Int) + y + g ≤ l) (h3 : l ≤ lT g i y n) (h4 : i ≤ h) (h5 : h ≤ lH g i y) (hL : Lay A g r y n σ0 σ) (hD : Dn A v g r y n σ i l h) (hV : 0 ≤ v i (gJ g h) (gK g h l i y) l ∧ v i (gJ g h) (gK g h l i y) l ≤ 1000000000) :
    Lay A g r y n σ0 (su σ A (330 * r + atF i (gJ g h) (gK g h l i y) l) (v i (gJ g h) (gK g h l i y) l)) ∧ Dn A v g r y n (su σ A (330 * r + atF i (gJ g h) (gK g h l i y) l) (v i (gJ g h) (gK g h l i y) l)) i l (h + 1) := by
  have sv := s_V hg h1 h2 h3 h4 h5
  refine ⟨⟨fun a b hab => ?_, CB_su hL.2 hV⟩, fun i' l' h' q1 q2 q3 q4 q5 qb => ?_⟩
  · rw [su_ko _ _ (fun z => hab ⟨z.1, i, l, _, _, sv.1, sv.2, z.2⟩)]
    exact hL.1 a b hab
  · have sv' := s_V hg q1 q2 q3 q4 q5
    by_cases e : atF i' (gJ g h') (gK g h' l' i' y) l' = atF i (gJ g h) (gK g h l i y) l
    · obtain ⟨w1, w2, w3, w4⟩ := at_inj sv'.1 hn sv.1 hn e
      rw [w2, w3]
      subst w1 w4
      rw [su_at]
    · rw [su_ko _ _ (fun z => e (by omega))]
      refine hD i' l' h' q1 q2 q3 q4 q5 ?_
      by_cases w : i' = i ∧ l' = l ∧ h' = h
      · obtain ⟨rfl, rfl, rfl⟩ := w
        exact absurd rfl e
      · unfold Bf at qb ⊢
        omega
theorem Dn_to {A : Nat} {v : Nat → Int → Int → Nat → Int} {g : Int} {r y n : Nat} {σ : St} {i l h : Nat} (hh : h = lH g i y + 1) (hD : Dn A v g r y n σ i l h) : Dn A v g r y n σ i (l + 1) i := by
  intro i' l' h' q1 q2 q3 q4 q5 qb
  refine hD i' l' h' q1 q2 q3 q4 q5 ?_
  unfold Bf at qb ⊢
  by_cases e : i' = i
  · subst e; omega
  · omega
theorem Dn_fr {A : Nat} {v : Nat → Int → Int → Nat → Int} {g : Int} {r y n : Nat} {σ : St} {i l : Nat} (hg : g = 0 ∨ g = 1) (hh : lT g i y n < l) (hD : Dn A v g r y n σ i l i) : Dn A v g r y n σ (i + 1) (i + 1 + y) (i + 1) := by
  intro i' l' h' q1 q2 q3 q4 q5 qb
  refine hD i' l' h' q1 q2 q3 q4 q5 ?_
  unfold Bf at qb ⊢
  by_cases e : i' = i
  · subst e; omega
  · omega
theorem Dn_st {A : Nat} {v : Nat → Int → Int → Nat → Int} {g : Int} {r y n : Nat} {σ : St} {i : Nat} (hg : g = 0 ∨ g = 1) (hD : Dn A v g r y n σ i (i + y) i) : Dn A v g r y n σ i (i + y + g.toNat) i := by
  intro i' l' h' q1 q2 q3 q4 q5 qb
  refine hD i' l' h' q1 q2 q3 q4 q5 ?_
  unfold Bf at qb ⊢
  by_cases e : i' = i
  · subst e; omega
  · omega
theorem sp_lay0 {σ : St} {Q : St → Prop} {v : Nat → Int → Int → Nat → Int} {g : Int} {t x y n : Nat} {a1 : Int} (ht : t < 16) (hx : x < 12) (hg : g = 0 ∨ g = 1) (hc : cc σ (12 * t + x) 6 = g) (hl : 0 ≤ cc σ (12 * t + x) 9 ∧ cc σ (12 * t + x) 9 ≤ 5000) (hyn : y ≤ n) (hn : n ≤ 8) (h17 : σ 17 0 = (n : Int)) (hB : CB σ) (h1 : a1 = ((12 * t + x : Nat) : Int))
    (hV : ∀ (i l : Nat) (j k : Int), Vt g i j k l n → (l : Int) - i - (k - j) = (y : Int) → 0 ≤ v i j k l ∧ v i j k l ≤ 1000000000)
    (hZ : (y : Int) < cc σ (12 * t + x) 9 → ∀ (i l : Nat) (j k : Int), Vt g i j k l n → (l : Int) - i - (k - j) = (y : Int) → v i j k l = 0)
    (hE : cc σ (12 * t + x) 9 ≤ (y : Int) → ∀ (σ' : St) (i l : Nat) (j k : Int), Lay 19 g (12 * t + x) y n σ σ' → Vt g i j k l n → (l : Int) - i - (k - j) = (y : Int) → ∀ R : Int → St → Prop, R (v i j k l) σ' → wp_X0_reckonNode a1 (i : Int) (l : Int) j k R σ')
    (h : ∀ σ', Lay 19 g (12 * t + x) y n σ σ' → (∀ (i l : Nat) (j k : Int), Vt g i j k l n → (l : Int) - i - (k - j) = (y : Int) → cT σ' false (12 * t + x) i j k l = v i j k l) → Q σ') : wp_X0_lay a1 (y : Int) 0 Q σ := by
  have body : ∀ ps : Int, (ps = 0 ∧ (y : Int) < cc σ (12 * t + x) 9) ∨ (ps = 1 ∧ cc σ (12 * t + x) 9 ≤ (y : Int)) → wp_X0_lay_B38_1 a1 (y : Int) 0 ps Q σ := by
    intro ps hps
    have wps : w32 ps = ps := by rcases hps with z | z <;> rw [z.1] <;> decide
    have hole : ∀ (K57 : Int → Int → Int → Int → Int → Int → St → Prop) (K95 : Int → Int → Int → Int → Int → Int → Int → Int → St → Prop) (i l : Nat), i + y ≤ n → (i : Int) + y + g ≤ l → l ≤ lT g i y n → l ≤ n →
        (∀ σ'', Lay 19 g (12 * t + x) y n σ σ'' → Dn 19 v g (12 * t + x) y n σ'' i (l + 1) i → K95 a1 (y : Int) 0 ps g (i : Int) ((lT g i y n : Nat) : Int) ((l + 1 : Nat) : Int) σ'') →
        ∀ (m hh : Nat) (σ' : St), lH g i y + 1 - hh = m → i ≤ hh → hh ≤ lH g i y + 1 → Lay 19 g (12 * t + x) y n σ σ' → Dn 19 v g (12 * t + x) y n σ' i l hh → wp_X0_lay_L122_1 K57 K95 Q (m + 1) a1 (y : Int) 0 ps g (i : Int) ((lT g i y n : Nat) : Int) (l : Int) ((lH g i y : Nat) : Int) (hh : Int) σ' := by
      intro K57 K95 i l r1 r2 r3 r3' hK m
      have lhb : lH g i y ≤ i + y := by unfold lH; split <;> omega
      induction m with
      | zero =>
        intro hh σ' e1 e2 e3 hL hD
        unfold wp_X0_lay_L122_1
        rw [w32_id (show -2147483648 ≤ ((lH g i y : Nat) : Int) by omega) (by omega), w32_id (show -2147483648 ≤ (hh : Int) by omega) (by omega)]
        refine ⟨fun _ x_1 ex => ?_, fun z => by omega⟩
        rw [ex, show (l : Int) + 1 = ((l + 1 : Nat) : Int) by omega]
        exact hK σ' hL (Dn_to (by omega) hD)
      | succ m ih =>
        intro hh σ' e1 e2 e3 hL hD
        unfold wp_X0_lay_L122_1
        rw [w32_id (show -2147483648 ≤ ((lH g i y : Nat) : Int) by omega) (by omega), w32_id (show -2147483648 ≤ (hh : Int) by omega) (by omega)]
        refine ⟨fun z => by omega, fun _ => ?_⟩
        have sv := s_V hg r1 r2 r3 e2 (show hh ≤ lH g i y by omega)
        have st := Dn_step hn hg r1 r2 r3 e2 (show hh ≤ lH g i y by omega) hL hD (hV _ _ _ _ sv.1 sv.2)
        have main : wp_X0_lay_B161_1 K57 K95 (fun z0 z1 z2 z3 z4 z5 z6 z7 z8 z9 σ => wp_X0_lay_L122_1 K57 K95 Q (m + 1) z0 z1 z2 z3 z4 z5 z6 z7 z8 z9 σ) a1 (y : Int) 0 ps g (i : Int) ((lT g i y n : Nat) : Int) (l : Int) ((lH g i y : Nat) : Int) (hh : Int) (gJ g hh) (gK g hh l i y) Q σ' := by
          unfold wp_X0_lay_B161_1
          refine sp_at sv.1 hn rfl rfl ?_
          have b := row_ix (show 12 * t + x < 192 by omega) (at_lt sv.1 hn).1
          have put : ∀ z : Int, z = v i (gJ g hh) (gK g hh l i y) l → wp_X0_lay_B224_1 K57 K95 (fun z0 z1 z2 z3 z4 z5 z6 z7 z8 z9 σ => wp_X0_lay_L122_1 K57 K95 Q (m + 1) z0 z1 z2 z3 z4 z5 z6 z7 z8 z9 σ) a1 (y : Int) 0 ps g (i : Int) ((lT g i y n : Nat) : Int) (l : Int) ((lH g i y : Nat) : Int) (hh : Int) (a1 * 330 + ((atF i (gJ g hh) (gK g hh l i y) l : Nat) : Int)) z Q σ' := by
            intro z hz
            unfold wp_X0_lay_B224_1
            rw [h1]
            refine ⟨b.1, fun σ1 e σx ex => ?_⟩
            rw [e, b.2, hz, ex, show (hh : Int) + 1 = ((hh + 1 : Nat) : Int) by omega, ← h1]
            exact ih (hh + 1) _ (by omega) (by omega) (by omega) st.1 st.2
          rw [wps]
          refine ⟨fun z => ?_, fun z => put 0 (hZ ?_ i l _ _ sv.1 sv.2).symm⟩
          · rcases hps with w | w
            · exact absurd w.1 z
            · refine ⟨fun y9 => absurd w32_0 y9, fun _ => ?_⟩
              exact hE w.2 σ' i l _ _ hL sv.1 sv.2 _ (put _ rfl)
          · rcases hps with w | w
            · exact w.2
            · rw [w.1] at z; exact absurd z (by decide)
        unfold wp_X0_lay_B140_1
        unfold gJ gK at main
        rcases hg with q | q
        · rw [if_pos q, if_pos q] at main
          rw [q] at main ⊢
          exact ⟨fun z => absurd w32_0 z, fun _ => ⟨fun z => absurd w32_0 z, fun _ => main⟩⟩
        · rw [if_neg (by omega), if_neg (by omega)] at main
          rw [q] at main ⊢
          exact ⟨fun _ => ⟨fun _ => main, fun z => absurd z (by decide)⟩, fun z => absurd z (by decide)⟩
    have toL : ∀ (K57 : Int → Int → Int → Int → Int → Int → St → Prop) (i : Nat), i + y ≤ n →
        (∀ σ'', Lay 19 g (12 * t + x) y n σ σ'' → Dn 19 v g (12 * t + x) y n σ'' (i + 1) (i + 1 + y) (i + 1) → K57 a1 (y : Int) 0 ps g ((i + 1 : Nat) : Int) σ'') →
        ∀ (m l : Nat) (σ' : St), lT g i y n + 1 - l = m → (i : Int) + y + g ≤ l → l ≤ lT g i y n + 1 → Lay 19 g (12 * t + x) y n σ σ' → Dn 19 v g (12 * t + x) y n σ' i l i → wp_X0_lay_L95_1 K57 Q (m + 1) a1 (y : Int) 0 ps g (i : Int) ((lT g i y n : Nat) : Int) (l : Int) σ' := by
      intro K57 i r1 hK m
      have ltb : lT g i y n ≤ n := by unfold lT; split <;> omega
      induction m with
      | zero =>
        intro l σ' e1 e2 e3 hL hD
        unfold wp_X0_lay_L95_1
        rw [w32_id (show -2147483648 ≤ ((lT g i y n : Nat) : Int) by omega) (by omega), w32_id (show -2147483648 ≤ (l : Int) by omega) (by omega)]
        refine ⟨fun _ x_1 ex => ?_, fun z => by omega⟩
        rw [ex, show (i : Int) + 1 = ((i + 1 : Nat) : Int) by omega]
        exact hK σ' hL (Dn_fr hg (by omega) hD)
      | succ m ih =>
        intro l σ' e1 e2 e3 hL hD
        unfold wp_X0_lay_L95_1
        rw [w32_id (show -2147483648 ≤ ((lT g i y n : Nat) : Int) by omega) (by omega), w32_id (show -2147483648 ≤ (l : Int) by omega) (by omega)]
        refine ⟨fun z => by omega, fun _ => ?_⟩
        have main := hole K57 (fun z0 z1 z2 z3 z4 z5 z6 z7 σ => wp_X0_lay_L95_1 K57 Q (m + 1) z0 z1 z2 z3 z4 z5 z6 z7 σ) i l r1 e2 (by omega) (by omega) (fun σ'' a b => ih (l + 1) σ'' (by omega) (by omega) (by omega) a b) (lH g i y + 1 - i) i σ' rfl (Nat.le_refl i) (by unfold lH; split <;> omega) hL hD
        unfold wp_X0_lay_B116_1
        rcases hg with q | q
        · have e : lH g i y = i := by unfold lH; rw [if_pos q]
          rw [e] at main
          rw [q] at main ⊢
          exact ⟨fun z => absurd w32_0 z, fun _ => ⟨_, main⟩⟩
        · have e : lH g i y = i + y := by unfold lH; rw [if_neg (by omega)]
          rw [e] at main
          rw [q] at main ⊢
          rw [show ((i : Int) + (y : Int)) = ((i + y : Nat) : Int) by omega]
          exact ⟨fun _ => ⟨_, main⟩, fun z => absurd z (by decide)⟩
    have frL : ∀ (m i : Nat) (σ' : St), n + 1 - y - i = m → i + y ≤ n + 1 → Lay 19 g (12 * t + x) y n σ σ' → Dn 19 v g (12 * t + x) y n σ' i (i + y) i → wp_X0_lay_L57_1 Q (m + 1) a1 (y : Int) 0 ps g (i : Int) σ' := by
      intro m
      induction m with
      | zero =>
        intro i σ' e1 e2 hL hD
        have e17 : σ' 17 0 = (n : Int) := by rw [hL.1 17 0 (fun z => by have := z.1; omega)]; exact h17
        unfold wp_X0_lay_L57_1
        rw [e17, w32_id (show -2147483648 ≤ (n : Int) by omega) (by omega), w32_id (show -2147483648 ≤ (i : Int) + (y : Int) by omega) (by omega)]
        refine ⟨fun _ => h σ' hL (fun i' l' j' k' hv hy => ?_), fun z => by omega⟩
        obtain ⟨h', q1, q2, q3, q4, q5, q6, q7⟩ := s_S hv hy
        have := hD i' l' h' q1 q2 q3 q4 q5 (Or.inl (by omega))
        rw [← q6, ← q7] at this
        exact this
      | succ m ih =>
        intro i σ' e1 e2 hL hD
        have e17 : σ' 17 0 = (n : Int) := by rw [hL.1 17 0 (fun z => by have := z.1; omega)]; exact h17
        unfold wp_X0_lay_L57_1
        rw [e17, w32_id (show -2147483648 ≤ (n : Int) by omega) (by omega), w32_id (show -2147483648 ≤ (i : Int) + (y : Int) by omega) (by omega)]
        refine ⟨fun z => by omega, fun _ => ?_⟩
        have main := toL (fun z0 z1 z2 z3 z4 z5 σ => wp_X0_lay_L57_1 Q (m + 1) z0 z1 z2 z3 z4 z5 σ) i (by omega) (fun σ'' a b => ih (i + 1) σ'' (by omega) (by omega) a b) (lT g i y n + 1 - (i + y + g.toNat)) (i + y + g.toNat) σ' rfl (by omega) (by unfold lT; split <;> omega) hL (Dn_st hg hD)
        unfold wp_X0_lay_B84_1
        have ex0 : ((i : Int) + (y : Int)) + g = ((i + y + g.toNat : Nat) : Int) := by omega
        rcases hg with q | q
        · have e : lT g i y n = i + y := by unfold lT; rw [if_pos q]
          rw [e] at main
          refine ⟨fun z => absurd (by rw [q]; exact w32_0) z, fun _ x_1 ex => ?_⟩
          rw [ex, ex0, show ((i : Int) + (y : Int)) = ((i + y : Nat) : Int) by omega]
          exact ⟨_, main⟩
        · have e : lT g i y n = n := by unfold lT; rw [if_neg (by omega)]
          rw [e] at main
          refine ⟨fun _ x_1 ex => ?_, fun z => absurd z (by rw [q]; decide)⟩
          rw [ex, ex0]
          exact ⟨_, main⟩
    have go := frL (n + 1 - y - 0) 0 σ rfl (by omega) ⟨fun _ _ _ => rfl, hB⟩ (fun i' l' h' q1 q2 q3 q4 q5 qb => by unfold Bf at qb; unfold lT at q3; unfold lH at q5; rcases hg with z | z; rw [if_pos z] at q3 q5; omega; rw [if_neg (by omega)] at q3 q5; omega)
    unfold wp_X0_lay_B38_1
    have ew : nd σ t x 6 = g := hc
    refine sp_cell (t := t) (x := x) (w := 6) h1 rfl (by omega) (by omega) (by omega) ?_
    rw [ew]
    exact ⟨_, go⟩
  unfold wp_X0_lay
  refine ⟨fun z => absurd w32_0 z, fun _ => ?_⟩
  unfold wp_X0_lay_B15_1
  refine sp_cell (t := t) (x := x) (w := 9) h1 rfl (by omega) (by omega) (by omega) ?_
  have el : nd σ t x 9 = cc σ (12 * t + x) 9 := rfl
  rw [el, w32_id (show -2147483648 ≤ (y : Int) by omega) (by omega), w32_id (show -2147483648 ≤ cc σ (12 * t + x) 9 by omega) (by omega)]
  exact ⟨fun z => body 0 (Or.inl ⟨rfl, z⟩), fun z => body 1 (Or.inr ⟨rfl, by omega⟩)⟩
theorem sp_lay1 {σ : St} {Q : St → Prop} {v : Nat → Int → Int → Nat → Int} {g : Int} {t x y n : Nat} {a1 : Int} (ht : t < 16) (hx : x < 12) (hg : g = 0 ∨ g = 1) (hc : cc σ (12 * t + x) 7 = g) (hl : 0 ≤ cc σ (12 * t + x) 10 ∧ cc σ (12 * t + x) 10 ≤ 5000) (hyn : y ≤ n) (hn : n ≤ 8) (h17 : σ 17 0 = (n : Int)) (hB : CB σ) (h1 : a1 = ((12 * t + x : Nat) : Int))
    (hV : ∀ (i l : Nat) (j k : Int), Vt g i j k l n → (l : Int) - i - (k - j) = (y : Int) → 0 ≤ v i j k l ∧ v i j k l ≤ 1000000000)
    (hZ : (y : Int) < cc σ (12 * t + x) 10 → ∀ (i l : Nat) (j k : Int), Vt g i j k l n → (l : Int) - i - (k - j) = (y : Int) → v i j k l = 0)
    (hE : cc σ (12 * t + x) 10 ≤ (y : Int) → ∀ (σ' : St) (i l : Nat) (j k : Int), Lay 20 g (12 * t + x) y n σ σ' → Vt g i j k l n → (l : Int) - i - (k - j) = (y : Int) → ∀ R : Int → St → Prop, R (v i j k l) σ' → wp_X0_reckonOnward a1 (i : Int) (l : Int) j k R σ')
    (h : ∀ σ', Lay 20 g (12 * t + x) y n σ σ' → (∀ (i l : Nat) (j k : Int), Vt g i j k l n → (l : Int) - i - (k - j) = (y : Int) → cT σ' true (12 * t + x) i j k l = v i j k l) → Q σ') : wp_X0_lay a1 (y : Int) 3 Q σ := by
  have body : ∀ ps : Int, (ps = 0 ∧ (y : Int) < cc σ (12 * t + x) 10) ∨ (ps = 1 ∧ cc σ (12 * t + x) 10 ≤ (y : Int)) → wp_X0_lay_B38 a1 (y : Int) 3 ps Q σ := by
    intro ps hps
    have wps : w32 ps = ps := by rcases hps with z | z <;> rw [z.1] <;> decide
    have hole : ∀ (K57 : Int → Int → Int → Int → Int → Int → St → Prop) (K95 : Int → Int → Int → Int → Int → Int → Int → Int → St → Prop) (i l : Nat), i + y ≤ n → (i : Int) + y + g ≤ l → l ≤ lT g i y n → l ≤ n →
        (∀ σ'', Lay 20 g (12 * t + x) y n σ σ'' → Dn 20 v g (12 * t + x) y n σ'' i (l + 1) i → K95 a1 (y : Int) 3 ps g (i : Int) ((lT g i y n : Nat) : Int) ((l + 1 : Nat) : Int) σ'') →
        ∀ (m hh : Nat) (σ' : St), lH g i y + 1 - hh = m → i ≤ hh → hh ≤ lH g i y + 1 → Lay 20 g (12 * t + x) y n σ σ' → Dn 20 v g (12 * t + x) y n σ' i l hh → wp_X0_lay_L122 K57 K95 Q (m + 1) a1 (y : Int) 3 ps g (i : Int) ((lT g i y n : Nat) : Int) (l : Int) ((lH g i y : Nat) : Int) (hh : Int) σ' := by
      intro K57 K95 i l r1 r2 r3 r3' hK m
      have lhb : lH g i y ≤ i + y := by unfold lH; split <;> omega
      induction m with
      | zero =>
        intro hh σ' e1 e2 e3 hL hD
        unfold wp_X0_lay_L122
        rw [w32_id (show -2147483648 ≤ ((lH g i y : Nat) : Int) by omega) (by omega), w32_id (show -2147483648 ≤ (hh : Int) by omega) (by omega)]
        refine ⟨fun _ x_1 ex => ?_, fun z => by omega⟩
        rw [ex, show (l : Int) + 1 = ((l + 1 : Nat) : Int) by omega]
        exact hK σ' hL (Dn_to (by omega) hD)
      | succ m ih =>
        intro hh σ' e1 e2 e3 hL hD
        unfold wp_X0_lay_L122
        rw [w32_id (show -2147483648 ≤ ((lH g i y : Nat) : Int) by omega) (by omega), w32_id (show -2147483648 ≤ (hh : Int) by omega) (by omega)]
        refine ⟨fun z => by omega, fun _ => ?_⟩
        have sv := s_V hg r1 r2 r3 e2 (show hh ≤ lH g i y by omega)
        have st := Dn_step hn hg r1 r2 r3 e2 (show hh ≤ lH g i y by omega) hL hD (hV _ _ _ _ sv.1 sv.2)
        have main : wp_X0_lay_B161 K57 K95 (fun z0 z1 z2 z3 z4 z5 z6 z7 z8 z9 σ => wp_X0_lay_L122 K57 K95 Q (m + 1) z0 z1 z2 z3 z4 z5 z6 z7 z8 z9 σ) a1 (y : Int) 3 ps g (i : Int) ((lT g i y n : Nat) : Int) (l : Int) ((lH g i y : Nat) : Int) (hh : Int) (gJ g hh) (gK g hh l i y) Q σ' := by
          unfold wp_X0_lay_B161
          refine sp_at sv.1 hn rfl rfl ?_
          have b := row_ix (show 12 * t + x < 192 by omega) (at_lt sv.1 hn).1
          have put : ∀ z : Int, z = v i (gJ g hh) (gK g hh l i y) l → wp_X0_lay_B224 K57 K95 (fun z0 z1 z2 z3 z4 z5 z6 z7 z8 z9 σ => wp_X0_lay_L122 K57 K95 Q (m + 1) z0 z1 z2 z3 z4 z5 z6 z7 z8 z9 σ) a1 (y : Int) 3 ps g (i : Int) ((lT g i y n : Nat) : Int) (l : Int) ((lH g i y : Nat) : Int) (hh : Int) (a1 * 330 + ((atF i (gJ g hh) (gK g hh l i y) l : Nat) : Int)) z Q σ' := by
            intro z hz
            unfold wp_X0_lay_B224
            rw [h1]
            refine ⟨b.1, fun σ1 e σx ex => ?_⟩
            rw [e, b.2, hz, ex, show (hh : Int) + 1 = ((hh + 1 : Nat) : Int) by omega, ← h1]
            exact ih (hh + 1) _ (by omega) (by omega) (by omega) st.1 st.2
          rw [wps]
          refine ⟨fun z => ?_, fun z => put 0 (hZ ?_ i l _ _ sv.1 sv.2).symm⟩
          · rcases hps with w | w
            · exact absurd w.1 z
            · refine ⟨fun _ => ?_, fun y9 => absurd y9 (by decide)⟩
              exact hE w.2 σ' i l _ _ hL sv.1 sv.2 _ (put _ rfl)
          · rcases hps with w | w
            · exact w.2
            · rw [w.1] at z; exact absurd z (by decide)
        unfold wp_X0_lay_B140
        unfold gJ gK at main
        rcases hg with q | q
        · rw [if_pos q, if_pos q] at main
          rw [q] at main ⊢
          exact ⟨fun z => absurd w32_0 z, fun _ => ⟨fun z => absurd w32_0 z, fun _ => main⟩⟩
        · rw [if_neg (by omega), if_neg (by omega)] at main
          rw [q] at main ⊢
          exact ⟨fun _ => ⟨fun _ => main, fun z => absurd z (by decide)⟩, fun z => absurd z (by decide)⟩
    have toL : ∀ (K57 : Int → Int → Int → Int → Int → Int → St → Prop) (i : Nat), i + y ≤ n →
        (∀ σ'', Lay 20 g (12 * t + x) y n σ σ'' → Dn 20 v g (12 * t + x) y n σ'' (i + 1) (i + 1 + y) (i + 1) → K57 a1 (y : Int) 3 ps g ((i + 1 : Nat) : Int) σ'') →
        ∀ (m l : Nat) (σ' : St), lT g i y n + 1 - l = m → (i : Int) + y + g ≤ l → l ≤ lT g i y n + 1 → Lay 20 g (12 * t + x) y n σ σ' → Dn 20 v g (12 * t + x) y n σ' i l i → wp_X0_lay_L95 K57 Q (m + 1) a1 (y : Int) 3 ps g (i : Int) ((lT g i y n : Nat) : Int) (l : Int) σ' := by
      intro K57 i r1 hK m
      have ltb : lT g i y n ≤ n := by unfold lT; split <;> omega
      induction m with
      | zero =>
        intro l σ' e1 e2 e3 hL hD
        unfold wp_X0_lay_L95
        rw [w32_id (show -2147483648 ≤ ((lT g i y n : Nat) : Int) by omega) (by omega), w32_id (show -2147483648 ≤ (l : Int) by omega) (by omega)]
        refine ⟨fun _ x_1 ex => ?_, fun z => by omega⟩
        rw [ex, show (i : Int) + 1 = ((i + 1 : Nat) : Int) by omega]
        exact hK σ' hL (Dn_fr hg (by omega) hD)
      | succ m ih =>
        intro l σ' e1 e2 e3 hL hD
        unfold wp_X0_lay_L95
        rw [w32_id (show -2147483648 ≤ ((lT g i y n : Nat) : Int) by omega) (by omega), w32_id (show -2147483648 ≤ (l : Int) by omega) (by omega)]
        refine ⟨fun z => by omega, fun _ => ?_⟩
        have main := hole K57 (fun z0 z1 z2 z3 z4 z5 z6 z7 σ => wp_X0_lay_L95 K57 Q (m + 1) z0 z1 z2 z3 z4 z5 z6 z7 σ) i l r1 e2 (by omega) (by omega) (fun σ'' a b => ih (l + 1) σ'' (by omega) (by omega) (by omega) a b) (lH g i y + 1 - i) i σ' rfl (Nat.le_refl i) (by unfold lH; split <;> omega) hL hD
        unfold wp_X0_lay_B116
        rcases hg with q | q
        · have e : lH g i y = i := by unfold lH; rw [if_pos q]
          rw [e] at main
          rw [q] at main ⊢
          exact ⟨fun z => absurd w32_0 z, fun _ => ⟨_, main⟩⟩
        · have e : lH g i y = i + y := by unfold lH; rw [if_neg (by omega)]
          rw [e] at main
          rw [q] at main ⊢
          rw [show ((i : Int) + (y : Int)) = ((i + y : Nat) : Int) by omega]
          exact ⟨fun _ => ⟨_, main⟩, fun z => absurd z (by decide)⟩
    have frL : ∀ (m i : Nat) (σ' : St), n + 1 - y - i = m → i + y ≤ n + 1 → Lay 20 g (12 * t + x) y n σ σ' → Dn 20 v g (12 * t + x) y n σ' i (i + y) i → wp_X0_lay_L57 Q (m + 1) a1 (y : Int) 3 ps g (i : Int) σ' := by
      intro m
      induction m with
      | zero =>
        intro i σ' e1 e2 hL hD
        have e17 : σ' 17 0 = (n : Int) := by rw [hL.1 17 0 (fun z => by have := z.1; omega)]; exact h17
        unfold wp_X0_lay_L57
        rw [e17, w32_id (show -2147483648 ≤ (n : Int) by omega) (by omega), w32_id (show -2147483648 ≤ (i : Int) + (y : Int) by omega) (by omega)]
        refine ⟨fun _ => h σ' hL (fun i' l' j' k' hv hy => ?_), fun z => by omega⟩
        obtain ⟨h', q1, q2, q3, q4, q5, q6, q7⟩ := s_S hv hy
        have := hD i' l' h' q1 q2 q3 q4 q5 (Or.inl (by omega))
        rw [← q6, ← q7] at this
        exact this
      | succ m ih =>
        intro i σ' e1 e2 hL hD
        have e17 : σ' 17 0 = (n : Int) := by rw [hL.1 17 0 (fun z => by have := z.1; omega)]; exact h17
        unfold wp_X0_lay_L57
        rw [e17, w32_id (show -2147483648 ≤ (n : Int) by omega) (by omega), w32_id (show -2147483648 ≤ (i : Int) + (y : Int) by omega) (by omega)]
        refine ⟨fun z => by omega, fun _ => ?_⟩
        have main := toL (fun z0 z1 z2 z3 z4 z5 σ => wp_X0_lay_L57 Q (m + 1) z0 z1 z2 z3 z4 z5 σ) i (by omega) (fun σ'' a b => ih (i + 1) σ'' (by omega) (by omega) a b) (lT g i y n + 1 - (i + y + g.toNat)) (i + y + g.toNat) σ' rfl (by omega) (by unfold lT; split <;> omega) hL (Dn_st hg hD)
        unfold wp_X0_lay_B84
        have ex0 : ((i : Int) + (y : Int)) + g = ((i + y + g.toNat : Nat) : Int) := by omega
        rcases hg with q | q
        · have e : lT g i y n = i + y := by unfold lT; rw [if_pos q]
          rw [e] at main
          refine ⟨fun z => absurd (by rw [q]; exact w32_0) z, fun _ x_1 ex => ?_⟩
          rw [ex, ex0, show ((i : Int) + (y : Int)) = ((i + y : Nat) : Int) by omega]
          exact ⟨_, main⟩
        · have e : lT g i y n = n := by unfold lT; rw [if_neg (by omega)]
          rw [e] at main
          refine ⟨fun _ x_1 ex => ?_, fun z => absurd z (by rw [q]; decide)⟩
          rw [ex, ex0]
          exact ⟨_, main⟩
    have go := frL (n + 1 - y - 0) 0 σ rfl (by omega) ⟨fun _ _ _ => rfl, hB⟩ (fun i' l' h' q1 q2 q3 q4 q5 qb => by unfold Bf at qb; unfold lT at q3; unfold lH at q5; rcases hg with z | z; rw [if_pos z] at q3 q5; omega; rw [if_neg (by omega)] at q3 q5; omega)
    unfold wp_X0_lay_B38
    have ew : nd σ t x 7 = g := hc
    refine sp_cell (t := t) (x := x) (w := 7) h1 rfl (by omega) (by omega) (by omega) ?_
    rw [ew]
    exact ⟨_, go⟩
  unfold wp_X0_lay
  refine ⟨fun _ => ?_, fun z => absurd z (by decide)⟩
  unfold wp_X0_lay_B15
  refine sp_cell (t := t) (x := x) (w := 10) h1 rfl (by omega) (by omega) (by omega) ?_
  have el : nd σ t x 10 = cc σ (12 * t + x) 10 := rfl
  rw [el, w32_id (show -2147483648 ≤ (y : Int) by omega) (by omega), w32_id (show -2147483648 ≤ cc σ (12 * t + x) 10 by omega) (by omega)]
  exact ⟨fun z => body 0 (Or.inl ⟨rfl, z⟩), fun z => body 1 (Or.inr ⟨rfl, by omega⟩)⟩
