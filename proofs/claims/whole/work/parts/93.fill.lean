/-! pure: the class fills its chart -/
noncomputable def sdC (σ : St) (i : Nat) : Int := fndN (σ 9) (σ 8) (σ 15) 12 (σ 7 3).toNat (12 * i) (12 * i + (σ 16 i).toNat)
theorem sdC_r (σ : St) (i : Nat) (h : NmI σ 7 12 32) : -1 ≤ sdC σ i ∧ sdC σ i < 32 := by
  have h2 := h.2.2.1
  unfold sdC fndN
  rcases fndF_spec (fun k => σ 9 k = ((12 * i + (σ 16 i).toNat - 12 * i : Nat) : Int) ∧ eqAt (σ 8) (σ 15) (12 * k) (12 * i) (12 * i + (σ 16 i).toNat - 12 * i)) (σ 7 3).toNat 0 with z | ⟨j, z1, z2, z3, _⟩
  · rw [z.1]; omega
  · rw [z1]; omega
theorem sp_hear {σ : St} {Q : St → Prop} {n : Nat} (hn : n ≤ 8) (h143 : σ 14 3 = (n : Int)) (h7 : NmI σ 7 12 32) (h14 : NmI σ 14 12 8) (hs : ∀ d, d < 8 → -1 ≤ σ 18 d ∧ σ 18 d < 32)
    (h : ∀ σ' : St, (∀ a, a ≠ 17 → a ≠ 18 → σ' a = σ a) → (∀ b, b ≠ 0 → σ' 17 b = σ 17 b) → σ' 17 0 = (n : Int) → (∀ i, i < n → σ' 18 i = sdC σ i) → (∀ d, d < 8 → -1 ≤ σ' 18 d ∧ σ' 18 d < 32) → Q σ') : wp_X0_hear Q σ := by
  unfold wp_X0_hear
  intro σ1 e1
  have loop : ∀ (m i : Nat) (σ' : St), n - i = m → i ≤ n → (∀ a, a ≠ 17 → a ≠ 18 → σ' a = σ a) → (∀ b, b ≠ 0 → σ' 17 b = σ 17 b) → σ' 17 0 = (n : Int) → (∀ d, d < i → σ' 18 d = sdC σ d) → (∀ d, d < 8 → -1 ≤ σ' 18 d ∧ σ' 18 d < 32) → wp_X0_hear_L10 Q (m + 1) (i : Int) σ' := by
    intro m
    induction m with
    | zero =>
      intro i σ' hm hi f1 f2 f3 f4 f5
      unfold wp_X0_hear_L10
      rw [f3, w32_id (show -2147483648 ≤ (n : Int) by omega) (by omega), w32_id (show -2147483648 ≤ (i : Int) by omega) (by omega)]
      exact ⟨fun _ => h σ' f1 f2 f3 (fun d hd => f4 d (by omega)) f5, fun z => by omega⟩
    | succ m ih =>
      intro i σ' hm hi f1 f2 f3 f4 f5
      unfold wp_X0_hear_L10 wp_X2_begin
      rw [f3, w32_id (show -2147483648 ≤ (n : Int) by omega) (by omega), w32_id (show -2147483648 ≤ (i : Int) by omega) (by omega)]
      refine ⟨fun z => by omega, fun _ => ⟨by omega, ?_⟩⟩
      have g7 := f1 7 (by decide) (by decide)
      have g8 := f1 8 (by decide) (by decide)
      have g9 := f1 9 (by decide) (by decide)
      have g14 := f1 14 (by decide) (by decide)
      have g15 := f1 15 (by decide) (by decide)
      have g16 := f1 16 (by decide) (by decide)
      have n7 : NmI σ' 7 12 32 := by unfold NmI; rw [g7, show 7 + 2 = 9 from rfl, show 7 + 1 = 8 from rfl, g8, g9]; exact h7
      have l16 := h14.2.2.2.1 i
      rw [show 14 + 2 = 16 from rfl] at l16
      have b15 : By (σ' 15) := fun k => by rw [g15]; have := h14.2.2.2.2 k; rw [show 14 + 1 = 15 from rfl] at this; omega
      have e0 : σ' 14 0 = 12 := by rw [g14]; exact h14.1
      rw [e0, show ((i : Int)).toNat = i by omega, g16, show (i : Int) * 12 = ((12 * i : Nat) : Int) by omega, show ((12 * i : Nat) : Int) + σ 16 i = ((12 * i + (σ 16 i).toNat : Nat) : Int) by omega]
      refine sp_find (o := 7) (a := 15) (w := 12) (cap := 32) (la := 96) n7 b15 (by omega) (by omega) (by omega) (by omega) (by omega) ?_
      rw [show 7 + 2 = 9 from rfl, show 7 + 1 = 8 from rfl, g7, g8, g9, g15]
      refine ⟨by omega, fun σ5 e5 x_6 e6 => ?_⟩
      rw [e6, show (i : Int) + 1 = ((i + 1 : Nat) : Int) by omega]
      have r := sdC_r σ i h7
      refine ih (i + 1) σ5 (by omega) (by omega) (fun a q1 q2 => ?_) (fun b q => ?_) ?_ (fun d hd => ?_) (fun d hd => ?_)
      · rw [e5, su_o _ _ _ q2]; exact f1 a q1 q2
      · rw [e5, su_o _ _ _ (by decide)]; exact f2 b q
      · rw [e5, su_o _ _ _ (by decide)]; exact f3
      · rw [e5]
        by_cases e : d = i
        · subst e; rw [su_at]; rfl
        · rw [su_ko _ _ (by omega)]; exact f4 d (by omega)
      · rw [e5]
        by_cases e : d = i
        · subst e; rw [su_at]; exact r
        · rw [su_ko _ _ (by omega)]; exact f5 d hd
  exact ⟨_, loop n 0 σ1 (by omega) (by omega) (fun a q1 _ => by rw [e1, su_o _ _ _ q1]) (fun b q => by rw [e1, su_ko _ _ (by omega)]) (by rw [e1, su_at]; exact h143) (fun d hd => by omega) (by rw [e1, su_o _ _ _ (by decide)]; exact hs)⟩
theorem sp_jfill {σ : St} {Q : St → Prop} {A L : Nat} {v : Int} (hL : L ≤ 100000) (h : ∀ σ' : St, (∀ a, a ≠ A → σ' a = σ a) → (∀ k, k < L → σ' A k = v) → (∀ k, L ≤ k → σ' A k = σ A k) → Q σ') : wp_J7_fill_53178 A (L : Int) v Q σ := by
  have loop : ∀ (m i : Nat) (σ' : St), L - i = m → i ≤ L → (∀ a, a ≠ A → σ' a = σ a) → (∀ k, k < i → σ' A k = v) → (∀ k, L ≤ k → σ' A k = σ A k) → wp_J7_fill_53178_L5 A (L : Int) Q (m + 1) v (i : Int) (L : Int) σ' := by
    intro m
    induction m with
    | zero =>
      intro i σ' hm hi f1 f2 f3
      unfold wp_J7_fill_53178_L5
      rw [w32_id (show -2147483648 ≤ (L : Int) by omega) (by omega), w32_id (show -2147483648 ≤ (i : Int) by omega) (by omega)]
      exact ⟨fun _ => h σ' f1 (fun k hk => f2 k (by omega)) f3, fun z => by omega⟩
    | succ m ih =>
      intro i σ' hm hi f1 f2 f3
      unfold wp_J7_fill_53178_L5
      rw [w32_id (show -2147483648 ≤ (L : Int) by omega) (by omega), w32_id (show -2147483648 ≤ (i : Int) by omega) (by omega)]
      refine ⟨fun z => by omega, fun _ => ⟨by omega, fun σ1 e1 x_2 e2 => ?_⟩⟩
      rw [e2, show (i : Int) + 1 = ((i + 1 : Nat) : Int) by omega]
      rw [show ((i : Int)).toNat = i by omega] at e1
      refine ih (i + 1) σ1 (by omega) (by omega) (fun a q => by rw [e1, su_o _ _ _ q]; exact f1 a q) (fun k hk => ?_) (fun k hk => ?_)
      · rw [e1]
        by_cases e : k = i
        · subst e; rw [su_at]
        · rw [su_ko _ _ (by omega)]; exact f2 k (by omega)
      · rw [e1, su_ko _ _ (by omega)]; exact f3 k hk
  exact ⟨_, loop L 0 σ (by omega) (by omega) (fun _ _ => rfl) (fun k hk => by omega) (fun _ _ => rfl)⟩
theorem IA_up {c : Nat → Nat → Int} {N n y : Nat} {V : Tb} {σ : St} (h : IA c N n y N V σ) : IA c N n (y + 1) 0 V σ := by
  have e : ∀ (t : Nat) (i : Nat) (j k : Int) (l : Nat), t < N → Mk y N V false (12 * t) i j k l = Mk (y + 1) 0 V false (12 * t) i j k l := by
    intro t i j k l ht
    unfold Mk
    by_cases q : (l : Int) - i - (k - j) < ((y + 1 : Nat) : Int) ∨ ((l : Int) - i - (k - j) = ((y + 1 : Nat) : Int) ∧ 12 * t < 12 * 0)
    · rw [if_pos q, if_pos (by omega)]
    · rw [if_neg q, if_neg (by omega)]
  refine ⟨fun nm i l a b c' d => ?_, fun nm i p q l a b c' d e' f => ?_⟩
  · rw [h.1 nm i l a b c' d]
    congr 1
    exact sm_c _ (fun t ht => by rw [e t _ _ _ _ ht])
  · rw [h.2 nm i p q l a b c' d e' f]
    congr 1
    exact sm_c _ (fun t ht => by rw [e t _ _ _ _ ht])
theorem Vs_y {g : Int} {i l n : Nat} {j k : Int} (h : Vs g i j k l n) : 0 ≤ (l : Int) - i - (k - j) ∧ (l : Int) - i - (k - j) ≤ (n : Int) := by
  obtain ⟨h1, h2, h3⟩ := h
  rcases h3 with z | z <;> omega
/-- the chart is right -/
def RD (c : Nat → Nat → Int) (N : Nat) (sz : Nat → Nat) (sd : Nat → Int) (n : Nat) (σ : St) : Prop :=
  (∀ (o : Bool) (t x i l : Nat) (j k : Int), t < N → x < sz t → Vt (flg c o (12 * t + x)) i j k l n → cT σ o (12 * t + x) i j k l = VV c N sd o (12 * t + x) i j k l) ∧
  (∀ (nm : Int) (i l : Nat), 0 ≤ nm → nm < 16 → i ≤ l → l ≤ n → cI σ nm i l = cap (ini c N (VV c N sd) nm i l)) ∧
  (∀ (nm : Int) (i p q l : Nat), 0 ≤ nm → nm < 16 → i ≤ p → p < q → q ≤ l → l ≤ n → cA σ nm i p q l = cap (aux c N (VV c N sd) nm i p q l))
/-- the class counts the auxiliary trees by their labels -/
theorem sp_axl {σ : St} {Q : St → Prop} {N : Nat} (hN : N ≤ 16) (h34 : σ 3 4 = (N : Int)) (h6 : ∀ t, t < N → cc σ (12 * t) 6 = 0 ∨ cc σ (12 * t) 6 = 1) (h1 : ∀ t, t < N → 0 ≤ cc σ (12 * t) 1 ∧ cc σ (12 * t) 1 < 16) (h29 : ∀ d, d < 16 → σ 29 d = 0)
    (h : ∀ σ' : St, (∀ a, a ≠ 29 → σ' a = σ a) → AX (cc σ) N σ' → ∃ nn, wp_X0_fill_L78 Q nn 0 σ') : ∃ nn, wp_X0_fill_L31 Q nn 0 σ := by
  have loop : ∀ (m t : Nat) (σ' : St), N - t = m → t ≤ N → (∀ a, a ≠ 29 → σ' a = σ a) → (∀ d, d < 16 → (0 ≤ σ' 29 d ∧ σ' 29 d ≤ (t : Int)) ∧ (σ' 29 d = 0 → ∀ t', t' < t → ¬ (cc σ (12 * t') 1 = (d : Int) ∧ cc σ (12 * t') 6 = 1))) → wp_X0_fill_L31 Q (m + 1) (t : Int) σ' := by
    intro m
    induction m with
    | zero =>
      intro t σ' hm ht f1 f2
      unfold wp_X0_fill_L31
      rw [f1 3 (by decide), h34, w32_id (show -2147483648 ≤ (N : Int) by omega) (by omega), w32_id (show -2147483648 ≤ (t : Int) by omega) (by omega)]
      refine ⟨fun _ => h σ' f1 (fun d hd => ⟨by have := (f2 d hd).1; omega, fun z t' ht' => (f2 d hd).2 z t' (by omega)⟩), fun z => by omega⟩
    | succ m ih =>
      intro t σ' hm ht f1 f2
      have tN : t < N := by omega
      have ec : cc σ' = cc σ := cc_c (f1 11 (by decide))
      unfold wp_X0_fill_L31
      rw [f1 3 (by decide), h34, w32_id (show -2147483648 ≤ (N : Int) by omega) (by omega), w32_id (show -2147483648 ≤ (t : Int) by omega) (by omega)]
      refine ⟨fun z => by omega, fun _ => sp_isA (σ0 := σ) (by omega) (h6 t tN) ec ?_⟩
      have nxt : ∀ σ5 : St, (∀ a, a ≠ 29 → σ5 a = σ a) → (∀ d, d < 16 → (0 ≤ σ5 29 d ∧ σ5 29 d ≤ ((t + 1 : Nat) : Int)) ∧ (σ5 29 d = 0 → ∀ t', t' < t + 1 → ¬ (cc σ (12 * t') 1 = (d : Int) ∧ cc σ (12 * t') 6 = 1))) → wp_X0_fill_B70 (fun z0 σ => wp_X0_fill_L31 Q (m + 1) z0 σ) (t : Int) Q σ5 := by
        intro σ5 k1 k2
        unfold wp_X0_fill_B70
        intro x_1 ex
        rw [ex, show (t : Int) + 1 = ((t + 1 : Nat) : Int) by omega]
        exact ih (t + 1) σ5 (by omega) (by omega) k1 k2
      rcases h6 t tN with q | q
      · rw [q]
        refine ⟨fun _ => nxt σ' f1 (fun d hd => ⟨by have := (f2 d hd).1; omega, fun z t' ht' => ?_⟩), fun z => absurd w32_0 z⟩
        by_cases e : t' = t
        · subst e; intro w; rw [q] at w; exact absurd w.2 (by decide)
        · exact (f2 d hd).2 z t' (by omega)
      · rw [q]
        refine ⟨fun z => absurd z (by decide), fun _ => ?_⟩
        unfold wp_X1_rootLabel wp_X1_row
        refine sp_cell (t := t) (x := 0) (w := 1) (by omega) rfl (by omega) (by omega) (by omega) ?_
        have e1 : nd σ' t 0 1 = cc σ (12 * t) 1 := by rw [← ec]; rfl
        have b1 := h1 t tN
        rw [e1]
        dsimp only
        rw [w32_id (show -2147483648 ≤ cc σ (12 * t) 1 by omega) (by omega)]
        refine ⟨b1, b1, fun σ5 e5 => nxt σ5 (fun a ha => by rw [e5, su_o _ _ _ ha]; exact f1 a ha) (fun d hd => ?_)⟩
        have fd := f2 d hd
        by_cases e : d = (cc σ (12 * t) 1).toNat
        · subst e
          rw [e5, su_at]
          exact ⟨by omega, fun z => by omega⟩
        · rw [e5, su_ko _ _ (by omega)]
          refine ⟨by omega, fun z t' ht' => ?_⟩
          by_cases et : t' = t
          · subst et; intro w; have := w.1; omega
          · exact fd.2 z t' (by omega)
  exact ⟨_, loop N 0 σ (by omega) (by omega) (fun _ _ => rfl) (fun d hd => ⟨by rw [h29 d hd]; omega, fun _ t' ht' => by omega⟩)⟩
theorem sp_fill {σ : St} {Q : St → Prop} {N n : Nat} {sz : Nat → Nat} {hw wo : Nat → Prop} (hn : n ≤ 8) (hN : N ≤ 16) (h34 : σ 3 4 = (N : Int)) (h10 : ∀ t, t < N → σ 10 t = ((sz t : Nat) : Int)) (hFC : FC σ N sz hw wo) (hCL : CL (cc σ) N sz hw wo) (hB : CB σ) (h143 : σ 14 3 = (n : Int)) (h7 : NmI σ 7 12 32) (h14 : NmI σ 14 12 8) (hs : ∀ d, d < 8 → -1 ≤ σ 18 d ∧ σ 18 d < 32)
    (h : ∀ σ' : St, (∀ a, a ≠ 17 → a ≠ 18 → a ≠ 19 → a ≠ 20 → a ≠ 21 → a ≠ 22 → a ≠ 29 → σ' a = σ a) → (∀ b, b ≠ 0 → σ' 17 b = σ 17 b) → σ' 17 0 = (n : Int) → (∀ i, i < n → σ' 18 i = sdC σ i) → (∀ d, d < 8 → -1 ≤ σ' 18 d ∧ σ' 18 d < 32) → CB σ' → RD (cc σ) N sz (σ' 18) n σ' → Q σ') : wp_X0_fill Q σ := by
  unfold wp_X0_fill
  refine sp_hear hn h143 h7 h14 hs (fun σ1 a1 a2 a3 a4 a5 => ?_)
  refine sp_jfill (L := 720) (by omega) (fun σ2 b1 b2 b3 => ?_)
  refine sp_jfill (L := 5280) (by omega) (fun σa c1 c2 c3 => ?_)
  refine sp_jfill (L := 16) (by omega) (fun σb d1 d2 d3 => ?_)
  have fb : ∀ a, a ≠ 21 → a ≠ 22 → a ≠ 29 → σb a = σ1 a := fun a q1 q2 q3 => (d1 a q3).trans ((c1 a q2).trans (b1 a q1))
  have eb : cc σb = cc σ := cc_c ((fb 11 (by decide) (by decide) (by decide)).trans (a1 11 (by decide) (by decide)))
  have root : ∀ t, t < N → (cc σ (12 * t) 6 = 0 ∨ cc σ (12 * t) 6 = 1) ∧ (0 ≤ cc σ (12 * t) 1 ∧ cc σ (12 * t) 1 < 16) := fun t ht => by
    have ft := hFC.1.2 t ht
    have fx := hFC.1.1 t 0 ht ft.1
    exact ⟨fx.2.1, fx.2.2.2.2.2.2.2.2.2.2.1, fx.2.2.2.2.2.2.2.2.2.2.2.2 (by have := ft.2.2.1; show cc σ (12 * t + 0) 0 ≠ 3; rw [show 12 * t + 0 = 12 * t from rfl, this]; decide)⟩
  refine sp_axl hN (by rw [fb 3 (by decide) (by decide) (by decide), a1 3 (by decide) (by decide)]; exact h34) (fun t ht => by rw [eb]; exact (root t ht).1) (fun t ht => by rw [eb]; exact (root t ht).2) d2 (fun σ3 x1 hAXb => ?_)
  have f : ∀ a, a ≠ 21 → a ≠ 22 → a ≠ 29 → σ3 a = σ1 a := fun a q1 q2 q3 => (x1 a q3).trans (fb a q1 q2 q3)
  have e11 : cc σ3 = cc σ := cc_c ((f 11 (by decide) (by decide) (by decide)).trans (a1 11 (by decide) (by decide)))
  have e17 : σ3 17 0 = (n : Int) := by rw [f 17 (by decide) (by decide) (by decide)]; exact a3
  have e34 : σ3 3 4 = (N : Int) := by rw [f 3 (by decide) (by decide) (by decide), a1 3 (by decide) (by decide)]; exact h34
  have e10 : ∀ t, t < N → σ3 10 t = ((sz t : Nat) : Int) := by rw [f 10 (by decide) (by decide) (by decide), a1 10 (by decide) (by decide)]; exact h10
  have e18 : ∀ d, d < 8 → -1 ≤ σ3 18 d ∧ σ3 18 d < 32 := by rw [f 18 (by decide) (by decide) (by decide)]; exact a5
  have hFC3 : FC σ3 N sz hw wo := by unfold FC; rw [e11]; exact hFC
  have hCL3 : CL (cc σ3) N sz hw wo := by rw [e11]; exact hCL
  have hAX3 : AX (cc σ3) N σ3 := by rw [e11, ← eb]; exact hAXb
  have t21 : σ3 21 = σ2 21 := (x1 21 (by decide)).trans ((d1 21 (by decide)).trans (c1 21 (by decide)))
  have t22 : σ3 22 = σa 22 := (x1 22 (by decide)).trans (d1 22 (by decide))
  have hB3 : CB σ3 := by
    intro k
    have hk := hB k
    have t21 : σ3 21 k = 0 ∨ σ3 21 k = σ 21 k := by
      rw [t21]
      by_cases e : k < 720
      · exact Or.inl (b2 k e)
      · right; rw [b3 k (by omega), a1 21 (by decide) (by decide)]
    have t22 : σ3 22 k = 0 ∨ σ3 22 k = σ 22 k := by
      rw [t22]
      by_cases e : k < 5280
      · exact Or.inl (c2 k e)
      · right; rw [c3 k (by omega), b1 22 (by decide), a1 22 (by decide) (by decide)]
    refine ⟨?_, ?_, ?_, ?_⟩
    · rw [f 19 (by decide) (by decide) (by decide), a1 19 (by decide) (by decide)]; exact hk.1
    · rw [f 20 (by decide) (by decide) (by decide), a1 20 (by decide) (by decide)]; exact hk.2.1
    · rcases t21 with e | e
      · rw [e]; omega
      · rw [e]; exact hk.2.2.1
    · rcases t22 with e | e
      · rw [e]; omega
      · rw [e]; exact hk.2.2.2
  have hVr := fun o r i j k l => (VV_r (cc σ3) N (σ3 18) o r i j k l).1
  have cap0 : cap 0 = 0 := by unfold cap; rfl
  have hI0 : FI σ3 N n (VV (cc σ3) N (σ3 18)) 0 0 σ3 := by
    refine ⟨fun _ _ _ _ _ => rfl, hB3, ⟨fun nm i l q1 q2 q3 q4 => ?_, fun nm i p q l q1 q2 q3 q4 q5 q6 => ?_⟩⟩
    · have v : Vt 0 i (-1) (-1) l n := ⟨q3, q4, Or.inl ⟨rfl, rfl, rfl⟩⟩
      have b := (at_lt v hn).2 rfl
      unfold cI ini
      rw [t21, b2 _ (by omega), sm_0 _ (fun t ht => ?_), cap0]
      have : Mk 0 0 (VV (cc σ3) N (σ3 18)) false (12 * t) i (-1) (-1) l = 0 := by unfold Mk; rw [if_neg (by omega)]
      show (if _ then _ else _) = _
      rw [this]; split <;> rfl
    · have v : Vt 1 i (p : Int) (q : Int) l n := ⟨by omega, q6, Or.inr ⟨rfl, by omega, by omega, by omega⟩⟩
      have b := (at_lt v hn).1
      unfold cA aux
      rw [t22, c2 _ (by omega), sm_0 _ (fun t ht => ?_), cap0]
      have : Mk 0 0 (VV (cc σ3) N (σ3 18)) false (12 * t) i (p : Int) (q : Int) l = 0 := by unfold Mk; rw [if_neg (by omega)]
      show (if _ then _ else _) = _
      rw [this]; split <;> rfl
  have hR0 : RT (cc σ3) N sz n (VV (cc σ3) N (σ3 18)) σ3 0 (Sw hw wo False 0) := by
    intro o t x i l j k q1 q2 v q
    have := (Vs_y v.vs).1
    rcases q with q | ⟨_, q | q⟩
    · omega
    · exact absurd q.1 id
    · omega
  have adds : ∀ (K : Int → St → Prop) (y : Nat), y ≤ n → (∀ σ', FI σ3 N n (VV (cc σ3) N (σ3 18)) (y + 1) 0 σ' → RT (cc σ3) N sz n (VV (cc σ3) N (σ3 18)) σ' (y + 1) (Sw hw wo False 0) → K ((y + 1 : Nat) : Int) σ') →
      ∀ (m t : Nat) (σ' : St), N - t = m → t ≤ N → FI σ3 N n (VV (cc σ3) N (σ3 18)) y t σ' → RT (cc σ3) N sz n (VV (cc σ3) N (σ3 18)) σ' y (Sw hw wo False N) → wp_X0_fill_L94 K Q (m + 1) (y : Int) (t : Int) σ' := by
    intro K y hy hK m
    induction m with
    | zero =>
      intro t σ' hm ht hI hR
      have e3 : σ' 3 = σ3 3 := hI.1 3 (by decide) (by decide) (by decide) (by decide)
      unfold wp_X0_fill_L94
      rw [e3, e34, w32_id (show -2147483648 ≤ (N : Int) by omega) (by omega), w32_id (show -2147483648 ≤ (t : Int) by omega) (by omega)]
      refine ⟨fun _ => ?_, fun z => by omega⟩
      have et : t = N := by omega
      subst et
      refine sp_layAll (M := True) (b := y + 1) (wI := 0) hn hN e34 e10 e17 hy hFC3 hCL3 hAX3 e18 (Or.inl ⟨trivial, rfl⟩) (Or.inl ⟨trivial, rfl⟩) ⟨hI.1, hI.2.1, IA_up hI.2.2⟩ (RT_mono (fun o t' x' q1 q2 q => ?_) hR) (fun σ4 hI4 hR4 x_2 ex => ?_)
      · unfold Sw at q ⊢
        rcases q with q | q
        · exact Or.inr ⟨Or.inr q.2, q1⟩
        · omega
      · rw [ex, show (y : Int) + 1 = ((y + 1 : Nat) : Int) by omega]
        refine hK σ4 hI4 (fun o t' x' i l j k q1 q2 v q => hR4 o t' x' i l j k q1 q2 v ?_)
        have : (l : Int) - i - (k - j) < ((y + 1 : Nat) : Int) := by
          rcases q with q | ⟨_, q | q⟩
          · exact q
          · exact absurd q.1 id
          · omega
        by_cases e : (l : Int) - i - (k - j) < (y : Int)
        · exact Or.inl e
        · exact Or.inr ⟨by omega, Or.inr ⟨Or.inl trivial, q1⟩⟩
    | succ m ih =>
      intro t σ' hm ht hI hR
      have e3 : σ' 3 = σ3 3 := hI.1 3 (by decide) (by decide) (by decide) (by decide)
      unfold wp_X0_fill_L94
      rw [e3, e34, w32_id (show -2147483648 ≤ (N : Int) by omega) (by omega), w32_id (show -2147483648 ≤ (t : Int) by omega) (by omega)]
      refine ⟨fun z => by omega, fun _ => ?_⟩
      have z0 : t < N := by omega
      have z1 : N - (t + 1) = m := by omega
      have z2 : t + 1 ≤ N := by omega
      have z3 : (t : Int) + 1 = ((t + 1 : Nat) : Int) := by omega
      have ft := hFC3.1.2 t z0
      have fx := hFC3.1.1 t 0 z0 ft.1
      refine sp_addTree hn hN z0 e17 hy fx.2.1 ⟨fx.2.2.2.2.2.2.2.2.2.2.1, fx.2.2.2.2.2.2.2.2.2.2.2.2 (by have := ft.2.2.1; show cc σ3 (12 * t + 0) 0 ≠ 3; rw [show 12 * t + 0 = 12 * t from rfl, this]; decide)⟩ hVr hI (fun i l j k v q => ?_) (fun σ4 hI4 g19 g20 x_4 ex => ?_)
      · refine hR false t 0 i l j k z0 ft.1 v (Or.inr ⟨q, Or.inr ⟨Or.inr ?_, z0⟩⟩)
        unfold wd
        exact Or.inr ⟨rfl, ft.2.2.2⟩
      · rw [ex, z3]
        refine ih (t + 1) σ4 z1 z2 hI4 (fun o t' x' i l j k q1 q2 v q => ?_)
        rw [← hR o t' x' i l j k q1 q2 v q, cT_ar, cT_ar]
        cases o with
        | true => show σ4 20 _ = σ' 20 _; rw [g20]
        | false => show σ4 19 _ = σ' 19 _; rw [g19]
  have loop : ∀ (m y : Nat) (σ' : St), n + 1 - y = m → y ≤ n + 1 → FI σ3 N n (VV (cc σ3) N (σ3 18)) y 0 σ' → RT (cc σ3) N sz n (VV (cc σ3) N (σ3 18)) σ' y (Sw hw wo False 0) → wp_X0_fill_L78 Q (m + 1) (y : Int) σ' := by
    intro m
    induction m with
    | zero =>
      intro y σ' hm hy hI hR
      have g17 : σ' 17 = σ3 17 := hI.1 17 (by decide) (by decide) (by decide) (by decide)
      have g18 : σ' 18 = σ3 18 := hI.1 18 (by decide) (by decide) (by decide) (by decide)
      have s18 : σ3 18 = σ1 18 := f 18 (by decide) (by decide) (by decide)
      have s17 : σ3 17 = σ1 17 := f 17 (by decide) (by decide) (by decide)
      unfold wp_X0_fill_L78
      rw [g17, e17, w32_id (show -2147483648 ≤ (n : Int) by omega) (by omega), w32_id (show -2147483648 ≤ (y : Int) by omega) (by omega)]
      refine ⟨fun _ => h σ' (fun a q1 q2 q3 q4 q5 q6 q7 => ?_) (fun b q => by rw [g17, s17]; exact a2 b q) (by rw [g17]; exact e17) (fun i hi => by rw [g18, s18]; exact a4 i hi) (fun d hd => by rw [g18]; exact e18 d hd) hI.2.1 ?_, fun z => by omega⟩
      · rw [hI.1 a q3 q4 q5 q6, f a q5 q6 q7, a1 a q1 q2]
      · rw [g18, ← e11]
        have ey : y = n + 1 := by omega
        subst ey
        have em : ∀ (r i : Nat) (j k : Int) (l : Nat), (l : Int) - i - (k - j) ≤ (n : Int) → Mk (n + 1) 0 (VV (cc σ3) N (σ3 18)) false r i j k l = VV (cc σ3) N (σ3 18) false r i j k l := fun r i j k l q => by unfold Mk; rw [if_pos (by omega)]
        refine ⟨fun o t x i l j k q1 q2 v => hR o t x i l j k q1 q2 v (Or.inl (by have := (Vs_y v.vs).2; omega)), fun nm i l q1 q2 q3 q4 => ?_, fun nm i p q l q1 q2 q3 q4 q5 q6 => ?_⟩
        · rw [hI.2.2.1 nm i l q1 q2 q3 q4]
          congr 1
          exact sm_c _ (fun t _ => by rw [em _ _ _ _ _ (by omega)])
        · rw [hI.2.2.2 nm i p q l q1 q2 q3 q4 q5 q6]
          congr 1
          exact sm_c _ (fun t _ => by rw [em _ _ _ _ _ (by omega)])
    | succ m ih =>
      intro y σ' hm hy hI hR
      have g17 : σ' 17 = σ3 17 := hI.1 17 (by decide) (by decide) (by decide) (by decide)
      unfold wp_X0_fill_L78
      rw [g17, e17, w32_id (show -2147483648 ≤ (n : Int) by omega) (by omega), w32_id (show -2147483648 ≤ (y : Int) by omega) (by omega)]
      refine ⟨fun z => by omega, fun _ => ?_⟩
      refine sp_layAll (M := False) (b := y) (wI := 1) hn hN e34 e10 e17 (by omega) hFC3 hCL3 hAX3 e18 (Or.inr ⟨id, rfl⟩) (Or.inr ⟨id, rfl⟩) hI hR (fun σ4 hI4 hR4 => ?_)
      exact ⟨_, adds _ y (by omega) (fun σ5 hI5 hR5 => ih (y + 1) σ5 (by omega) (by omega) hI5 hR5) N 0 σ4 (by omega) (by omega) hI4 hR4⟩
  exact ⟨_, loop (n + 1) 0 σ3 (by omega) (by omega) hI0 hR0⟩
