/-! pure: the class lays all rows of a yield -/
def ar (o : Bool) : Nat := if o then 20 else 19
theorem cT_ar (σ : St) (o : Bool) (r i : Nat) (j k : Int) (l : Nat) : cT σ o r i j k l = σ (ar o) (330 * r + atF i j k l) := by cases o <;> rfl
theorem RT_lay {c : Nat → Nat → Int} {N n y t x : Nat} {sz : Nat → Nat} {V : Tb} {σ σ' : St} {S S' : Bool → Nat → Nat → Prop} {o : Bool} {v : Nat → Int → Int → Nat → Int} (hn : n ≤ 8) (hsz : ∀ t, t < N → sz t ≤ 12) (ht : t < N) (hx : x < sz t) (hL : Lay (ar o) (flg c o (12 * t + x)) (12 * t + x) y n σ σ')
    (hv : ∀ (i l : Nat) (j k : Int), Vt (flg c o (12 * t + x)) i j k l n → (l : Int) - i - (k - j) = (y : Int) → cT σ' o (12 * t + x) i j k l = v i j k l)
    (hS : ∀ o' t' x', S' o' t' x' → S o' t' x' ∨ (o' = o ∧ t' = t ∧ x' = x))
    (hV : S' o t x → ∀ (i l : Nat) (j k : Int), Vt (flg c o (12 * t + x)) i j k l n → (l : Int) - i - (k - j) = (y : Int) → v i j k l = V o (12 * t + x) i j k l)
    (hR : RT c N sz n V σ y S) : RT c N sz n V σ' y S' := by
  intro o' t' x' i' l' j' k' a b v' q
  by_cases w : Own (ar o) (flg c o (12 * t + x)) (12 * t + x) y n (ar o') (330 * (12 * t' + x') + atF i' j' k' l')
  · obtain ⟨w1, i, l, j, k, w2, w3, w4⟩ := w
    have eo : o' = o := by
      revert w1
      cases o <;> cases o' <;> intro w1 <;> first | rfl | exact absurd w1 (by decide)
    have b1 := (at_lt v' hn).1
    have b2 := (at_lt w2 hn).1
    have s1 := hsz t' a
    have s2 := hsz t ht
    have et : t' = t ∧ x' = x := by omega
    have ea : atF i' j' k' l' = atF i j k l := by omega
    obtain ⟨e1, e2⟩ := et
    subst e1 e2 eo
    obtain ⟨e1, e2, e3, e4⟩ := at_inj v' hn w2 hn ea
    subst e1 e2 e3 e4
    rw [hv _ _ _ _ w2 w3]
    refine hV ?_ _ _ _ _ w2 w3
    rcases q with q | q
    · omega
    · exact q.2
  · rw [cT_ar, hL.1 _ _ w, ← cT_ar σ o' (12 * t' + x') i' j' k' l']
    refine hR o' t' x' i' l' j' k' a b v' ?_
    rcases q with q | q
    · exact Or.inl q
    · rcases hS _ _ _ q.2 with u | ⟨e1, e2, e3⟩
      · exact Or.inr ⟨q.1, u⟩
      · subst e1 e2 e3
        exact absurd ⟨rfl, i', l', j', k', v', q.1, rfl⟩ w
theorem RT_mono {c : Nat → Nat → Int} {N n y : Nat} {sz : Nat → Nat} {V : Tb} {σ : St} {S S' : Bool → Nat → Nat → Prop} (h : ∀ o t x, t < N → x < sz t → S' o t x → S o t x) (hR : RT c N sz n V σ y S) : RT c N sz n V σ y S' := by
  intro o t x i l j k a b v q
  refine hR o t x i l j k a b v ?_
  rcases q with q | q
  · exact Or.inl q
  · exact Or.inr ⟨q.1, h o t x a b q.2⟩
def FI (σ0 : St) (N n : Nat) (V : Tb) (y t : Nat) (σ : St) : Prop := (∀ a, a ≠ 19 → a ≠ 20 → a ≠ 21 → a ≠ 22 → σ a = σ0 a) ∧ CB σ ∧ IA (cc σ0) N n y t V σ
theorem cc_c {σ σ' : St} (h : σ' 11 = σ 11) : cc σ' = cc σ := by unfold cc; rw [h]
theorem ndC_c {σ σ' : St} (h : ∀ a, a ≠ 19 → σ' a = σ a) (r i : Nat) (j k : Int) (l : Nat) : ndC σ' r i j k l = ndC σ r i j k l := by
  have h11 := h 11 (by decide)
  have h18 := h 18 (by decide)
  have h20 := h 20 (by decide)
  have h21 := h 21 (by decide)
  have h22 := h 22 (by decide)
  have h29 := h 29 (by decide)
  unfold ndC inC inS inT nwC inA cI cA cT
  rw [cc_c h11]
  simp only [h18, h20, h21, h22, h29, if_true]
theorem rOnC_c {σ σ' : St} (h11 : σ' 11 = σ 11) (h19 : σ' 19 = σ 19) {r : Nat} (h : ∀ (xr i : Nat) (j k : Int) (l : Nat), xr ≠ r → xr < 192 → i ≤ l → l ≤ 8 → ((j = -1 ∧ k = -1) ∨ ((i : Int) ≤ j ∧ j < k ∧ k ≤ (l : Int))) → cT σ' true xr i j k l = cT σ true xr i j k l) {i l : Nat} {g j k : Int} (hv : Vt g i j k l 8) (h5 : cc σ r 5 = -1 ∨ ∃ xr : Nat, xr ≠ r ∧ xr < 192 ∧ cc σ r 5 = (xr : Int)) : rOnC (cc σ') (cT σ') r i j k l = rOnC (cc σ) (cT σ) r i j k l := by
  obtain ⟨v1, v2, v3⟩ := hv
  rw [cc_c h11]
  have e19 : ∀ i j k l, cT σ' false r i j k l = cT σ false r i j k l := fun i j k l => by unfold cT; simp only [Bool.false_eq_true, if_false, h19]
  unfold rOnC
  by_cases q : cc σ r 5 = -1
  · rw [if_pos q, if_pos q, e19]
  · rw [if_neg q, if_neg q]
    congr 1
    refine sm_c _ (fun d hd => ?_)
    obtain ⟨xr, x0, x1, x2⟩ : ∃ xr : Nat, xr ≠ r ∧ xr < 192 ∧ cc σ r 5 = (xr : Int) := by
      rcases h5 with z | z
      · exact absurd z q
      · exact z
    have xn : (cc σ r 5).toNat = xr := by omega
    unfold splC
    rw [xn, e19, e19]
    by_cases w : fsp (cc σ) r i k ≤ ((i + d : Nat) : Int) ∧ ((i + d : Nat) : Int) ≤ lsp (cc σ) r j l
    · rw [if_pos w, if_pos w]
      by_cases q6 : cc σ r 6 = 1
      · rw [if_pos q6, if_pos q6, h xr _ _ _ _ x0 x1 (by omega) (by omega) (Or.inl ⟨rfl, rfl⟩)]
      · rw [if_neg q6, if_neg q6, h xr _ _ _ _ x0 x1 (by omega) (by omega) ?_]
        rcases v3 with z | z
        · exact Or.inl z.2
        · right
          refine ⟨?_, z.2.2.1, z.2.2.2⟩
          have w2 := w.2
          unfold lsp at w2
          rw [if_neg (fun y => y.elim q6 (fun y => by omega))] at w2
          exact w2
    · rw [if_neg w, if_neg w]
theorem inC_p {σ : St} (hB : CB σ) (r i : Nat) (j k : Int) (l : Nat) : 0 ≤ inC σ r i j k l := by
  unfold inC
  have h1 : 0 ≤ inS σ r i j k l := sm_p _ (fun _ _ => sm_p _ (fun _ _ => by
    unfold inT
    split
    · exact (mul_b (CB_A hB _ _ _ _ _) (CB_T hB _ _ _ _ _ _)).1
    · exact Int.le_refl 0))
  have h2 := (CB_T hB true (r + 1) i j k l).1
  split <;> split <;> omega
theorem ndC_r {σ : St} (hB : CB σ) (r i : Nat) (j k : Int) (l : Nat) : 0 ≤ ndC σ r i j k l ∧ ndC σ r i j k l ≤ 1000000000 := by
  unfold ndC
  split
  · split <;> omega
  · split
    · split <;> omega
    · split
      · exact (hB _).2.2.1
      · exact cap_r (inC_p hB _ _ _ _ _)
theorem rOnC_r {σ : St} (hB : CB σ) (c : Nat → Nat → Int) (r i : Nat) (j k : Int) (l : Nat) : 0 ≤ rOnC c (cT σ) r i j k l ∧ rOnC c (cT σ) r i j k l ≤ 1000000000 := by
  unfold rOnC
  split
  · exact CB_T hB _ _ _ _ _ _
  · refine cap_r (sm_p _ (fun d _ => ?_))
    unfold splC
    repeat' split
    all_goals first | exact (mul_b (CB_T hB _ _ _ _ _ _) (CB_T hB _ _ _ _ _ _)).1 | exact Int.le_refl 0
theorem FI_lay {σ0 σ σ' : St} {N n y t' r y' A : Nat} {V : Tb} {g : Int} (hA : A = 19 ∨ A = 20) (h : FI σ0 N n V y t' σ) (hL : Lay A g r y' n σ σ') : FI σ0 N n V y t' σ' := by
  have e : ∀ a, a ≠ A → σ' a = σ a := fun a ha => by funext b; exact hL.1 a b (fun z => ha z.1)
  refine ⟨fun a h1 h2 h3 h4 => (e a (by omega)).trans (h.1 a h1 h2 h3 h4), hL.2, ?_⟩
  have e21 := e 21 (by omega)
  have e22 := e 22 (by omega)
  refine ⟨fun nm i l a b c d => ?_, fun nm i p q l a b c d e f => ?_⟩
  · unfold cI; rw [e21]; exact h.2.2.1 nm i l a b c d
  · unfold cA; rw [e22]; exact h.2.2.2 nm i p q l a b c d e f
theorem AX_c {c : Nat → Nat → Int} {N : Nat} {σ σ' : St} (h : AX c N σ) (e : σ' 29 = σ 29) : AX c N σ' := by unfold AX; rw [e]; exact h
theorem if_01 {p : Prop} (d : Decidable p) {v : Int} (h : 0 ≤ v ∧ v ≤ 1000000000) : 0 ≤ (if p then 0 else v) ∧ (if p then 0 else v) ≤ 1000000000 := by
  split
  · omega
  · exact h
theorem lay_one0 {σ0 σ : St} {Q : St → Prop} {N n y b t x : Nat} {sz : Nat → Nat} {hw wo : Nat → Prop} {S S' : Bool → Nat → Nat → Prop} {a1 : Int} (hn : n ≤ 8) (hN : N ≤ 16) (h17 : σ0 17 0 = (n : Int)) (hyn : y ≤ n) (hFC : FC σ0 N sz hw wo) (hCL : CL (cc σ0) N sz hw wo) (hAX : AX (cc σ0) N σ0) (hs : ∀ d, d < 8 → -1 ≤ σ0 18 d ∧ σ0 18 d < 32) (ht : t < N) (hx : x < sz t) (h1 : a1 = ((12 * t + x : Nat) : Int)) (hI : FI σ0 N n (VV (cc σ0) N (σ0 18)) b 0 σ) (hR : RT (cc σ0) N sz n (VV (cc σ0) N (σ0 18)) σ y S)
    (hS : ∀ o' t' x', S' o' t' x' → S o' t' x' ∨ (o' = false ∧ t' = t ∧ x' = x))
    (hg : S' false t x → (b = y + 1 ∨ (b = y ∧ wd hw wo false (12 * t + x))) ∧ ∀ o' t' x', t' < N → x' < sz t' → Rdy hw wo false t x (y : Int) o' t' x' (y : Int) → S o' t' x')
    (h : ∀ σ', FI σ0 N n (VV (cc σ0) N (σ0 18)) b 0 σ' → RT (cc σ0) N sz n (VV (cc σ0) N (σ0 18)) σ' y S' → Q σ') : wp_X0_lay a1 (y : Int) 0 Q σ := by
  obtain ⟨hF, h4⟩ := hFC
  have e11 : cc σ = cc σ0 := cc_c (hI.1 11 (by decide) (by decide) (by decide) (by decide))
  have e18 : σ 18 = σ0 18 := hI.1 18 (by decide) (by decide) (by decide) (by decide)
  have e17 : σ 17 = σ0 17 := hI.1 17 (by decide) (by decide) (by decide) (by decide)
  have e29 : σ 29 = σ0 29 := hI.1 29 (by decide) (by decide) (by decide) (by decide)
  obtain ⟨g1, g2, g3, g4, g5, g6, g7, g8, g9, g10, g11⟩ := hF.1 t x ht hx
  obtain ⟨m1, m2, m3, m4, m5, m6, m7, m8, m9, m10, m11⟩ := hCL t x ht hx
  have s12 := (hF.2 t ht).2.1
  have hsz : ∀ t, t < N → sz t ≤ 12 := fun t h => (hF.2 t h).2.1
  refine sp_lay0 (v := fun i j k l => if (y : Int) < cc σ (12 * t + x) 9 then 0 else ndC σ (12 * t + x) i j k l) (g := cc σ0 (12 * t + x) 6) (n := n) (by omega) (by omega) g2 (by rw [e11]) (by rw [e11]; exact m1) hyn hn (by rw [e17]; exact h17) hI.2.1 h1 (fun i l j k _ _ => if_01 _ (ndC_r hI.2.1 _ _ _ _ _)) (fun z i l j k _ _ => if_pos z) (fun z σ' i l j k hL hv hy R hR' => ?_) (fun σ' hL hv => ?_)
  · have ee : ∀ a, a ≠ 19 → σ' a = σ a := fun a ha => by funext b; exact hL.1 a b (fun z => ha z.1)
    have c' : cc σ' = cc σ0 := (cc_c (ee 11 (by decide))).trans e11
    refine sp_reckonNode (g := cc σ0 (12 * t + x) 6) (n := n) (t := t) (x := x) (by omega) (by omega) (by rw [c']; exact g1) (by rw [c']; intro z; have := g4 z; omega) (by rw [c']; exact h4 t x ht hx) (by rw [c']; exact g11) (by rw [c']; exact m1) (by rw [c']; exact m7) (by rw [ee 29 (by decide), e29]; exact fun d hd => (hAX d hd).1) hv (fun z => ?_) hn hL.2 (by rw [ee 18 (by decide), e18]; exact hs) h1 rfl rfl ?_
    · rw [c'] at z
      rcases g2 with w | w
      · exact w
      · rcases g6.mp w with u | u <;> omega
    · rw [if_neg (by omega)] at hR'
      rw [ndC_c ee]; exact hR'
  · refine h σ' (FI_lay (Or.inl rfl) hI hL) (RT_lay (o := false) (v := fun i j k l => if (y : Int) < cc σ (12 * t + x) 9 then 0 else ndC σ (12 * t + x) i j k l) hn hsz ht hx hL hv hS (fun q i l j k hv' hy => ?_) hR)
    show (if (y : Int) < cc σ (12 * t + x) 9 then 0 else ndC σ (12 * t + x) i j k l) = _
    by_cases z : (y : Int) < cc σ (12 * t + x) 9
    · rw [if_pos z]
      exact (VV_l (σ0 18) hF hCL ht hx hv'.vs (by show _ < cc σ0 (12 * t + x) 9; rw [← e11]; omega)).symm
    · rw [if_neg z]
      have := lay_nd (σ := σ) (N := N) (n := n) (y := y) (b := b) (t := t) (x := x) (i := i) (l := l) (j := j) (k := k) (sz := sz) (hw := hw) (wo := wo) (S := S) hn hI.2.1 (by rw [e11]; exact hF) (by rw [e11]; exact hCL) (by rw [e11]; exact AX_c hAX e29) ht hx (by rw [e11]; exact hv') hy (by omega) (by rw [e11, e18]; exact hI.2.2) (hg q).1 (by rw [e11, e18]; exact hR) (hg q).2
      rw [e11, e18] at this
      exact this
theorem lay_one1 {σ0 σ : St} {Q : St → Prop} {N n y b t x : Nat} {sz : Nat → Nat} {hw wo : Nat → Prop} {S S' : Bool → Nat → Nat → Prop} {a1 : Int} (hn : n ≤ 8) (hN : N ≤ 16) (h17 : σ0 17 0 = (n : Int)) (hyn : y ≤ n) (hFC : FC σ0 N sz hw wo) (hCL : CL (cc σ0) N sz hw wo) (ht : t < N) (hx : x < sz t) (h1 : a1 = ((12 * t + x : Nat) : Int)) (hI : FI σ0 N n (VV (cc σ0) N (σ0 18)) b 0 σ) (hR : RT (cc σ0) N sz n (VV (cc σ0) N (σ0 18)) σ y S)
    (hS : ∀ o' t' x', S' o' t' x' → S o' t' x' ∨ (o' = true ∧ t' = t ∧ x' = x))
    (hg : S' true t x → ∀ o' t' x', t' < N → x' < sz t' → Rdy hw wo true t x (y : Int) o' t' x' (y : Int) → S o' t' x')
    (h : ∀ σ', FI σ0 N n (VV (cc σ0) N (σ0 18)) b 0 σ' → RT (cc σ0) N sz n (VV (cc σ0) N (σ0 18)) σ' y S' → Q σ') : wp_X0_lay a1 (y : Int) 3 Q σ := by
  obtain ⟨hF, h4⟩ := hFC
  have e11 : cc σ = cc σ0 := cc_c (hI.1 11 (by decide) (by decide) (by decide) (by decide))
  have e18 : σ 18 = σ0 18 := hI.1 18 (by decide) (by decide) (by decide) (by decide)
  have e17 : σ 17 = σ0 17 := hI.1 17 (by decide) (by decide) (by decide) (by decide)
  obtain ⟨g1, g2, g3, g4, g5, g6, g7, g8, g9, g10, g11⟩ := hF.1 t x ht hx
  obtain ⟨m1, m2, m3, m4, m5, m6, m7, m8, m9, m10, m11⟩ := hCL t x ht hx
  have s12 := (hF.2 t ht).2.1
  have hsz : ∀ t, t < N → sz t ≤ 12 := fun t h => (hF.2 t h).2.1
  refine sp_lay1 (v := fun i j k l => if (y : Int) < cc σ (12 * t + x) 10 then 0 else rOnC (cc σ) (cT σ) (12 * t + x) i j k l) (g := cc σ0 (12 * t + x) 7) (n := n) (by omega) (by omega) g3 (by rw [e11]) (by rw [e11]; exact m2) hyn hn (by rw [e17]; exact h17) hI.2.1 h1 (fun i l j k _ _ => if_01 _ (rOnC_r hI.2.1 _ _ _ _ _ _)) (fun z i l j k _ _ => if_pos z) (fun z σ' i l j k hL hv hy R hR' => ?_) (fun σ' hL hv => ?_)
  · have ee : ∀ a, a ≠ 20 → σ' a = σ a := fun a ha => by funext b; exact hL.1 a b (fun z => ha z.1)
    have c' : cc σ' = cc σ0 := (cc_c (ee 11 (by decide))).trans e11
    rw [if_neg (by omega)] at hR'
    refine sp_reckonOnward (n := n) (t := t) (x := x) (by omega) (by omega) (by rw [c']; exact g2) (by rw [c']; exact m1) ?_ (by rw [c']; exact fun z => g7.mpr (Or.inl z)) (by rw [c']; exact hv) hn hL.2 h1 rfl rfl ?_
    · rw [c']
      rcases g5 with z | ⟨x', z1, z2, z3⟩
      · exact Or.inl z
      · exact Or.inr ⟨x', by omega, z3, (hCL t x' ht z2).2.1⟩
    · rw [rOnC_c (ee 11 (by decide)) (ee 19 (by decide)) (g := cc σ0 (12 * t + x) 7) ?_ ⟨hv.1, by have := hv.2.1; omega, hv.2.2⟩ ?_]
      · exact hR'
      · intro xr i' j' k' l' q0 q1 q2 q3 q4
        rw [cT_ar, cT_ar]
        refine hL.1 _ _ (fun z => ?_)
        obtain ⟨z1, i2, l2, j2, k2, z2, z3, z4⟩ := z
        have b2 := (at_lt z2 hn).1
        have b1 := (at_lt (g := if j' = -1 then 0 else 1) (n := 8) (i := i') (l := l') (j := j') (k := k') ⟨q2, q3, by
          rcases q4 with u | u
          · rw [if_pos u.1]; exact Or.inl ⟨rfl, u⟩
          · rw [if_neg (by omega)]; exact Or.inr ⟨rfl, u⟩⟩ (by omega)).1
        omega
      · rw [e11]
        rcases g5 with z | ⟨x', z1, z2, z3⟩
        · exact Or.inl z
        · exact Or.inr ⟨12 * t + x', by omega, by omega, z3⟩
  · refine h σ' (FI_lay (Or.inr rfl) hI hL) (RT_lay (o := true) (v := fun i j k l => if (y : Int) < cc σ (12 * t + x) 10 then 0 else rOnC (cc σ) (cT σ) (12 * t + x) i j k l) hn hsz ht hx hL hv hS (fun q i l j k hv' hy => ?_) hR)
    show (if (y : Int) < cc σ (12 * t + x) 10 then 0 else rOnC (cc σ) (cT σ) (12 * t + x) i j k l) = _
    by_cases z : (y : Int) < cc σ (12 * t + x) 10
    · rw [if_pos z]
      exact (VV_l (σ0 18) hF hCL ht hx hv'.vs (by show _ < cc σ0 (12 * t + x) 10; rw [← e11]; omega)).symm
    · rw [if_neg z]
      have := lay_on (σ := σ) (N := N) (n := n) (y := y) (t := t) (x := x) (i := i) (l := l) (j := j) (k := k) (sz := sz) (hw := hw) (wo := wo) (S := S) hn (by rw [e11]; exact hF) (by rw [e11]; exact hCL) ht hx (by rw [e11]; exact hv') hy (by omega) (by rw [e11, e18]; exact hR) (hg q)
      rw [e11, e18] at this
      rw [e11]
      exact this
theorem sp_hasWd {Q : Int → St → Prop} {σ : St} {t x w : Nat} {rI oI : Int} (hr : rI = ((12 * t + x : Nat) : Int)) (ho : 8 + oI = ((pm w : Nat) : Int)) (ht : t ≤ 16) (hx : x < 12) (hw8 : w < 12) (hb : 0 ≤ nd σ t x w ∧ nd σ t x w ≤ 5000) (h0 : nd σ t x w = 0 → Q 0 σ) (h1 : nd σ t x w ≠ 0 → Q 1 σ) : wp_X1_hasWord rI oI Q σ := by
  unfold wp_X1_hasWord
  refine sp_cell hr ho ht hx hw8 ?_
  rw [w32_id (by omega) (by omega)]
  exact ⟨fun q => h0 (by omega), fun q => h1 (by omega)⟩
/-- a row is laid in its own round alone -/
theorem lay_w {σ0 σ : St} {F : St → Prop} {N n y b t x w : Nat} {sz : Nat → Nat} {hw wo : Nat → Prop} {M : Prop} {S S' : Bool → Nat → Nat → Prop} {o : Bool} {oI wI a1 : Int} (hN : N ≤ 16) (hsz : ∀ t, t < N → sz t ≤ 12) (ht : t < N) (hx : x < sz t) (h1 : a1 = ((12 * t + x : Nat) : Int)) (ho : 8 + oI = ((pm w : Nat) : Int)) (hw12 : w < 12) (hb : 0 ≤ cc σ0 (12 * t + x) w ∧ cc σ0 (12 * t + x) w ≤ 5000) (hwd : wd hw wo o (12 * t + x) ↔ cc σ0 (12 * t + x) w ≠ 0) (hM : (M ∧ wI = 0) ∨ (¬ M ∧ wI = 1)) (hI : FI σ0 N n (VV (cc σ0) N (σ0 18)) b 0 σ) (hR : RT (cc σ0) N sz n (VV (cc σ0) N (σ0 18)) σ y S)
    (hS : ∀ o' t' x', S' o' t' x' → S o' t' x' ∨ (o' = o ∧ t' = t ∧ x' = x))
    (hN' : (M ∧ wd hw wo o (12 * t + x)) ∨ (¬ M ∧ ¬ wd hw wo o (12 * t + x)) → S' o t x → S o t x)
    (hl : (M ∧ ¬ wd hw wo o (12 * t + x)) ∨ (¬ M ∧ wd hw wo o (12 * t + x)) → wp_X0_lay a1 (y : Int) oI F σ)
    (h : ∀ σ', FI σ0 N n (VV (cc σ0) N (σ0 18)) b 0 σ' → RT (cc σ0) N sz n (VV (cc σ0) N (σ0 18)) σ' y S' → F σ') :
    wp_X1_hasWord a1 oI (fun r5 σ4 => (¬ w32 r5 = w32 wI → F σ4) ∧ (w32 r5 = w32 wI → wp_X0_lay a1 (y : Int) oI F σ4)) σ := by
  have e11 : cc σ = cc σ0 := cc_c (hI.1 11 (by decide) (by decide) (by decide) (by decide))
  have s12 := hsz t ht
  have ew : nd σ t x w = cc σ0 (12 * t + x) w := by rw [← e11]; rfl
  have skip : (M ∧ wd hw wo o (12 * t + x)) ∨ (¬ M ∧ ¬ wd hw wo o (12 * t + x)) → F σ := fun z => h σ hI (RT_mono (fun o' t' x' _ _ q => by
    rcases hS o' t' x' q with w | ⟨w1, w2, w3⟩
    · exact w
    · subst w1 w2 w3; exact hN' z q) hR)
  refine sp_hasWd (t := t) (x := x) (w := w) h1 ho (by omega) (by omega) hw12 (by rw [ew]; omega) (fun z => ?_) (fun z => ?_)
  · rw [ew] at z
    have nw : ¬ wd hw wo o (12 * t + x) := fun u => (hwd.mp u) z
    rcases hM with ⟨m1, m2⟩ | ⟨m1, m2⟩
    · rw [m2]; exact ⟨fun u => absurd rfl u, fun _ => hl (Or.inl ⟨m1, nw⟩)⟩
    · rw [m2]; exact ⟨fun _ => skip (Or.inr ⟨m1, nw⟩), fun u => absurd u (by decide)⟩
  · rw [ew] at z
    have nw : wd hw wo o (12 * t + x) := hwd.mpr z
    rcases hM with ⟨m1, m2⟩ | ⟨m1, m2⟩
    · rw [m2]; exact ⟨fun _ => skip (Or.inl ⟨m1, nw⟩), fun u => absurd u (by decide)⟩
    · rw [m2]; exact ⟨fun u => absurd rfl u, fun _ => hl (Or.inr ⟨m1, nw⟩)⟩
/-- rows that are right, in the first (¬ M) and in the second round (M) -/
def Sq (hw wo : Nat → Prop) (M : Prop) (t u : Nat) (hf : Prop) : Bool → Nat → Nat → Prop := fun o' t' x' => (M ∧ wd hw wo o' (12 * t' + x')) ∨ ((M ∨ wd hw wo o' (12 * t' + x')) ∧ (t' < t ∨ (t' = t ∧ (u ≤ x' ∨ (x' + 1 = u ∧ hf ∧ o' = false)))))
def Sw (hw wo : Nat → Prop) (M : Prop) (t : Nat) : Bool → Nat → Nat → Prop := fun o' t' x' => (M ∧ wd hw wo o' (12 * t' + x')) ∨ ((M ∨ wd hw wo o' (12 * t' + x')) ∧ t' < t)
theorem sp_layAll {σ0 σ : St} {Q : St → Prop} {N n y b : Nat} {sz : Nat → Nat} {hw wo : Nat → Prop} {M : Prop} (hn : n ≤ 8) (hN : N ≤ 16) (h34 : σ0 3 4 = (N : Int)) (h10 : ∀ t, t < N → σ0 10 t = ((sz t : Nat) : Int)) (h17 : σ0 17 0 = (n : Int)) (hyn : y ≤ n) {wI : Int} (hFC : FC σ0 N sz hw wo) (hCL : CL (cc σ0) N sz hw wo) (hAX : AX (cc σ0) N σ0) (hs : ∀ d, d < 8 → -1 ≤ σ0 18 d ∧ σ0 18 d < 32) (hM : (M ∧ b = y + 1) ∨ (¬ M ∧ b = y)) (hMw : (M ∧ wI = 0) ∨ (¬ M ∧ wI = 1)) (hI : FI σ0 N n (VV (cc σ0) N (σ0 18)) b 0 σ) (hR : RT (cc σ0) N sz n (VV (cc σ0) N (σ0 18)) σ y (Sw hw wo M 0))
    (h : ∀ σ', FI σ0 N n (VV (cc σ0) N (σ0 18)) b 0 σ' → RT (cc σ0) N sz n (VV (cc σ0) N (σ0 18)) σ' y (Sw hw wo M N) → Q σ') : wp_X0_layAll (y : Int) wI Q σ := by
  have hsz : ∀ t, t < N → sz t ≤ 12 := fun t h => (hFC.1.2 t h).2.1
  have inner : ∀ (K : Int → Int → Int → St → Prop) (t : Nat), t < N → (∀ σ', FI σ0 N n (VV (cc σ0) N (σ0 18)) b 0 σ' → RT (cc σ0) N sz n (VV (cc σ0) N (σ0 18)) σ' y (Sw hw wo M (t + 1)) → K (y : Int) wI ((t + 1 : Nat) : Int) σ') →
      ∀ (u : Nat) (σ' : St), u ≤ sz t → FI σ0 N n (VV (cc σ0) N (σ0 18)) b 0 σ' → RT (cc σ0) N sz n (VV (cc σ0) N (σ0 18)) σ' y (Sq hw wo M t u False) → wp_X0_layAll_L26 K Q (u + 1) (y : Int) wI (t : Int) ((u : Int) - 1) σ' := by
    intro K t ht hK u
    have s12 := hsz t ht
    induction u with
    | zero =>
      intro σ' hu hI' hR'
      unfold wp_X0_layAll_L26
      refine ⟨fun _ x_1 ex => ?_, fun z => absurd (by decide) z⟩
      rw [ex, show (t : Int) + 1 = ((t + 1 : Nat) : Int) by omega]
      refine hK σ' hI' (RT_mono (fun o t' x' a1 a2 q => ?_) hR')
      unfold Sw at q
      unfold Sq
      rcases q with q | q
      · exact Or.inl q
      · refine Or.inr ⟨q.1, ?_⟩
        omega
    | succ u ih =>
      intro σ' hu hI' hR'
      unfold wp_X0_layAll_L26
      rw [w32_id (show -2147483648 ≤ ((u + 1 : Nat) : Int) - 1 by omega) (by omega)]
      refine ⟨fun z => by omega, fun _ => ?_⟩
      unfold wp_X1_row
      have er : (t : Int) * 12 + (((u + 1 : Nat) : Int) - 1) = ((12 * t + u : Nat) : Int) := by omega
      rw [er]
      obtain ⟨m1, m2, m3, m4, m5, m6, m7, m8, m9, m10, m11⟩ := hCL t u ht (by omega)
      have wF : wd hw wo false (12 * t + u) ↔ cc σ0 (12 * t + u) 8 ≠ 0 := by rw [← m9]; unfold wd; simp
      have wT : wd hw wo true (12 * t + u) ↔ cc σ0 (12 * t + u) 11 ≠ 0 := by rw [← m10]; unfold wd; simp
      have s1 : ∀ o' t' x', Sq hw wo M t (u + 1) True o' t' x' → Sq hw wo M t (u + 1) False o' t' x' ∨ (o' = false ∧ t' = t ∧ x' = u) := by
        intro o' t' x' q
        unfold Sq at q ⊢
        rcases q with q | ⟨q1, q2⟩
        · exact Or.inl (Or.inl q)
        · by_cases w : t' < t ∨ (t' = t ∧ u + 1 ≤ x')
          · exact Or.inl (Or.inr ⟨q1, w.elim Or.inl (fun z => Or.inr ⟨z.1, Or.inl z.2⟩)⟩)
          · right
            rcases q2 with z | ⟨z, z' | ⟨z1, z2, z3⟩⟩
            · exact absurd (Or.inl z) w
            · exact absurd (Or.inr ⟨z, z'⟩) w
            · exact ⟨z3, z, by omega⟩
      have s2 : ∀ o' t' x', Sq hw wo M t u False o' t' x' → Sq hw wo M t (u + 1) True o' t' x' ∨ (o' = true ∧ t' = t ∧ x' = u) := by
        intro o' t' x' q
        unfold Sq at q ⊢
        rcases q with q | ⟨q1, q2⟩
        · exact Or.inl (Or.inl q)
        · rcases q2 with z | ⟨z, z' | z'⟩
          · exact Or.inl (Or.inr ⟨q1, Or.inl z⟩)
          · by_cases w : u + 1 ≤ x'
            · exact Or.inl (Or.inr ⟨q1, Or.inr ⟨z, Or.inl w⟩⟩)
            · cases o' with
              | true => exact Or.inr ⟨rfl, z, by omega⟩
              | false => exact Or.inl (Or.inr ⟨q1, Or.inr ⟨z, Or.inr ⟨by omega, trivial, rfl⟩⟩⟩)
          · exact absurd z'.2.1 id
      have no : ∀ (o : Bool) (S S' : Bool → Nat → Nat → Prop), (∀ o' t' x', (M ∧ wd hw wo o' (12 * t' + x')) → S o' t' x') → (∀ o' t' x', S' o' t' x' → M ∨ wd hw wo o' (12 * t' + x')) → (M ∧ wd hw wo o (12 * t + u)) ∨ (¬ M ∧ ¬ wd hw wo o (12 * t + u)) → S' o t u → S o t u := by
        intro o S S' p1 p2 z q
        rcases z with z | z
        · exact p1 o t u z
        · rcases p2 o t u q with w | w
          · exact absurd w z.1
          · exact absurd w z.2
      have pA : ∀ (v : Nat) (hf : Prop) (o' : Bool) (t' x' : Nat), (M ∧ wd hw wo o' (12 * t' + x')) → Sq hw wo M t v hf o' t' x' := fun v hf o' t' x' z => Or.inl z
      have pB : ∀ (v : Nat) (hf : Prop) (o' : Bool) (t' x' : Nat), Sq hw wo M t v hf o' t' x' → M ∨ wd hw wo o' (12 * t' + x') := fun v hf o' t' x' z => by
        rcases z with z | z
        · exact Or.inl z.1
        · exact z.1
      have go2 : ∀ σ1, FI σ0 N n (VV (cc σ0) N (σ0 18)) b 0 σ1 → RT (cc σ0) N sz n (VV (cc σ0) N (σ0 18)) σ1 y (Sq hw wo M t u False) → wp_X0_layAll_B83 K (fun z0 z1 z2 z3 σ => wp_X0_layAll_L26 K Q (u + 1) z0 z1 z2 z3 σ) (y : Int) wI (t : Int) (((u + 1 : Nat) : Int) - 1) Q σ1 := by
        intro σ1 hI1 hR1
        unfold wp_X0_layAll_B83
        intro x_8 ex
        rw [ex, show (((u + 1 : Nat) : Int) - 1 + -1) = (u : Int) - 1 by omega]
        exact ih σ1 (by omega) hI1 hR1
      have go1 : ∀ σ1, FI σ0 N n (VV (cc σ0) N (σ0 18)) b 0 σ1 → RT (cc σ0) N sz n (VV (cc σ0) N (σ0 18)) σ1 y (Sq hw wo M t (u + 1) True) → wp_X0_layAll_B61 K (fun z0 z1 z2 z3 σ => wp_X0_layAll_L26 K Q (u + 1) z0 z1 z2 z3 σ) (y : Int) wI (t : Int) (((u + 1 : Nat) : Int) - 1) ((12 * t + u : Nat) : Int) Q σ1 := by
        intro σ1 hI1 hR1
        unfold wp_X0_layAll_B61
        refine lay_w (o := true) (w := 11) (M := M) (S := Sq hw wo M t (u + 1) True) (S' := Sq hw wo M t u False) hN hsz ht (by omega) rfl rfl (by omega) m4 wT hMw hI1 hR1 s2 (no true _ _ (pA _ _) (pB _ _)) (fun _ => ?_) go2
        refine lay_one1 (S := Sq hw wo M t (u + 1) True) (S' := Sq hw wo M t u False) (b := b) hn hN h17 hyn hFC hCL ht (by omega) rfl hI1 hR1 s2 (fun q o' t' x' a1 a2 r => ?_) go2
        unfold Sq
        rcases r with r | ⟨_, r | r⟩
        · omega
        · have m : M := by
            rcases q with z | z
            · exact z.1
            · exact z.1.elim id (fun w => absurd w r.1)
          exact Or.inl ⟨m, r.2⟩
        · refine Or.inr ⟨?_, Or.inr ⟨r.2.1, ?_⟩⟩
          · rcases q with z | z
            · exact Or.inl z.1
            · exact z.1.elim Or.inl (fun w => Or.inr (r.1.mpr w))
          · rcases r.2.2 with w | w
            · exact Or.inl (by omega)
            · exact Or.inr ⟨by omega, trivial, w.2.1⟩
      refine lay_w (o := false) (w := 8) (M := M) (S := Sq hw wo M t (u + 1) False) (S' := Sq hw wo M t (u + 1) True) hN hsz ht (by omega) rfl rfl (by omega) m3 wF hMw hI' hR' s1 (no false _ _ (pA _ _) (pB _ _)) (fun _ => ?_) go1
      refine lay_one0 (S := Sq hw wo M t (u + 1) False) (S' := Sq hw wo M t (u + 1) True) (b := b) hn hN h17 hyn hFC hCL hAX hs ht (by omega) rfl hI' hR' s1 (fun q => ⟨?_, fun o' t' x' a1 a2 r => ?_⟩) go1
      · rcases hM with m | m
        · exact Or.inl m.2
        · refine Or.inr ⟨m.2, ?_⟩
          rcases q with z | z
          · exact absurd z.1 m.1
          · exact z.1.elim (fun w => absurd w m.1) id
      · unfold Sq
        rcases r with r | ⟨_, r | r⟩
        · omega
        · have m : M := by
            rcases q with z | z
            · exact z.1
            · exact z.1.elim id (fun w => absurd w r.1)
          exact Or.inl ⟨m, r.2⟩
        · refine Or.inr ⟨?_, Or.inr ⟨r.2.1, ?_⟩⟩
          · rcases q with z | z
            · exact Or.inl z.1
            · exact z.1.elim Or.inl (fun w => Or.inr (r.1.mpr w))
          · rcases r.2.2 with w | w
            · exact Or.inl (by omega)
            · exact absurd w.2.2 (by decide)
  have outer : ∀ (m t : Nat) (σ' : St), N - t = m → t ≤ N → FI σ0 N n (VV (cc σ0) N (σ0 18)) b 0 σ' → RT (cc σ0) N sz n (VV (cc σ0) N (σ0 18)) σ' y (Sw hw wo M t) → wp_X0_layAll_L2 Q (m + 1) (y : Int) wI (t : Int) σ' := by
    intro m
    induction m with
    | zero =>
      intro t σ' hm ht hI' hR'
      have e3 : σ' 3 = σ0 3 := hI'.1 3 (by decide) (by decide) (by decide) (by decide)
      unfold wp_X0_layAll_L2
      rw [e3, h34, w32_id (show -2147483648 ≤ (N : Int) by omega) (by omega), w32_id (show -2147483648 ≤ (t : Int) by omega) (by omega)]
      refine ⟨fun _ => ?_, fun z => by omega⟩
      rw [show t = N by omega] at hR'
      exact h σ' hI' hR'
    | succ m ih =>
      intro t σ' hm ht hI' hR'
      have e3 : σ' 3 = σ0 3 := hI'.1 3 (by decide) (by decide) (by decide) (by decide)
      have e10 : σ' 10 = σ0 10 := hI'.1 10 (by decide) (by decide) (by decide) (by decide)
      unfold wp_X0_layAll_L2
      rw [e3, h34, w32_id (show -2147483648 ≤ (N : Int) by omega) (by omega), w32_id (show -2147483648 ≤ (t : Int) by omega) (by omega)]
      refine ⟨fun z => by omega, fun _ => ⟨by omega, fun x_1 ex => ?_⟩⟩
      rw [e10, show ((t : Nat) : Int).toNat = t by omega, h10 t (by omega)] at ex
      rw [ex]
      refine ⟨_, inner _ t (by omega) (fun σ'' a b => ih (t + 1) σ'' (by omega) (by omega) a b) (sz t) σ' (Nat.le_refl _) hI' (RT_mono (fun o t' x' a1 a2 q => ?_) hR')⟩
      unfold Sq at q
      unfold Sw
      rcases q with q | ⟨q1, q2⟩
      · exact Or.inl q
      · refine Or.inr ⟨q1, ?_⟩
        rcases q2 with z | ⟨z, z' | z'⟩
        · exact z
        · subst z; omega
        · exact absurd z'.2.1 id
  unfold wp_X0_layAll
  exact ⟨_, outer N 0 σ (by omega) (by omega) hI hR⟩
