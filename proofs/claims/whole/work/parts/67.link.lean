/-! pure: the class links the parts and tells where the foot is -/
def HF (kd p : Nat → Int) (n : Nat) (y : Nat) : Prop := ∃ k f, f < n ∧ kd f = 2 ∧ itp p k (f : Int) = (y : Int)
theorem HF_step {kd p : Nat → Int} {n y : Nat} (h : Pd p n) (hy : y < n) : HF kd p n y ↔ kd y = 2 ∨ ∃ z, z < n ∧ p z = (y : Int) ∧ HF kd p n z := by
  constructor
  · rintro ⟨k, f, hf, hk, he⟩
    cases k with
    | zero =>
      have : f = y := by have : (f : Int) = (y : Int) := he; omega
      subst this
      exact Or.inl hk
    | succ k =>
      right
      have hr := itp_r h (x := (f : Int)) (by omega) k
      have he' : (if itp p k (f : Int) < 0 then -1 else p (itp p k (f : Int)).toNat) = (y : Int) := he
      by_cases q : itp p k (f : Int) < 0
      · rw [if_pos q] at he'; omega
      · rw [if_neg q] at he'
        exact ⟨(itp p k (f : Int)).toNat, by omega, he', k, f, hf, hk, by omega⟩
  · rintro (hk | ⟨z, hz, hp, k, f, hf, hk, he⟩)
    · exact ⟨0, y, hy, hk, rfl⟩
    · refine ⟨k + 1, f, hf, hk, ?_⟩
      show (if itp p k (f : Int) < 0 then -1 else p (itp p k (f : Int)).toNat) = (y : Int)
      rw [he, if_neg (by omega), show ((z : Int)).toNat = z by omega]
      exact hp
/-- the next part of the same node, -1 for the last one -/
noncomputable def nx (p : Nat → Int) (n x : Nat) : Int := fndF (fun y => p y = p x) (n - (x + 1)) (x + 1)
theorem nx_spec (p : Nat → Int) (n x : Nat) : (nx p n x = -1 ∧ ∀ j, x < j → j < n → p j ≠ p x) ∨ ∃ j : Nat, nx p n x = (j : Int) ∧ x < j ∧ j < n ∧ p j = p x ∧ ∀ i, x < i → i < j → p i ≠ p x := by
  unfold nx
  rcases fndF_spec (fun y => p y = p x) (n - (x + 1)) (x + 1) with ⟨h1, h2⟩ | ⟨j, h1, h2, h3, h4, h5⟩
  · exact Or.inl ⟨h1, fun j a b => h2 j (by omega) (by omega)⟩
  · exact Or.inr ⟨j, h1, by omega, by omega, h4, fun i a b => h5 i (by omega) b⟩
def FO (kd p : Nat → Int) (n : Nat) (x : Nat) : Prop := ∃ y, x ≤ y ∧ y < n ∧ p y = p x ∧ HF kd p n y
theorem FO_step {kd p : Nat → Int} {n x : Nat} (hx : x < n) : FO kd p n x ↔ HF kd p n x ∨ (nx p n x ≠ -1 ∧ FO kd p n (nx p n x).toNat) := by
  constructor
  · rintro ⟨y, h1, h2, h3, h4⟩
    by_cases e : y = x
    · subst e; exact Or.inl h4
    · right
      rcases nx_spec p n x with ⟨_, q⟩ | ⟨j, q1, q2, q3, q4, q5⟩
      · exact absurd h3 (q y (by omega) h2)
      · rw [q1]
        refine ⟨by omega, y, ?_, h2, by rw [show ((j : Int)).toNat = j by omega, q4]; exact h3, h4⟩
        rcases Nat.lt_or_ge y j with z | z
        · exact absurd h3 (q5 y (by omega) z)
        · omega
  · rintro (h | ⟨h1, y, h2, h3, h4, h5⟩)
    · exact ⟨x, Nat.le_refl x, hx, rfl, h⟩
    · rcases nx_spec p n x with ⟨q, _⟩ | ⟨j, q1, q2, q3, q4, q5⟩
      · exact absurd q h1
      · rw [q1, show ((j : Int)).toNat = j by omega] at h2 h4
        exact ⟨y, by omega, h3, by rw [h4, q4], h5⟩
noncomputable def nxr (p : Nat → Int) (n t x : Nat) : Int := if nx p n x = -1 then -1 else ((12 * t + (nx p n x).toNat : Nat) : Int)
theorem sp_nextPart {Q : Int → St → Prop} {σ : St} {t n x : Nat} (ht : t ≤ 16) (hn : n ≤ 12) (hx : x < n) (hsz : σ 10 t = (n : Int)) (hp : ∀ y, y < n → -1 ≤ nd σ t y 2 ∧ nd σ t y 2 < 12) (h : Q (nxr (fun y => nd σ t y 2) n t x) σ) : wp_X1_nextPart (t : Int) (x : Int) Q σ := by
  unfold wp_X1_nextPart wp_X1_row
  refine sp_cell (w := 2) (show (t : Int) * 12 + (x : Int) = ((12 * t + x : Nat) : Int) by omega) rfl ht (by omega) (by omega) ?_
  intro x5 e5
  rw [show x5 = ((x + 1 : Nat) : Int) by rw [e5]; omega]
  have hpx := hp x hx
  have key : ∀ (m y : Nat), x < y → y ≤ n → n - y = m → nx (fun y => nd σ t y 2) n x = fndF (fun y => nd σ t y 2 = nd σ t x 2) m y → wp_X1_nextPart_L16 Q (m + 1) (t : Int) (nd σ t x 2) (y : Int) σ := by
    intro m
    induction m with
    | zero =>
      intro y h1 h2 h3 hf
      unfold wp_X1_nextPart_L16
      rw [w32_id (show -2147483648 ≤ (t : Int) by omega) (by omega), show ((t : Int)).toNat = t by omega, hsz]
      simp (disch := omega) only [w32_id]
      refine ⟨by omega, fun _ => ?_, fun q => by omega⟩
      unfold nxr at h
      rw [hf] at h
      exact h
    | succ m ih =>
      intro y h1 h2 h3 hf
      have hpy := hp y (by omega)
      unfold wp_X1_nextPart_L16 wp_X1_row
      rw [w32_id (show -2147483648 ≤ (t : Int) by omega) (by omega), show ((t : Int)).toNat = t by omega, hsz]
      simp (disch := omega) only [w32_id]
      refine ⟨by omega, fun q => by omega, fun _ => ?_⟩
      refine sp_cell (w := 2) (show (t : Int) * 12 + (y : Int) = ((12 * t + y : Nat) : Int) by omega) rfl ht (by omega) (by omega) ?_
      rw [w32_id (show -2147483648 ≤ nd σ t y 2 by omega) (by omega)]
      refine ⟨fun q x6 e6 => ?_, fun q => ?_⟩
      · rw [show x6 = ((y + 1 : Nat) : Int) by rw [e6]; omega]
        exact ih (y + 1) (by omega) (by omega) (by omega) (by rw [hf, fndF_f q])
      · unfold nxr at h
        rw [hf, fndF_t q, if_neg (by omega), show ((y : Int)).toNat = y by omega] at h
        rw [show (t : Int) * 12 + (y : Int) = ((12 * t + y : Nat) : Int) by omega]
        exact h
  exact ⟨_, key _ (x + 1) (by omega) (by omega) rfl rfl⟩
theorem bI_congr {P Q : Prop} (h : P ↔ Q) : bI P = bI Q := by rw [propext h]
theorem bI_1 {P : Prop} : bI P = 1 ↔ P := by
  constructor
  · intro h
    by_cases q : P
    · exact q
    · rw [bI_f q] at h; exact absurd h (by decide)
  · exact bI_t
theorem bI_01 (P : Prop) : bI P = 0 ∨ bI P = 1 := by
  by_cases q : P
  · exact Or.inr (bI_t q)
  · exact Or.inl (bI_f q)
/-- where FEET, LEAST and WORDS lie: of the node alone, of it and the later parts -/
def wA (u : Nat) : Nat := pm (6 + u)
def wO (u : Nat) : Nat := pm (9 + u)
theorem wA_f : ∀ u, u < 3 → 5 < wA u ∧ wA u < 12 ∧ 5 < wO u ∧ wO u < 12 ∧ pm (wA u) = 6 + u ∧ pm (wO u) = 9 + u := by decide
theorem wA_d : ∀ u, u < 3 → ∀ u', u' < 3 → wA u ≠ wO u' ∧ (u ≠ u' → wA u ≠ wA u' ∧ wO u ≠ wO u') := by decide
/-- FEET, LEAST and WORDS of a node without parts -/
def lfv (k : Int) (u : Nat) : Int := zf3 (3 * k.toNat + u)
/-- what the sums of a node are made of -/
def SQ (kd p : Nat → Int) (f : Nat → Nat → Int) (n y u : Nat) : Prop := f y (wA u) = (if kd y = 0 then f (y + 1) (wO u) else lfv (kd y) u) ∧ f y (wO u) = f y (wA u) + (if nx p n y = -1 then 0 else f (nx p n y).toNat (wO u))
/-- nodes from i on are linked -/
def LI (σ0 σ : St) (t n i : Nat) : Prop := (∀ o k, o ≠ 11 → σ o k = σ0 o k) ∧ (∀ t' x w, x < 12 → w < 12 → ¬ (t' = t ∧ x < n ∧ 5 ≤ w) → nd σ t' x w = nd σ0 t' x w) ∧
  (∀ y, i ≤ y → y < n → nd σ t y 5 = nxr (fun z => nd σ0 t z 2) n t y ∧ ∀ u, u < 3 → SQ (fun z => nd σ0 t z 0) (fun z => nd σ0 t z 2) (nd σ t) n y u)
theorem SQ_c {kd p : Nat → Int} {f g : Nat → Nat → Int} {n y u : Nat} (h : SQ kd p f n y u) (e : ∀ z, y ≤ z → z < 13 → f z (wA u) = g z (wA u) ∧ f z (wO u) = g z (wO u)) (hn : n ≤ 12) (hy : y < n) : SQ kd p g n y u := by
  obtain ⟨h1, h2⟩ := h
  have e0 := e y (by omega) (by omega)
  refine ⟨?_, ?_⟩
  · rw [← e0.1, h1, (e (y + 1) (by omega) (by omega)).2]
  · rw [← e0.1, ← e0.2, h2]
    rcases nx_spec p n y with ⟨q, _⟩ | ⟨j, q1, q2, q3, _⟩
    · rw [if_pos q, if_pos q]
    · rw [q1, show ((j : Int)).toNat = j by omega, (e j (by omega) (by omega)).2]
theorem sp_link {Q : St → Prop} {σ : St} {t n : Nat} (ht : t ≤ 16) (hn : n ≤ 12) (hsz : σ 10 t = (n : Int)) (hpd : Pd (fun x => nd σ t x 2) n) (hkd : ∀ x, x < n → 0 ≤ nd σ t x 0 ∧ nd σ t x 0 ≤ 3) (hkid : ∀ x, x < n → nd σ t x 0 = 0 → x + 1 < n) (h : ∀ σ', LI σ σ' t n 0 → Q σ') : wp_X1_link (t : Int) Q σ := by
  unfold wp_X1_link
  rw [w32_id (show -2147483648 ≤ (t : Int) by omega) (by omega), show ((t : Int)).toNat = t by omega, hsz]
  refine ⟨by omega, fun x1 e1 => ?_⟩
  have key : ∀ (i : Nat) (σ1 : St), i ≤ n → LI σ σ1 t n i → wp_X1_link_L9 Q (i + 1) (t : Int) ((i : Int) - 1) σ1 := by
    intro i
    induction i with
    | zero =>
      intro σ1 _ hL
      unfold wp_X1_link_L9
      refine ⟨fun _ => h σ1 hL, fun q => absurd (by decide) q⟩
    | succ x ih =>
      intro σ1 hi hL
      obtain ⟨l1, l2, l3⟩ := hL
      have hx : x < n := by omega
      have p1 : ∀ y, y < n → nd σ1 t y 2 = nd σ t y 2 := fun y hy => l2 t y 2 (by omega) (by omega) (by omega)
      have hp1 : ∀ y, y < n → -1 ≤ nd σ1 t y 2 ∧ nd σ1 t y 2 < 12 := fun y hy => by rw [p1 y hy]; have := hpd y hy; simp only [] at this; omega
      have nxe : nxr (fun y => nd σ1 t y 2) n t x = nxr (fun y => nd σ t y 2) n t x := by
        have : nx (fun y => nd σ1 t y 2) n x = nx (fun y => nd σ t y 2) n x := by
          unfold nx
          exact fndF_congr _ _ (fun j a b => by simp only []; rw [p1 j (by omega), p1 x hx])
        unfold nxr
        rw [this]
      have hrx : (t : Int) * 12 + (x : Int) = ((12 * t + x : Nat) : Int) := by omega
      have kx := hkd x hx
      have k01 : nd σ1 t x 0 = nd σ t x 0 := l2 t x 0 (by omega) (by omega) (by omega)
      -- the three sums, one after the other
      have inner : ∀ (m u : Nat) (σ2 : St), u + m = 3 → (∀ o k, o ≠ 11 → σ2 o k = σ o k) → (∀ t' x w, x < 12 → w < 12 → ¬ (t' = t ∧ x < n ∧ 5 ≤ w) → nd σ2 t' x w = nd σ t' x w) → (∀ y, x < y → y < n → nd σ2 t y 5 = nxr (fun z => nd σ t z 2) n t y ∧ ∀ u, u < 3 → SQ (fun z => nd σ t z 0) (fun z => nd σ t z 2) (nd σ2 t) n y u) → nd σ2 t x 5 = nxr (fun z => nd σ t z 2) n t x → (∀ u', u' < u → SQ (fun z => nd σ t z 0) (fun z => nd σ t z 2) (nd σ2 t) n x u') →
          wp_X1_link_L47 (fun z0 z1 σ => wp_X1_link_L9 Q (x + 1) z0 z1 σ) Q (m + 1) (t : Int) (x : Int) ((t : Int) * 12 + (x : Int)) (nd σ t x 0) (nxr (fun y => nd σ t y 2) n t x) ((6 + u : Nat) : Int) σ2 := by
        intro m
        induction m with
        | zero =>
          intro u σ2 hu i1 i2 i3 i4 i5
          unfold wp_X1_link_L47
          rw [w32_id (show -2147483648 ≤ ((6 + u : Nat) : Int) by omega) (by omega)]
          refine ⟨fun _ x9 e9 => ?_, fun q => by omega⟩
          rw [show x9 = (x : Int) - 1 by rw [e9]; omega]
          refine ih σ2 (by omega) ⟨i1, i2, fun y a b => ?_⟩
          by_cases e : y = x
          · subst e; exact ⟨i4, fun u' hu' => i5 u' (by omega)⟩
          · exact i3 y (by omega) b
        | succ m ihm =>
          intro u σ2 hu i1 i2 i3 i4 i5
          have hu3 : u < 3 := by omega
          obtain ⟨a1, a2, a3, a4, a5, a6⟩ := wA_f u hu3
          have fin : ∀ here later : Int, here = (if nd σ t x 0 = 0 then nd σ2 t (x + 1) (wO u) else lfv (nd σ t x 0) u) → later = (if nx (fun z => nd σ t z 2) n x = -1 then 0 else nd σ2 t (nx (fun z => nd σ t z 2) n x).toNat (wO u)) →
              wp_X1_link_B109 (fun z0 z1 σ => wp_X1_link_L9 Q (x + 1) z0 z1 σ) (fun z0 z1 z2 z3 z4 z5 σ => wp_X1_link_L47 (fun z0 z1 σ => wp_X1_link_L9 Q (x + 1) z0 z1 σ) Q (m + 1) z0 z1 z2 z3 z4 z5 σ) (t : Int) (x : Int) ((t : Int) * 12 + (x : Int)) (nd σ t x 0) (nxr (fun y => nd σ t y 2) n t x) ((6 + u : Nat) : Int) here later Q σ2 := by
            intro here later hh hl
            unfold wp_X1_link_B109
            refine sp_set (w := wA u) hrx (by rw [a5]) ht (by omega) a2 ?_
            refine sp_set (w := wO u) hrx (by rw [a6]; omega) ht (by omega) a4 ?_
            intro x9 e9
            rw [show x9 = ((6 + (u + 1) : Nat) : Int) by rw [e9]; omega]
            have g : ∀ t' x' w, x' < 12 → w < 12 → nd (sn (sn σ2 t x (wA u) here) t x (wO u) (here + later)) t' x' w = if t' = t ∧ x' = x ∧ w = wO u then here + later else if t' = t ∧ x' = x ∧ w = wA u then here else nd σ2 t' x' w := fun t' x' w a b => by
              rw [nd_sn _ _ (by omega) a4 a b, nd_sn _ _ (by omega) a2 a b]
            have gx : ∀ x' w, x' < 12 → w < 12 → x' ≠ x → nd (sn (sn σ2 t x (wA u) here) t x (wO u) (here + later)) t x' w = nd σ2 t x' w := fun x' w a b c => by
              rw [g t x' w a b, if_neg (fun z => c z.2.1), if_neg (fun z => c z.2.1)]
            have g13 : ∀ w, w < 12 → ∀ x', x < x' → x' < 13 → nd (sn (sn σ2 t x (wA u) here) t x (wO u) (here + later)) t x' w = nd σ2 t x' w := fun w hw x' a b => by
              by_cases e : x' < 12
              · exact gx x' w e hw (by omega)
              · have l := pm_lt w hw
                have lA := pm_lt (wA u) a2
                have lO := pm_lt (wO u) a4
                unfold nd sn
                rw [su_ko _ _ (by omega), su_ko _ _ (by omega)]
            refine ihm (u + 1) _ (by omega) (fun o k a => by rw [sn_fr _ _ a, sn_fr _ _ a]; exact i1 o k a) (fun t' x' w a b c => ?_) (fun y a b => ?_) ?_ (fun u' hu' => ?_)
            · rw [g t' x' w a b, if_neg (by omega), if_neg (by omega)]; exact i2 t' x' w a b c
            · obtain ⟨j1, j2⟩ := i3 y a b
              refine ⟨by rw [gx y 5 (by omega) (by omega) (by omega)]; exact j1, fun v hv => ?_⟩
              obtain ⟨b1, b2, b3, b4, _, _⟩ := wA_f v hv
              exact SQ_c (j2 v hv) (fun z z1 z2 => ⟨(g13 (wA v) b2 z (by omega) z2).symm, (g13 (wO v) b4 z (by omega) z2).symm⟩) hn b
            · rw [g t x 5 (by omega) (by omega), if_neg (by omega), if_neg (by omega)]; exact i4
            · obtain ⟨b1, b2, b3, b4, _, _⟩ := wA_f u' (by omega)
              have d1 := wA_d u hu3 u' (by omega)
              have d2 := wA_d u' (by omega) u hu3
              by_cases e : u' = u
              · subst e
                refine ⟨?_, ?_⟩
                · rw [g t x (wA u') (by omega) b2, if_neg (fun z => d1.1 z.2.2), if_pos ⟨rfl, rfl, rfl⟩]
                  by_cases q : nd σ t x 0 = 0
                  · rw [if_pos q, g13 (wO u') b4 (x + 1) (by omega) (by omega), hh, if_pos q]
                  · rw [if_neg q, hh, if_neg q]
                · rw [g t x (wA u') (by omega) b2, if_neg (fun z => d1.1 z.2.2), if_pos ⟨rfl, rfl, rfl⟩, g t x (wO u') (by omega) b4, if_pos ⟨rfl, rfl, rfl⟩]
                  rcases nx_spec (fun z => nd σ t z 2) n x with ⟨q, _⟩ | ⟨j, q1, q2, q3, _⟩
                  · rw [if_pos q, hl, if_pos q]
                  · rw [q1, if_neg (by omega), show ((j : Int)).toNat = j by omega, g13 (wO u') b4 j (by omega) (by omega), hl, q1, if_neg (by omega), show ((j : Int)).toNat = j by omega]
              · have d3 := d1.2 (fun z => e z.symm)
                refine SQ_c (i5 u' (by omega)) (fun z z1 z2 => ?_) hn hx
                by_cases ez : z = x
                · subst ez
                  exact ⟨by rw [g t z (wA u') (by omega) b2, if_neg (fun w => d2.1 w.2.2), if_neg (fun w => d3.1 w.2.2.symm)], by rw [g t z (wO u') (by omega) b4, if_neg (fun w => d3.2 w.2.2.symm), if_neg (fun w => d1.1 w.2.2.symm)]⟩
                · exact ⟨(g13 (wA u') b2 z (by omega) z2).symm, (g13 (wO u') b4 z (by omega) z2).symm⟩
          have b87 : ∀ here : Int, here = (if nd σ t x 0 = 0 then nd σ2 t (x + 1) (wO u) else lfv (nd σ t x 0) u) →
              wp_X1_link_B87 (fun z0 z1 σ => wp_X1_link_L9 Q (x + 1) z0 z1 σ) (fun z0 z1 z2 z3 z4 z5 σ => wp_X1_link_L47 (fun z0 z1 σ => wp_X1_link_L9 Q (x + 1) z0 z1 σ) Q (m + 1) z0 z1 z2 z3 z4 z5 σ) (t : Int) (x : Int) ((t : Int) * 12 + (x : Int)) (nd σ t x 0) (nxr (fun y => nd σ t y 2) n t x) ((6 + u : Nat) : Int) here Q σ2 := by
            intro here hh
            unfold wp_X1_link_B87
            rcases nx_spec (fun z => nd σ t z 2) n x with ⟨q, _⟩ | ⟨j, q1, q2, q3, _⟩
            · have e1 : nxr (fun y => nd σ t y 2) n t x = -1 := by unfold nxr; rw [if_pos q]
              rw [e1] at fin ⊢
              exact ⟨fun z => absurd (by decide) z, fun _ => fin here 0 hh (by rw [if_pos q])⟩
            · have e1 : nxr (fun y => nd σ t y 2) n t x = ((12 * t + j : Nat) : Int) := by unfold nxr; rw [q1, if_neg (by omega), show ((j : Int)).toNat = j by omega]
              rw [e1] at fin ⊢
              rw [w32_id (show -2147483648 ≤ ((12 * t + j : Nat) : Int) by omega) (by omega)]
              refine ⟨fun _ => ?_, fun z => by omega⟩
              refine sp_cell (t := t) (x := j) (w := wO u) rfl (by rw [a6]; omega) ht (by omega) a4 ?_
              exact fin here _ hh (by rw [q1, if_neg (by omega), show ((j : Int)).toNat = j by omega])
          unfold wp_X1_link_L47
          rw [w32_id (show -2147483648 ≤ ((6 + u : Nat) : Int) by omega) (by omega), w32_id (show -2147483648 ≤ nd σ t x 0 by omega) (by omega)]
          refine ⟨fun q => by omega, fun _ => ⟨fun q => ?_, fun q => ?_⟩⟩
          · have ew : nd σ t x 0 * 3 + ((6 + u : Nat) : Int) - 6 = ((3 * (nd σ t x 0).toNat + u : Nat) : Int) := by omega
            rw [ew, w32_id (by omega) (by omega), show (((3 * (nd σ t x 0).toNat + u : Nat)) : Int).toNat = 3 * (nd σ t x 0).toNat + u by omega]
            exact ⟨by omega, b87 _ (by rw [if_neg q]; rfl)⟩
          · have hx1 := hkid x hx q
            refine sp_cell (t := t) (x := x + 1) (w := wO u) (by omega) (by rw [a6]; omega) ht (by omega) a4 ?_
            exact b87 _ (by rw [if_pos q])
      unfold wp_X1_link_L9 wp_X1_row
      rw [show ((x + 1 : Nat) : Int) - 1 = (x : Int) by omega, w32_id (show -2147483648 ≤ (x : Int) by omega) (by omega)]
      refine ⟨fun q => by omega, fun _ => ?_⟩
      refine sp_cell (w := 0) hrx rfl ht (by omega) (by omega) ?_
      refine sp_nextPart ht hn hx (by rw [l1 10 t (by omega)]; exact hsz) hp1 ?_
      rw [nxe, k01]
      refine sp_set (w := 5) hrx rfl ht (by omega) (by omega) ?_
      have g5 : ∀ t' x' w, x' < 12 → w < 12 → nd (sn σ1 t x 5 (nxr (fun y => nd σ t y 2) n t x)) t' x' w = if t' = t ∧ x' = x ∧ w = 5 then nxr (fun y => nd σ t y 2) n t x else nd σ1 t' x' w := fun t' x' w a b => by
        rw [nd_sn _ _ (by omega) (by omega) a b]
      refine ⟨_, inner 3 0 _ (by omega) (fun o k a => by rw [sn_fr _ _ a]; exact l1 o k a) (fun t' x' w a b c => ?_) (fun y a b => ?_) ?_ (fun u' hu' => by omega)⟩
      · rw [g5 t' x' w a b, if_neg (by omega)]; exact l2 t' x' w a b c
      · obtain ⟨j1, j2⟩ := l3 y (by omega) b
        refine ⟨by rw [g5 t y 5 (by omega) (by omega), if_neg (by omega)]; exact j1, fun v hv => ?_⟩
        obtain ⟨b1, b2, b3, b4, _, _⟩ := wA_f v hv
        have gg : ∀ w, 5 < w → w < 12 → ∀ z, nd (sn σ1 t x 5 (nxr (fun y => nd σ t y 2) n t x)) t z w = nd σ1 t z w := fun w hw hw2 z => by
          have l := pm_lt w hw2
          have l5 : pm 5 = 5 := rfl
          have li := pm_inj w hw2 5 (by omega)
          unfold nd sn
          rw [su_ko _ _ (fun q => ?_)]
          have : pm w = pm 5 := by omega
          have := li this
          omega
        exact SQ_c (j2 v hv) (fun z z1 z2 => ⟨(gg (wA v) b1 b2 z).symm, (gg (wO v) b3 b4 z).symm⟩) hn b
      · rw [g5 t x 5 (by omega) (by omega), if_pos ⟨rfl, rfl, rfl⟩]
  rw [show x1 = (n : Int) - 1 by rw [e1]]
  exact ⟨_, key n σ (Nat.le_refl n) ⟨fun _ _ _ => rfl, fun _ _ _ _ _ _ => rfl, fun y a b => by omega⟩⟩
