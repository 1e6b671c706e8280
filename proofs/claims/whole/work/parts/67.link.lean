/-! pure: the class links the parts and tells where the foot is -/
def HF (kd p : Nat → Int) (n : Nat) (y : Nat) : Prop := ∃ k f, f < n ∧ kd f = 2 ∧ itp p k (f : Int) = (y : Int)
theorem HF_step {kd p : Nat → Int} {n y : Nat} (h : Pd p n) (hy : y < n) : HF kd p n y ↔ kd y = 2 ∨ ∃ z, z < n ∧ p z = (y : Int) ∧ HF kd p n z := by
  constructor
  · rintro ⟨k, f, hf, hk, he⟩
    cases k with
    | zero =>
      have : f = y := by have : (f : Int) = (y : Int) := he; omega
      subst this
      exact Or.inl hk
    | succ k =>
      right
      have hr := itp_r h (x := (f : Int)) (by omega) k
      have he' : (if itp p k (f : Int) < 0 then -1 else p (itp p k (f : Int)).toNat) = (y : Int) := he
      by_cases q : itp p k (f : Int) < 0
      · rw [if_pos q] at he'; omega
      · rw [if_neg q] at he'
        exact ⟨(itp p k (f : Int)).toNat, by omega, he', k, f, hf, hk, by omega⟩
  · rintro (hk | ⟨z, hz, hp, k, f, hf, hk, he⟩)
    · exact ⟨0, y, hy, hk, rfl⟩
    · refine ⟨k + 1, f, hf, hk, ?_⟩
      show (if itp p k (f : Int) < 0 then -1 else p (itp p k (f : Int)).toNat) = (y : Int)
      rw [he, if_neg (by omega), show ((z : Int)).toNat = z by omega]
      exact hp
/-- the next part of the same node, -1 for the last one -/
noncomputable def nx (p : Nat → Int) (n x : Nat) : Int := fndF (fun y => p y = p x) (n - (x + 1)) (x + 1)
theorem nx_spec (p : Nat → Int) (n x : Nat) : (nx p n x = -1 ∧ ∀ j, x < j → j < n → p j ≠ p x) ∨ ∃ j : Nat, nx p n x = (j : Int) ∧ x < j ∧ j < n ∧ p j = p x ∧ ∀ i, x < i → i < j → p i ≠ p x := by
  unfold nx
  rcases fndF_spec (fun y => p y = p x) (n - (x + 1)) (x + 1) with ⟨h1, h2⟩ | ⟨j, h1, h2, h3, h4, h5⟩
  · exact Or.inl ⟨h1, fun j a b => h2 j (by omega) (by omega)⟩
  · exact Or.inr ⟨j, h1, by omega, by omega, h4, fun i a b => h5 i (by omega) b⟩
def FO (kd p : Nat → Int) (n : Nat) (x : Nat) : Prop := ∃ y, x ≤ y ∧ y < n ∧ p y = p x ∧ HF kd p n y
theorem FO_step {kd p : Nat → Int} {n x : Nat} (hx : x < n) : FO kd p n x ↔ HF kd p n x ∨ (nx p n x ≠ -1 ∧ FO kd p n (nx p n x).toNat) := by
  constructor
  · rintro ⟨y, h1, h2, h3, h4⟩
    by_cases e : y = x
    · subst e; exact Or.inl h4
    · right
      rcases nx_spec p n x with ⟨_, q⟩ | ⟨j, q1, q2, q3, q4, q5⟩
      · exact absurd h3 (q y (by omega) h2)
      · rw [q1]
        refine ⟨by omega, y, ?_, h2, by rw [show ((j : Int)).toNat = j by omega, q4]; exact h3, h4⟩
        rcases Nat.lt_or_ge y j with z | z
        · exact absurd h3 (q5 y (by omega) z)
        · omega
  · rintro (h | ⟨h1, y, h2, h3, h4, h5⟩)
    · exact ⟨x, Nat.le_refl x, hx, rfl, h⟩
    · rcases nx_spec p n x with ⟨q, _⟩ | ⟨j, q1, q2, q3, q4, q5⟩
      · exact absurd q h1
      · rw [q1, show ((j : Int)).toNat = j by omega] at h2 h4
        exact ⟨y, by omega, h3, by rw [h4, q4], h5⟩
noncomputable def nxr (p : Nat → Int) (n t x : Nat) : Int := if nx p n x = -1 then -1 else ((12 * t + (nx p n x).toNat : Nat) : Int)
theorem sp_nextPart {Q : Int → St → Prop} {σ : St} {t n x : Nat} (ht : t ≤ 16) (hn : n ≤ 12) (hx : x < n) (hsz : σ 10 t = (n : Int)) (hp : ∀ y, y < n → -1 ≤ nd σ t y 2 ∧ nd σ t y 2 < 12) (h : Q (nxr (fun y => nd σ t y 2) n t x) σ) : wp_X1_nextPart (t : Int) (x : Int) Q σ := by
  unfold wp_X1_nextPart wp_X1_row
  refine sp_cell (w := 2) (show (t : Int) * 12 + (x : Int) = ((12 * t + x : Nat) : Int) by omega) rfl ht (by omega) (by omega) ?_
  intro x5 e5
  rw [show x5 = ((x + 1 : Nat) : Int) by rw [e5]; omega]
  have hpx := hp x hx
  have key : ∀ (m y : Nat), x < y → y ≤ n → n - y = m → nx (fun y => nd σ t y 2) n x = fndF (fun y => nd σ t y 2 = nd σ t x 2) m y → wp_X1_nextPart_L16 Q (m + 1) (t : Int) (nd σ t x 2) (y : Int) σ := by
    intro m
    induction m with
    | zero =>
      intro y h1 h2 h3 hf
      unfold wp_X1_nextPart_L16
      rw [w32_id (show -2147483648 ≤ (t : Int) by omega) (by omega), show ((t : Int)).toNat = t by omega, hsz]
      simp (disch := omega) only [w32_id]
      refine ⟨by omega, fun _ => ?_, fun q => by omega⟩
      unfold nxr at h
      rw [hf] at h
      exact h
    | succ m ih =>
      intro y h1 h2 h3 hf
      have hpy := hp y (by omega)
      unfold wp_X1_nextPart_L16 wp_X1_row
      rw [w32_id (show -2147483648 ≤ (t : Int) by omega) (by omega), show ((t : Int)).toNat = t by omega, hsz]
      simp (disch := omega) only [w32_id]
      refine ⟨by omega, fun q => by omega, fun _ => ?_⟩
      refine sp_cell (w := 2) (show (t : Int) * 12 + (y : Int) = ((12 * t + y : Nat) : Int) by omega) rfl ht (by omega) (by omega) ?_
      rw [w32_id (show -2147483648 ≤ nd σ t y 2 by omega) (by omega)]
      refine ⟨fun q x6 e6 => ?_, fun q => ?_⟩
      · rw [show x6 = ((y + 1 : Nat) : Int) by rw [e6]; omega]
        exact ih (y + 1) (by omega) (by omega) (by omega) (by rw [hf, fndF_f q])
      · unfold nxr at h
        rw [hf, fndF_t q, if_neg (by omega), show ((y : Int)).toNat = y by omega] at h
        rw [show (t : Int) * 12 + (y : Int) = ((12 * t + y : Nat) : Int) by omega]
        exact h
  exact ⟨_, key _ (x + 1) (by omega) (by omega) rfl rfl⟩
theorem bI_congr {P Q : Prop} (h : P ↔ Q) : bI P = bI Q := by rw [propext h]
theorem bI_1 {P : Prop} : bI P = 1 ↔ P := by
  constructor
  · intro h
    by_cases q : P
    · exact q
    · rw [bI_f q] at h; exact absurd h (by decide)
  · exact bI_t
theorem bI_01 (P : Prop) : bI P = 0 ∨ bI P = 1 := by
  by_cases q : P
  · exact Or.inr (bI_t q)
  · exact Or.inl (bI_f q)
/-- nodes from i on are linked -/
def LI (σ0 σ : St) (t n i : Nat) : Prop := (∀ o k, o ≠ 11 → σ o k = σ0 o k) ∧ (∀ t' x w, x < 12 → w < 8 → ¬ (t' = t ∧ x < n ∧ 5 ≤ w) → nd σ t' x w = nd σ0 t' x w) ∧
  (∀ y, i ≤ y → y < n → nd σ t y 5 = nxr (fun z => nd σ0 t z 2) n t y ∧ nd σ t y 7 = bI (FO (fun z => nd σ0 t z 0) (fun z => nd σ0 t z 2) n y)) ∧
  (∀ y, y < n → nd σ t y 6 = bI (nd σ0 t y 0 = 2 ∨ ∃ z, i ≤ z ∧ z < n ∧ nd σ0 t z 2 = (y : Int) ∧ HF (fun z => nd σ0 t z 0) (fun z => nd σ0 t z 2) n z))
theorem sp_link {Q : St → Prop} {σ : St} {t n : Nat} (ht : t ≤ 16) (hn : n ≤ 12) (hsz : σ 10 t = (n : Int)) (hpd : Pd (fun x => nd σ t x 2) n) (h6 : ∀ x, x < n → nd σ t x 6 = (if nd σ t x 0 = 2 then 1 else 0)) (h : ∀ σ', LI σ σ' t n 0 → Q σ') : wp_X1_link (t : Int) Q σ := by
  unfold wp_X1_link
  rw [w32_id (show -2147483648 ≤ (t : Int) by omega) (by omega), show ((t : Int)).toNat = t by omega, hsz]
  refine ⟨by omega, fun x1 e1 => ?_⟩
  have key : ∀ (i : Nat) (σ1 : St), i ≤ n → LI σ σ1 t n i → wp_X1_link_L9 Q (i + 1) (t : Int) ((i : Int) - 1) σ1 := by
    intro i
    induction i with
    | zero =>
      intro σ1 _ hL
      unfold wp_X1_link_L9
      refine ⟨fun _ => h σ1 hL, fun q => absurd (by decide) q⟩
    | succ x ih =>
      intro σ1 hi hL
      obtain ⟨l1, l2, l3, l4⟩ := hL
      have hx : x < n := by omega
      have p1 : ∀ y, y < n → nd σ1 t y 2 = nd σ t y 2 := fun y hy => l2 t y 2 (by omega) (by omega) (by omega)
      have hp1 : ∀ y, y < n → -1 ≤ nd σ1 t y 2 ∧ nd σ1 t y 2 < 12 := fun y hy => by rw [p1 y hy]; have := hpd y hy; simp only [] at this; omega
      have nxe : nxr (fun y => nd σ1 t y 2) n t x = nxr (fun y => nd σ t y 2) n t x := by
        have : nx (fun y => nd σ1 t y 2) n x = nx (fun y => nd σ t y 2) n x := by
          unfold nx
          exact fndF_congr _ _ (fun j a b => by simp only []; rw [p1 j (by omega), p1 x hx])
        unfold nxr
        rw [this]
      have hstep := HF_step (kd := fun z => nd σ t z 0) hpd hx
      -- what the flag of x says now
      have h6x : nd σ1 t x 6 = bI (HF (fun z => nd σ t z 0) (fun z => nd σ t z 2) n x) := by
        rw [l4 x hx]
        apply bI_congr
        rw [hstep]
        constructor
        · rintro (q | ⟨z, z1, z2, z3, z4⟩)
          · exact Or.inl q
          · exact Or.inr ⟨z, z2, z3, z4⟩
        · rintro (q | ⟨z, z2, z3, z4⟩)
          · exact Or.inl q
          · have := hpd z z2
            simp only [] at this
            exact Or.inr ⟨z, by omega, z2, z3, z4⟩
      have hpx := hp1 x hx
      have hrx : (t : Int) * 12 + (x : Int) = ((12 * t + x : Nat) : Int) := by omega
      -- the end of a turn, given whether a later part has the foot
      have fin : ∀ later : Int, later = bI (nx (fun z => nd σ t z 2) n x ≠ -1 ∧ FO (fun z => nd σ t z 0) (fun z => nd σ t z 2) n (nx (fun z => nd σ t z 2) n x).toNat) → wp_X1_link_B50 (fun z0 z1 σ => wp_X1_link_L9 Q (x + 1) z0 z1 σ) (t : Int) (x : Int) ((t : Int) * 12 + (x : Int)) (nxr (fun y => nd σ t y 2) n t x) later Q σ1 := by
        intro later hlat
        unfold wp_X1_link_B50
        refine sp_hasFoot hrx ht (by omega) (by rw [h6x]; exact bI_01 _) ?_
        refine sp_cell (w := 2) hrx rfl ht (by omega) (by omega) ?_
        refine sp_set (w := 5) hrx rfl ht (by omega) (by omega) ?_
        -- both ways come to B94 with the flag
        have b94 : ∀ v : Int, v = bI (FO (fun z => nd σ t z 0) (fun z => nd σ t z 2) n x) → wp_X1_link_B94 (fun z0 z1 σ => wp_X1_link_L9 Q (x + 1) z0 z1 σ) (t : Int) (x : Int) (nd σ1 t x 6) (nd σ1 t x 2) ((t : Int) * 12 + (x : Int)) 7 v Q (sn σ1 t x 5 (nxr (fun y => nd σ t y 2) n t x)) := by
          intro v hv
          unfold wp_X1_link_B94
          refine sp_set (w := 7) hrx rfl ht (by omega) (by omega) ?_
          have nxt : ∀ σ3 : St, LI σ σ3 t n x → wp_X1_link_B121 (fun z0 z1 σ => wp_X1_link_L9 Q (x + 1) z0 z1 σ) (t : Int) (x : Int) Q σ3 := by
            intro σ3 hL3
            unfold wp_X1_link_B121
            intro x9 e9
            rw [show x9 = (x : Int) - 1 by rw [e9]; omega]
            exact ih σ3 (by omega) hL3
          have g2 : ∀ t' x' w, x' < 12 → w < 8 → nd (sn (sn σ1 t x 5 (nxr (fun y => nd σ t y 2) n t x)) t x 7 v) t' x' w = if t' = t ∧ x' = x ∧ w = 7 then v else if t' = t ∧ x' = x ∧ w = 5 then nxr (fun y => nd σ t y 2) n t x else nd σ1 t' x' w := fun t' x' w a b => by
            rw [nd_sn _ _ (by omega) (by omega) a b, nd_sn _ _ (by omega) (by omega) a b]
          rw [h6x, w32_bI, w32_id (show -2147483648 ≤ nd σ1 t x 2 by omega) (by omega)]
          by_cases hf : HF (fun z => nd σ t z 0) (fun z => nd σ t z 2) n x
          · rw [bI_t hf]
            refine ⟨fun q => absurd q (by decide), fun _ => ⟨fun q => nxt _ ?_, fun q => ?_⟩⟩
            · refine ⟨fun o k a => by rw [sn_fr _ _ a, sn_fr _ _ a]; exact l1 o k a, fun t' x' w a b c => ?_, fun y a b => ?_, fun y a => ?_⟩
              · rw [g2 t' x' w a b, if_neg (by omega), if_neg (by omega)]; exact l2 t' x' w a b c
              · rw [g2 t y 5 (by omega) (by omega), g2 t y 7 (by omega) (by omega)]
                by_cases e : y = x
                · subst e; rw [if_neg (by omega), if_pos ⟨rfl, rfl, rfl⟩, if_pos ⟨rfl, rfl, rfl⟩]; exact ⟨rfl, hv⟩
                · rw [if_neg (by omega), if_neg (by omega), if_neg (by omega), if_neg (by omega)]; exact l3 y (by omega) b
              · rw [g2 t y 6 (by omega) (by omega), if_neg (by omega), if_neg (by omega), l4 y a]
                apply bI_congr
                constructor
                · rintro (z | ⟨z, z1, z2⟩)
                  · exact Or.inl z
                  · exact Or.inr ⟨z, by omega, z2⟩
                · rintro (z | ⟨z, z1, z2, z3, z4⟩)
                  · exact Or.inl z
                  · by_cases e : z = x
                    · rw [e, ← p1 x hx, q] at z3; omega
                    · exact Or.inr ⟨z, by omega, z2, z3, z4⟩
            · unfold wp_X1_row
              have hr3 : (t : Int) * 12 + nd σ1 t x 2 = ((12 * t + (nd σ1 t x 2).toNat : Nat) : Int) := by omega
              refine sp_set (w := 6) hr3 rfl ht (by omega) (by omega) (nxt _ ?_)
              have g3 : ∀ t' x' w, x' < 12 → w < 8 → nd (sn (sn (sn σ1 t x 5 (nxr (fun y => nd σ t y 2) n t x)) t x 7 v) t (nd σ1 t x 2).toNat 6 1) t' x' w = if t' = t ∧ x' = (nd σ1 t x 2).toNat ∧ w = 6 then 1 else if t' = t ∧ x' = x ∧ w = 7 then v else if t' = t ∧ x' = x ∧ w = 5 then nxr (fun y => nd σ t y 2) n t x else nd σ1 t' x' w := fun t' x' w a b => by
                rw [nd_sn _ _ (by omega) (by omega) a b, g2 t' x' w a b]
              have hpx2 := hpd x hx
              simp only [] at hpx2
              refine ⟨fun o k a => by rw [sn_fr _ _ a, sn_fr _ _ a, sn_fr _ _ a]; exact l1 o k a, fun t' x' w a b c => ?_, fun y a b => ?_, fun y a => ?_⟩
              · have := p1 x hx
                rw [g3 t' x' w a b, if_neg (by omega), if_neg (by omega), if_neg (by omega)]; exact l2 t' x' w a b c
              · by_cases e : y = x
                · subst e
                  exact ⟨by rw [g3 t y 5 (by omega) (by omega), if_neg (by omega), if_neg (by omega), if_pos ⟨rfl, rfl, rfl⟩], by rw [g3 t y 7 (by omega) (by omega), if_neg (by omega), if_pos ⟨rfl, rfl, rfl⟩]; exact hv⟩
                · have := l3 y (by omega) b
                  exact ⟨by rw [g3 t y 5 (by omega) (by omega), if_neg (by omega), if_neg (by omega), if_neg (by omega)]; exact this.1, by rw [g3 t y 7 (by omega) (by omega), if_neg (by omega), if_neg (by omega), if_neg (by omega)]; exact this.2⟩
              · rw [g3 t y 6 (by omega) (by omega)]
                by_cases e : y = (nd σ1 t x 2).toNat
                · rw [if_pos ⟨rfl, e, rfl⟩]
                  exact (bI_t (Or.inr ⟨x, Nat.le_refl x, hx, by rw [← p1 x hx]; omega, hf⟩)).symm
                · rw [if_neg (fun z => e z.2.1), if_neg (by omega), if_neg (by omega), l4 y a]
                  apply bI_congr
                  constructor
                  · rintro (z | ⟨z, z1, z2⟩)
                    · exact Or.inl z
                    · exact Or.inr ⟨z, by omega, z2⟩
                  · rintro (z | ⟨z, z1, z2, z3, z4⟩)
                    · exact Or.inl z
                    · by_cases e2 : z = x
                      · rw [e2, ← p1 x hx] at z3; omega
                      · exact Or.inr ⟨z, by omega, z2, z3, z4⟩
          · rw [bI_f hf]
            refine ⟨fun _ => nxt _ ?_, fun q => absurd rfl q⟩
            refine ⟨fun o k a => by rw [sn_fr _ _ a, sn_fr _ _ a]; exact l1 o k a, fun t' x' w a b c => ?_, fun y a b => ?_, fun y a => ?_⟩
            · rw [g2 t' x' w a b, if_neg (by omega), if_neg (by omega)]; exact l2 t' x' w a b c
            · rw [g2 t y 5 (by omega) (by omega), g2 t y 7 (by omega) (by omega)]
              by_cases e : y = x
              · subst e; rw [if_neg (by omega), if_pos ⟨rfl, rfl, rfl⟩, if_pos ⟨rfl, rfl, rfl⟩]; exact ⟨rfl, hv⟩
              · rw [if_neg (by omega), if_neg (by omega), if_neg (by omega), if_neg (by omega)]; exact l3 y (by omega) b
            · rw [g2 t y 6 (by omega) (by omega), if_neg (by omega), if_neg (by omega), l4 y a]
              apply bI_congr
              constructor
              · rintro (z | ⟨z, z1, z2⟩)
                · exact Or.inl z
                · exact Or.inr ⟨z, by omega, z2⟩
              · rintro (z | ⟨z, z1, z2, z3, z4⟩)
                · exact Or.inl z
                · by_cases e : z = x
                  · rw [e] at z4; exact absurd z4 hf
                  · exact Or.inr ⟨z, by omega, z2, z3, z4⟩
        have hFO := FO_step (kd := fun z => nd σ t z 0) (p := fun z => nd σ t z 2) hx
        unfold wp_X1_link_B89
        rw [h6x, w32_bI, hlat, w32_bI]
        rw [h6x] at b94
        refine ⟨fun q => b94 1 ?_, fun q => ⟨fun z => b94 0 ?_, fun z => b94 1 ?_⟩⟩
        · rcases bI_01 (HF (fun z => nd σ t z 0) (fun z => nd σ t z 2) n x) with y | y
          · exact absurd y q
          · exact (bI_t (hFO.mpr (Or.inl (bI_1.mp y)))).symm
        · refine (bI_f (fun y => ?_)).symm
          rcases hFO.mp y with w | w
          · rw [bI_t w] at q; exact absurd q (by decide)
          · rw [bI_t w] at z; exact absurd z (by decide)
        · rcases bI_01 (nx (fun z => nd σ t z 2) n x ≠ -1 ∧ FO (fun z => nd σ t z 0) (fun z => nd σ t z 2) n (nx (fun z => nd σ t z 2) n x).toNat) with y | y
          · exact absurd y z
          · exact (bI_t (hFO.mpr (Or.inr (bI_1.mp y)))).symm
      unfold wp_X1_link_L9 wp_X1_row
      rw [show ((x + 1 : Nat) : Int) - 1 = (x : Int) by omega, w32_id (show -2147483648 ≤ (x : Int) by omega) (by omega)]
      refine ⟨fun q => by omega, fun _ => ?_⟩
      refine sp_nextPart ht hn hx (by rw [l1 10 t (by omega)]; exact hsz) hp1 ?_
      rw [nxe]
      unfold wp_X1_link_B49
      rcases nx_spec (fun z => nd σ t z 2) n x with ⟨q, _⟩ | ⟨j, q1, q2, q3, q4, q5⟩
      · have e1 : nxr (fun y => nd σ t y 2) n t x = -1 := by unfold nxr; rw [if_pos q]
        rw [e1]
        rw [e1] at fin
        refine ⟨fun _ => fin 0 ?_, fun z => absurd (by decide) z⟩
        exact (bI_f (fun y => y.1 q)).symm
      · have e1 : nxr (fun y => nd σ t y 2) n t x = ((12 * t + j : Nat) : Int) := by unfold nxr; rw [q1, if_neg (by omega), show ((j : Int)).toNat = j by omega]
        rw [e1]
        rw [e1] at fin
        rw [w32_id (show -2147483648 ≤ ((12 * t + j : Nat) : Int) by omega) (by omega)]
        refine ⟨fun z => by omega, fun _ => ?_⟩
        refine sp_cell (t := t) (x := j) (w := 7) rfl rfl ht (by omega) (by omega) ?_
        rw [(l3 j (by omega) q3).2, w32_bI]
        have hiff : (nx (fun z => nd σ t z 2) n x ≠ -1 ∧ FO (fun z => nd σ t z 0) (fun z => nd σ t z 2) n (nx (fun z => nd σ t z 2) n x).toNat) ↔ FO (fun z => nd σ t z 0) (fun z => nd σ t z 2) n j := by
          rw [q1, show ((j : Int)).toNat = j by omega]
          exact ⟨fun z => z.2, fun z => ⟨by omega, z⟩⟩
        refine ⟨fun z => fin 0 ?_, fun z => fin 1 ?_⟩
        · exact (bI_f (fun y => z (bI_t (hiff.mp y)))).symm
        · exact (bI_t (hiff.mpr (bI_1.mp z))).symm
  rw [show x1 = (n : Int) - 1 by rw [e1]]
  refine ⟨_, key n σ (Nat.le_refl n) ⟨fun _ _ _ => rfl, fun _ _ _ _ _ _ => rfl, fun y a b => by omega, fun y a => ?_⟩⟩
  rw [h6 y a]
  by_cases q : nd σ t y 0 = 2
  · rw [if_pos q]; exact (bI_t (Or.inl q)).symm
  · rw [if_neg q]
    refine (bI_f ?_).symm
    rintro (z | ⟨z, z1, z2, z3⟩)
    · exact q z
    · omega
