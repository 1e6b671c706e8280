/-! pure: a node of a use is visited, in both worlds -/
theorem Mid_step {N : Nat} {sz : Nat → Nat} {σx σ2 τ τ' τ3 : St} {u t base x U : Nat} {L1 L2 : List En} (hsz : ∀ t, t < N → sz t ≤ 12) (hM : MidM N sz σx τ τ' u t base x L1) (hU : σx 23 0 = (U : Int)) (huU : u < U) (hx : x < 12)
    (fτ : ∀ o k, ¬ (o = 0 ∧ (k = 42 ∨ k = 48)) → ¬ (o = 23 ∧ 7 * U ≤ k) → ¬ ((o = 24 ∨ o = 25 ∨ o = 26) ∧ (k = 12 * u + x ∨ 12 * U ≤ k)) → ¬ (o = 27 ∧ 7 * (base + L1.length) ≤ k) → ¬ (o = 28 ∧ base + L1.length ≤ k) → τ3 o k = τ' o k)
    (f24 : ∀ k, k < 7 * U → σ2 24 k = σx 24 k) (fy : ∀ y w, y < x → w < 7 → σ2 25 (nJ u y w) = σx 25 (nJ u y w)) (fv : ∀ v y w, u < v → v < U → y < 12 → w < 7 → σ2 25 (nJ v y w) = σx 25 (nJ v y w))
    (hN : RN1 σ2 τ3 u x) (h42 : τ3 0 42 = σ2 23 0) (hRU : ∀ v : Nat, U ≤ v → (v : Int) < σ2 23 0 → RU N sz σ2 τ3 v) (hJL : JL τ3 u t base L2) : MidM N sz σ2 τ τ3 u t base (x + 1) L2 := by
  obtain ⟨m1, m2, m3, m4, m5, m6, m7⟩ := hM
  refine ⟨fun o k q1 q2 q3 q4 q5 => ?_, h42, hJL, fun w hw => ?_, fun y hy => ?_, fun y h1 h2 => ?_, fun v h1 h2 => ?_⟩
  · rw [fτ o k q1 (by omega) (by omega) (by omega) (by omega)]
    exact m1 o k q1 q2 q3 q4 q5
  · rw [fτ 23 _ (by omega) (by omega) (by omega) (by omega) (by omega), f24 _ (by omega)]
    exact m4 w hw
  · by_cases e : y = x
    · rw [e]; exact hN
    · have hy' : y < x := by omega
      obtain ⟨a1, a2, a3⟩ := m5 y hy'
      refine ⟨?_, ?_, ?_⟩
      · rw [fτ 24 _ (by omega) (by omega) (by omega) (by omega) (by omega), fy y 3 hy' (by omega)]; exact a1
      · rw [fτ 25 _ (by omega) (by omega) (by omega) (by omega) (by omega), fy y 4 hy' (by omega)]; exact a2
      · rw [fτ 26 _ (by omega) (by omega) (by omega) (by omega) (by omega), fy y 2 hy' (by omega)]; exact a3
  · rw [fτ 26 _ (by omega) (by omega) (by omega) (by omega) (by omega)]
    exact m6 y (by omega) h2
  · by_cases e : U ≤ v
    · exact hRU v e h2
    · obtain ⟨r1, t', r2, r3, r4⟩ := m7 v h1 (by rw [hU]; omega)
      have s12 := hsz t' r3
      refine ⟨fun w hw => ?_, t', by rw [f24 _ (by omega)]; exact r2, r3, fun y hy => ?_⟩
      · rw [fτ 23 _ (by omega) (by omega) (by omega) (by omega) (by omega), f24 _ (by omega)]
        exact r1 w hw
      · obtain ⟨a1, a2, a3⟩ := r4 y hy
        refine ⟨?_, ?_, ?_⟩
        · rw [fτ 24 _ (by omega) (by omega) (by omega) (by omega) (by omega), fv v y 3 h1 (by omega) (by omega) (by omega)]; exact a1
        · rw [fτ 25 _ (by omega) (by omega) (by omega) (by omega) (by omega), fv v y 4 h1 (by omega) (by omega) (by omega)]; exact a2
        · rw [fτ 26 _ (by omega) (by omega) (by omega) (by omega) (by omega), fv v y 2 h1 (by omega) (by omega) (by omega)]; exact a3
theorem Ch_to {c : Nat → Nat → Int} {N : Nat} {σx σ2 : St} {U U2 v t y : Nat} (h : Ch c N σx U v t y) (hU : U ≤ U2) (h2 : σ2 25 (nJ v y 2) = σx 25 (nJ v y 2)) (f24 : ∀ k, k < 7 * U → σ2 24 k = σx 24 k) : Ch c N σ2 U2 v t y := by
  rcases h with h | ⟨w, t', a1, a2, a3, a4, a5, a6, a7, a8⟩
  · exact Or.inl (by rw [h2]; exact h)
  · exact Or.inr ⟨w, t', a1, by omega, by rw [h2]; exact a3, by rw [f24 _ (by omega)]; exact a4, a5, by rw [f24 _ (by omega)]; exact a6, by rw [f24 _ (by omega)]; exact a7, a8⟩
theorem UF_to {c : Nat → Nat → Int} {N : Nat} {sz : Nat → Nat} {σx σ2 : St} {U U2 v : Nat} (hsz : ∀ t, t < N → sz t ≤ 12) (h : UF c N sz σx U v) (hv : v < U) (hU : U ≤ U2) (h2 : ∀ y, y < 12 → σ2 25 (nJ v y 2) = σx 25 (nJ v y 2)) (f24 : ∀ k, k < 7 * U → σ2 24 k = σx 24 k) : UF c N sz σ2 U2 v := by
  obtain ⟨t, a1, a2, a3⟩ := h
  have s12 := hsz t a2
  exact ⟨t, by rw [f24 _ (by omega)]; exact a1, a2, fun y hy => Ch_to (a3 y hy) hU (h2 y (by omega)) f24⟩
/-- the state of the class's loop over the nodes of a use -/
def LpI (c : Nat → Nat → Int) (N : Nat) (sz : Nat → Nat) (sd : Nat → Int) (n : Nat) (hw wo : Nat → Prop) (σ σx : St) (u t i : Nat) (j k : Int) (l : Nat) (way : Int) (x : Nat) (L : List En) (U : Nat) (yl ws : Int) (wx : Prop) : Prop := CC c N sz sd n hw wo σx ∧ cF σ σx u ∧ σx 23 0 = (U : Int) ∧ u < U ∧ U ≤ 8 ∧ (U : Int) + yl + sY L + ws ≤ (u : Int) + 1 + ((l : Int) - i - (k - j)) ∧ (0 ≤ ws ∧ ws ≤ 1) ∧ (ws = 1 ∨ wx ∨ wL wo t L) ∧ (∀ y, y < x → Ch c N σx U u t y) ∧ (∀ v, u < v → v < U → UF c N sz σx U v)
/-- visiting a word or a foot -/
theorem visit_leaf {c : Nat → Nat → Int} {N : Nat} {sz : Nat → Nat} {sd : Nat → Int} {n : Nat} {hw wo : Nat → Prop} {σ σx : St} {u t i l x U i' l' : Nat} {j k way j' k' way' ws : Int} {L1 : List En} (ht : t < N) (hx : x < sz t) (hu : u < 8) (hk : 2 ≤ c (12 * t + x) 0) (hI : LpI c N sz sd n hw wo σ σx u t i j k l way x L1 U ((l' : Int) - i' - (k' - j')) ws (hw (12 * t + x))) (hCl : Cl σx u x i' j' k' l' way') (hLV : LV c (VV c N sd) n (12 * t + x) i' j' k' l' way') (hOL : OL c (VV c N sd) sz n σx u t (eN (pT c t) (sz t) x) L1) (hS : SimV c N sz sd n hw wo σ σx u t i j k l way x L1 i' j' k' l' way') :
    ∃ ws2, LpI c N sz sd n hw wo σ (su σx 25 (nJ u x 2) (-1)) u t i j k l way (x + 1) L1 U 0 ws2 False ∧ OL c (VV c N sd) sz n (su σx 25 (nJ u x 2) (-1)) u t (x + 1) L1 ∧ SimX c N sz sd n hw wo σ (su σx 25 (nJ u x 2) (-1)) u t i j k l way (x + 1) L1 := by
  obtain ⟨hC, hcF, hU, huU, hU8, hb, hws, hwx, hCh, hUF⟩ := hI
  obtain ⟨tj, tpo, tsx⟩ := TS hC ht
  have hC0 := hC
  obtain ⟨c1, c2, c3, c4, c5, c6, c7, c8⟩ := hC
  have s12 := (c6.2 t ht).2.1
  have hsz : ∀ t, t < N → sz t ≤ 12 := fun t h => (c6.2 t h).2.1
  have k3 := (c6.1 t x ht hx).1
  have g9 := (c6.1 t x ht hx).2.2.2.2.2.2.2.2.1
  have lk := LV_kind c6 c1 ht hx hLV
  have z12 : x < 12 := by omega
  have F : ∀ o k, ¬ (o = 25 ∧ k = nJ u x 2) → su σx 25 (nJ u x 2) (-1) o k = σx o k := fun o k q => su_ko _ _ q
  have nd2 : ∀ v y w, y < 12 → w < 7 → ¬ (v = u ∧ y = x ∧ w = 2) → su σx 25 (nJ u x 2) (-1) 25 (nJ v y w) = σx 25 (nJ v y w) := fun v y w a b q => F _ _ (fun z => q (nJ_inj a b z12 (by omega) z.2))
  have leaf : eN (pT c t) (sz t) x = x + 1 := eN_leaf tj.1 hx (fun y hy q => by
    have := tj.2.2.2.2.1 y hy (by rw [q]; omega)
    rw [q, show ((x : Int)).toNat = x by omega] at this
    have : c (12 * t + x) 0 = 0 := this
    omega)
  rw [leaf] at hOL
  have ol2 : OL c (VV c N sd) sz n (su σx 25 (nJ u x 2) (-1)) u t (x + 1) L1 := OL_fr (fun a b ha hb' hc => by
      rcases c_nx hC0 ht ha with ⟨_, z⟩ | ⟨xn, z1, z2, z3, z4, z5, z6⟩
      · omega
      · have : xn = b := by omega
        subst this
        show c (12 * t + xn) 2 = c (12 * t + a) 2
        rw [← c5 t xn 2 ht z3 (by omega), ← c5 t a 2 ht ha (by omega)]; exact z4) (fun a h0 ha => by
      obtain ⟨q0, _⟩ := tsx a h0 ha
      have px := tj.1 a ha
      by_cases w : eN (pT c t) (sz t) (pT c t a).toNat ≤ a
      · exact absurd (An_up q0 ⟨0, rfl⟩) (An_out tj.1 tpo (show (pT c t a).toNat < sz t by omega) a a (Nat.le_refl a) w ha)
      · omega) L1 (x + 1) (fun z w a b d => nd2 u z w (by omega) d (by omega)) hOL
  have bound : ∃ ws2 : Int, (U : Int) + 0 + sY L1 + ws2 ≤ (u : Int) + 1 + ((l : Int) - i - (k - j)) ∧ (0 ≤ ws2 ∧ ws2 ≤ 1) ∧ (ws2 = 1 ∨ False ∨ wL wo t L1) := by
    by_cases q : c (12 * t + x) 0 = 3
    · have := lk.1 q
      exact ⟨1, by omega, by omega, Or.inl rfl⟩
    · have := lk.2.1 (by omega)
      refine ⟨ws, by omega, hws, ?_⟩
      rcases hwx with z | z | z
      · exact Or.inl z
      · rcases g9.mp z with w | w
        · exact absurd w q
        · have := w.1; omega
      · exact Or.inr (Or.inr z)
  obtain ⟨ws2, b1, b2, b3⟩ := bound
  refine ⟨ws2, ⟨CC_fr hC0 (fun o k q => F o k (by omega)), fun o k q1 q2 q3 => ?_, by rw [F 23 0 (by omega)]; exact hU, huU, hU8, b1, b2, b3, fun y hy => ?_, fun v h1 h2 => UF_to hsz (hUF v h1 h2) h2 (Nat.le_refl U) (fun y hy => nd2 v y 2 hy (by omega) (by omega)) (fun k _ => F 24 k (by omega))⟩, ol2, ?_⟩
  · rw [F o k (fun z => q3 ⟨z.1, by rw [z.2]; exact nJ_84⟩)]; exact hcF o k q1 q2 q3
  · by_cases e : y = x
    · subst e; exact Or.inl (su_at _ _ _ _)
    · exact Ch_to (hCh y (by omega)) (Nat.le_refl U) (nd2 u y 2 (by omega) (by omega) (by omega)) (fun k _ => F 24 k (by omega))
  · obtain ⟨cost, hS⟩ := hS
    refine ⟨cost + 1, fun QM F' τ base hp hK => ?_⟩
    rw [show F' + (cost + 1) = F' + 1 + cost by omega]
    refine hS QM (F' + 1) τ base hp (fun τ' hM hc hJ => ?_)
    have hbase := hp.2.1
    have hCM' : CM c N sz sd n hw wo τ' := mF_CM hp.1 hM.1
    have len := OL_len (V := VV c N sd) (n := n) (σ := σx) (u := u) (c := c) (sz := sz) (t := t) (fun a h0 ha => by
      obtain ⟨q0, _⟩ := tsx a h0 ha
      have px := tj.1 a ha
      by_cases w : eN (pT c t) (sz t) (pT c t a).toNat ≤ a
      · exact absurd (An_up q0 ⟨0, rfl⟩) (An_out tj.1 tpo (show (pT c t a).toNat < sz t by omega) a a (Nat.le_refl a) w ha)
      · omega) L1 (x + 1) (by omega) hOL
    have pb : base + L1.length < 200 := by omega
    clear len
    refine sp_pop (P := base + L1.length) (on := 0) (by rw [hc]; congr 1) pb (Or.inl rfl) hJ (fun _ => ?_) (fun z => absurd z (by decide))
    have hCM2 : CM c N sz sd n hw wo (su τ' 0 48 ((base + L1.length : Nat) : Int)) := CM_fr hCM' (fun o k a b => su_ko _ _ (by omega))
    refine sp_mlayH (u := u) (t := t) (x := x) (i := i') (l := l') hCM2 hu ht hx rfl rfl rfl rfl (fun x_1 τ1 e1 y1 y2 y3 => ⟨fun z => by omega, fun _ => ?_⟩)
    refine hK τ1 (Mid_step hsz hM hU huU z12 (fun o k q1 q2 q3 q4 q5 => ?_) (fun k _ => F 24 k (by omega)) (fun y w a b => nd2 u y w (by omega) b (by omega)) (fun v y w a b c' d => nd2 v y w c' d (by omega)) ⟨?_, ?_, ?_⟩ ?_ (fun v h1 h2 => ?_) ?_) (by rw [y3 0 48 (by omega) (by omega), su_at])
    · rw [y3 o k (by omega) (by omega), su_ko _ _ (by omega)]
    · rw [y1, nd2 u x 3 z12 (by omega) (by omega)]; exact hCl.1.symm
    · rw [y2, nd2 u x 4 z12 (by omega) (by omega)]; exact hCl.2.1.symm
    · rw [y3 26 _ (by omega) (by omega), su_ko _ _ (by omega), su_at]; exact hM.2.2.2.2.2.1 x (Nat.le_refl x) z12
    · rw [y3 0 42 (by omega) (by omega), su_ko _ _ (by omega), F 23 0 (by omega)]; exact hM.2.1
    · rw [F 23 0 (by omega), hU] at h2; omega
    · exact JL_fr L1 hM.2.2.1 (fun k a b => by rw [y3 27 k (by omega) (by omega), su_ko _ _ (by omega)]) (fun k a b => by rw [y3 28 k (by omega) (by omega), su_ko _ _ (by omega)])
