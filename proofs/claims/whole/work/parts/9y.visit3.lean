/-! pure: an inner node of a use is visited, in both worlds -/
theorem TS2 {c : Nat → Nat → Int} {N : Nat} {sz : Nat → Nat} {sd : Nat → Int} {n : Nat} {hw wo : Nat → Prop} {σ : St} {t : Nat} (hC : CC c N sz sd n hw wo σ) (ht : t < N) : (∀ a b, a < sz t → b < sz t → c (12 * t + a) 5 = ((12 * t + b : Nat) : Int) → pT c t b = pT c t a) ∧ (∀ a, 0 < a → a < sz t → a < eN (pT c t) (sz t) (pT c t a).toNat) := by
  obtain ⟨tj, tpo, tsx⟩ := TS hC ht
  have hC0 := hC
  obtain ⟨c1, c2, c3, c4, c5, c6, c7, c8⟩ := hC
  refine ⟨fun a b ha hb' hc => ?_, fun a h0 ha => ?_⟩
  · rcases c_nx hC0 ht ha with ⟨_, z⟩ | ⟨xn, z1, z2, z3, z4, z5, z6⟩
    · omega
    · have : xn = b := by omega
      subst this
      show c (12 * t + xn) 2 = c (12 * t + a) 2
      rw [← c5 t xn 2 ht z3 (by omega), ← c5 t a 2 ht ha (by omega)]; exact z4
  · obtain ⟨q0, _⟩ := tsx a h0 ha
    have px := tj.1 a ha
    by_cases w : eN (pT c t) (sz t) (pT c t a).toNat ≤ a
    · exact absurd (An_up q0 ⟨0, rfl⟩) (An_out tj.1 tpo (show (pT c t a).toNat < sz t by omega) a a (Nat.le_refl a) w ha)
    · omega
theorem visit_plain {c : Nat → Nat → Int} {N : Nat} {sz : Nat → Nat} {sd : Nat → Int} {n : Nat} {hw wo : Nat → Prop} {σ σx σ1 : St} {u t i l x U i' l' f : Nat} {j k way j' k' way' ws : Int} {L1 : List En} (ht : t < N) (hx : x < sz t) (hu : u < 8) (hk : c (12 * t + x) 0 = 0) (hI : LpI c N sz sd n hw wo σ σx u t i j k l way x L1 U ((l' : Int) - i' - (k' - j')) ws (hw (12 * t + x))) (hCl : Cl σx u x i' j' k' l' way') (hLV : LV c (VV c N sd) n (12 * t + x) i' j' k' l' way') (hOL : OL c (VV c N sd) sz n σx u t (eN (pT c t) (sz t) x) L1) (hS : SimV c N sz sd n hw wo σ σx u t i j k l way x L1 i' j' k' l' way')
    (hown : way' < ownW c (VV c N sd) (12 * t + x) i' j' k' l') (hRV : RV c (VV c N sd) n (12 * t + (x + 1)) i' j' k' l' way') (hRO : RO c (VV c N sd) sz σ1 u t f (x + 1) i' j' k' l' way') (hpF : pF σx σ1 u t (sz t) x) :
    LpI c N sz sd n hw wo σ (su σ1 25 (nJ u x 2) (-1)) u t i j k l way (x + 1) ((x + 1, i', j', k', l', way') :: L1) U 0 ws False ∧ OL c (VV c N sd) sz n (su σ1 25 (nJ u x 2) (-1)) u t (x + 1) ((x + 1, i', j', k', l', way') :: L1) ∧ SimX c N sz sd n hw wo σ (su σ1 25 (nJ u x 2) (-1)) u t i j k l way (x + 1) ((x + 1, i', j', k', l', way') :: L1) := by
  obtain ⟨hC, hcF, hU, huU, hU8, hb, hws, hwx, hCh, hUF⟩ := hI
  obtain ⟨tj, tpo, tsx⟩ := TS hC ht
  obtain ⟨hnx, hee⟩ := TS2 hC ht
  have hC0 := hC
  obtain ⟨c1, c2, c3, c4, c5, c6, c7, c8⟩ := hC
  have s12 := (c6.2 t ht).2.1
  have hsz : ∀ t, t < N → sz t ≤ 12 := fun t h => (c6.2 t h).2.1
  have g9 := (c6.1 t x ht hx).2.2.2.2.2.2.2.2.1
  have kid := PJ_kid tj hx hk
  have kp : (pT c t (x + 1)).toNat = x := by rw [kid.2]; omega
  have z12 : x < 12 := by omega
  have esx := eN_kid tj.1 tpo hx kid.1 kid.2
  have esp := eN_spec (pT c t) hx
  -- the frames
  have G : ∀ o k, o ≠ 25 → su σ1 25 (nJ u x 2) (-1) o k = σx o k := fun o k q => by
    rw [su_ko _ _ (fun z => q z.1)]
    exact hpF o k (fun z => q z.1)
  have part : ∀ z, nd σx t z 2 = (x : Int) → z < sz t → z < eN (pT c t) (sz t) x := fun z hz hz2 => by
    refine (eN_kid tj.1 tpo hx hz2 ?_).2
    show c (12 * t + z) 2 = _
    rw [← c5 t z 2 ht hz2 (by omega)]; exact hz
  have nd2 : ∀ v y w, y < 12 → w < 7 → (v ≠ u ∨ (y < x) ∨ (y = x ∧ w ≠ 2) ∨ (eN (pT c t) (sz t) x ≤ y)) → su σ1 25 (nJ u x 2) (-1) 25 (nJ v y w) = σx 25 (nJ v y w) := fun v y w a b q => by
    rw [su_ko _ _ (fun z => by have := nJ_inj a b z12 (by omega) z.2; omega)]
    refine hpF _ _ (fun z => ?_)
    obtain ⟨_, z', z1, z2, z3, z4⟩ := z
    have := part z' z3 z2
    rcases z4 with z4 | z4 | z4 | z4 | z4
    all_goals
      have := nJ_inj a b (show z' < 12 by omega) (by omega) z4
      omega
  have c2x : su σ1 25 (nJ u x 2) (-1) 25 (nJ u x 2) = -1 := su_at _ _ _ _
  have ol1 : OL c (VV c N sd) sz n (su σ1 25 (nJ u x 2) (-1)) u t (eN (pT c t) (sz t) x) L1 := OL_fr hnx hee L1 _ (fun z w a b d => nd2 u z w (by omega) d (Or.inr (Or.inr (Or.inr a)))) hOL
  have ol2 : OL c (VV c N sd) sz n (su σ1 25 (nJ u x 2) (-1)) u t (x + 1) ((x + 1, i', j', k', l', way') :: L1) := ⟨rfl, kid.1, by omega, hRV, ⟨f, RO_fr (p := pT c t) hnx f (x + 1) i' j' k' l' way' kid.1 (fun z w a b _ d => su_ko _ _ (fun q => by have := nJ_inj (show z < 12 by omega) d z12 (by omega) q.2; omega)) hRO⟩, by rw [kp]; exact ol1⟩
  have yl : sY ((x + 1, i', j', k', l', way') :: L1) = ((l' : Int) - i' - (k' - j')) + sY L1 := rfl
  refine ⟨⟨CC_fr hC0 (fun o k q => G o k (by omega)), fun o k q1 q2 q3 => ?_, by rw [G 23 0 (by omega)]; exact hU, huU, hU8, by rw [yl]; omega, hws, ?_, fun y hy => ?_, fun v h1 h2 => ?_⟩, ol2, ?_⟩
  · by_cases e : o = 25
    · subst e
      rw [su_ko _ _ (fun z => q3 ⟨rfl, by rw [z.2]; exact nJ_84⟩), hpF _ _ (fun z => by
        obtain ⟨_, z', z1, z2, z3, z4⟩ := z
        rcases z4 with z4 | z4 | z4 | z4 | z4 <;> exact q3 ⟨rfl, by rw [z4]; exact nJ_84⟩)]
      exact hcF _ k q1 q2 q3
    · rw [G o k e]; exact hcF o k q1 q2 q3
  · rcases hwx with z | z | z
    · exact Or.inl z
    · rcases g9.mp z with w | w
      · omega
      · exact Or.inr (Or.inr (Or.inl w.2))
    · exact Or.inr (Or.inr (Or.inr z))
  · by_cases e : y = x
    · subst e; exact Or.inl c2x
    · exact Ch_to (hCh y (by omega)) (Nat.le_refl U) (nd2 u y 2 (by omega) (by omega) (Or.inr (Or.inl (by omega)))) (fun k _ => G 24 k (by omega))
  · exact UF_to hsz (hUF v h1 h2) h2 (Nat.le_refl U) (fun y hy => nd2 v y 2 hy (by omega) (Or.inl (by omega))) (fun k _ => G 24 k (by omega))
  · obtain ⟨cost, hS⟩ := hS
    refine ⟨cost + 1, fun QM F' τ base hp hK => ?_⟩
    rw [show F' + (cost + 1) = F' + 1 + cost by omega]
    refine hS QM (F' + 1) τ base hp (fun τ' hM hc hJ => ?_)
    have hbase := hp.2.1
    have hCM' : CM c N sz sd n hw wo τ' := mF_CM hp.1 hM.1
    have len := OL_len (V := VV c N sd) (n := n) (σ := σx) (u := u) (c := c) (sz := sz) (t := t) hee L1 _ esp.2.1 hOL
    have pb : base + L1.length < 200 := by omega
    clear len
    refine sp_pop (P := base + L1.length) (on := 0) (by rw [hc]; congr 1) pb (Or.inl rfl) hJ (fun _ => ?_) (fun z => absurd z (by decide))
    have hCM2 : CM c N sz sd n hw wo (su τ' 0 48 ((base + L1.length : Nat) : Int)) := CM_fr hCM' (fun o k a b => su_ko _ _ (by omega))
    refine sp_mlay0p (u := u) (t := t) (x := x) (P := base + L1.length) (i := i') (l := l') (k := k') hCM2 hu ht hx hk (su_at _ _ _ _) pb hRV.1.vs hLV.2.1 hown rfl rfl rfl rfl (fun z => hJ.2.2.2.2.2.1 z) (fun τ1 τ2 y1 y2 y3 e1 e2 e3 => ?_)
    have T2 : ∀ o k, ¬ (o = 0 ∧ k = 48) → ¬ ((o = 24 ∨ o = 25) ∧ k = 12 * u + x) → ¬ (o = 27 ∧ 7 * (base + L1.length) ≤ k) → ¬ (o = 28 ∧ base + L1.length ≤ k) → τ2 o k = τ' o k := fun o k q1 q2 q3 q4 => by rw [e3 o k q1 (by omega) (by omega), y3 o k (by omega) (by omega), su_ko _ _ q1]
    refine hK τ2 (Mid_step hsz hM hU huU z12 (fun o k q1 q2 q3 q4 q5 => T2 o k (by omega) (by omega) q4 q5) (fun k _ => G 24 k (by omega)) (fun y w a b => nd2 u y w (by omega) b (Or.inr (Or.inl a))) (fun v y w a b c' d => nd2 v y w c' d (Or.inl (by omega))) ⟨?_, ?_, ?_⟩ ?_ (fun v h1 h2 => ?_) ?_) (by rw [e1]; rfl)
    · rw [e3 24 _ (by omega) (by omega) (by omega), y1, nd2 u x 3 z12 (by omega) (Or.inr (Or.inr (Or.inl ⟨rfl, by omega⟩)))]; exact hCl.1.symm
    · rw [e3 25 _ (by omega) (by omega) (by omega), y2, nd2 u x 4 z12 (by omega) (Or.inr (Or.inr (Or.inl ⟨rfl, by omega⟩)))]; exact hCl.2.1.symm
    · rw [T2 26 _ (by omega) (by omega) (by omega) (by omega), c2x]; exact hM.2.2.2.2.2.1 x (Nat.le_refl x) z12
    · rw [T2 0 42 (by omega) (by omega) (by omega) (by omega), G 23 0 (by omega)]; exact hM.2.1
    · rw [G 23 0 (by omega), hU] at h2; omega
    · exact ⟨e2, JL_fr L1 hM.2.2.1 (fun k a b => T2 27 k (by omega) (by omega) (by omega) (by omega)) (fun k a b => T2 28 k (by omega) (by omega) (by omega) (by omega))⟩
theorem visit_set {c : Nat → Nat → Int} {N : Nat} {sz : Nat → Nat} {sd : Nat → Int} {n : Nat} {hw wo : Nat → Prop} {σ σx σ1 σ2 : St} {u t t' i l x U U2 i' l' p q f : Nat} {j k way j' k' way' ws left : Int} {L1 : List En} (ht : t < N) (hx : x < sz t) (hu : u < 8) (hk : c (12 * t + x) 0 = 0) (hI : LpI c N sz sd n hw wo σ σx u t i j k l way x L1 U ((l' : Int) - i' - (k' - j')) ws (hw (12 * t + x))) (hLV : LV c (VV c N sd) n (12 * t + x) i' j' k' l' way') (hOL : OL c (VV c N sd) sz n σx u t (eN (pT c t) (sz t) x) L1) (hS : SimV c N sz sd n hw wo σ σx u t i j k l way x L1 i' j' k' l' way') (hU7 : U < 8) (hno : ¬ way' < ownW c (VV c N sd) (12 * t + x) i' j' k' l')
    (hSA : SA c N (VV c N sd) (12 * t + x) i' j' k' l' way' t' p q left) (a1 : σ1 23 0 = ((U + 1 : Nat) : Int)) (a2 : σ1 24 (7 * U) = (t' : Int)) (a3 : σ1 24 (7 * U + 1) = (u : Int)) (a4 : σ1 24 (7 * U + 2) = (x : Int)) (a5 : σ1 25 (nJ u x 2) = (U : Int)) (a6 : σ1 25 (nJ u x 3) = (p : Int)) (a7 : σ1 25 (nJ u x 4) = (q : Int))
    (hRO : RO c (VV c N sd) sz σ1 u t f (x + 1) p j' k' q (left % VV c N sd true (12 * t + (x + 1)) p j' k' q))
    (fr1 : ∀ o k, ¬ (o = 23 ∧ k = 0) → ¬ (o = 24 ∧ 7 * U ≤ k) → ¬ (o = 25 ∧ 84 * U ≤ k) → ¬ (o = 25 ∧ ∃ z w, w < 7 ∧ x ≤ z ∧ z < eN (pT c t) (sz t) x ∧ k = nJ u z w) → σ1 o k = σx o k)
    (d1 : cF σ1 σ2 U) (d2 : σ2 23 0 = (U2 : Int)) (d3 : U + 1 ≤ U2) (d4 : (U2 : Int) ≤ (U : Int) + ((l' : Int) - i' - ((q : Int) - (p : Int)))) (d5 : ∀ v, U ≤ v → v < U2 → UF c N sz σ2 U2 v) (d6 : Sim c N sz sd n hw wo σ1 σ2 U t' i' (p : Int) (q : Int) l' (left / VV c N sd true (12 * t + (x + 1)) p j' k' q)) (d7 : U2 ≤ 8) :
    LpI c N sz sd n hw wo σ σ2 u t i j k l way (x + 1) ((x + 1, p, j', k', q, left % VV c N sd true (12 * t + (x + 1)) p j' k' q) :: L1) U2 0 ws False ∧ OL c (VV c N sd) sz n σ2 u t (x + 1) ((x + 1, p, j', k', q, left % VV c N sd true (12 * t + (x + 1)) p j' k' q) :: L1) ∧ SimX c N sz sd n hw wo σ σ2 u t i j k l way (x + 1) ((x + 1, p, j', k', q, left % VV c N sd true (12 * t + (x + 1)) p j' k' q) :: L1) := by
  obtain ⟨hC, hcF, hU, huU, hU8, hb, hws, hwx, hCh, hUF⟩ := hI
  obtain ⟨tj, tpo, tsx⟩ := TS hC ht
  obtain ⟨hnx, hee⟩ := TS2 hC ht
  have hC0 := hC
  obtain ⟨c1, c2, c3, c4, c5, c6, c7, c8⟩ := hC
  have s12 := (c6.2 t ht).2.1
  have hsz : ∀ t, t < N → sz t ≤ 12 := fun t h => (c6.2 t h).2.1
  have g9 := (c6.1 t x ht hx).2.2.2.2.2.2.2.2.1
  have kid := PJ_kid tj hx hk
  have kp : (pT c t (x + 1)).toNat = x := by rw [kid.2]; omega
  have z12 : x < 12 := by omega
  have esx := eN_kid tj.1 tpo hx kid.1 kid.2
  have esp := eN_spec (pT c t) hx
  obtain ⟨sk1, sk2, sk3⟩ := SA_k c6 c8.2 ht hx hk hLV.1 hSA
  have wayr : 0 ≤ way' ∧ way' < 1000000001 := by have := (VV_r c N sd false (12 * t + x) i' j' k' l').2; have := hLV.2; omega
  have low : ∀ o k, o < 23 → σ2 o k = σx o k := fun o k q => by rw [d1 o k (by omega) (by omega) (by omega), fr1 o k (by omega) (by omega) (by omega) (fun z => by omega)]
  have f24 : ∀ k, k < 7 * U → σ2 24 k = σx 24 k := fun k q => by rw [d1 24 k (by omega) (by omega) (by omega), fr1 24 k (by omega) (by omega) (by omega) (fun z => by omega)]
  have nd2 : ∀ v y w, v < U → y < 12 → w < 7 → (v ≠ u ∨ y < x ∨ eN (pT c t) (sz t) x ≤ y) → σ2 25 (nJ v y w) = σx 25 (nJ v y w) := fun v y w q0 a b q => by
    have := nJ_lt q0 a b
    rw [d1 25 _ (by omega) (by omega) (by omega), fr1 25 _ (by omega) (by omega) (by omega) (fun z => by
      obtain ⟨_, z', w', z1, z2, z3, z4⟩ := z
      have := nJ_inj a b (show z' < 12 by omega) z1 z4
      omega)]
  have s21 : ∀ y w, y < 12 → w < 7 → σ2 25 (nJ u y w) = σ1 25 (nJ u y w) := fun y w a b => by
    have := nJ_lt huU a b
    exact d1 25 _ (by omega) (by omega) (by omega)
  have u0 : ∀ d, d < 3 → σ2 24 (7 * U + d) = σ1 24 (7 * U + d) := fun d q => d1 24 _ (by omega) (by omega) (by omega)
  have ol1 : OL c (VV c N sd) sz n σ2 u t (eN (pT c t) (sz t) x) L1 := OL_fr hnx hee L1 _ (fun z w a b d => nd2 u z w huU (by omega) d (Or.inr (Or.inr a))) hOL
  have ol2 : OL c (VV c N sd) sz n σ2 u t (x + 1) ((x + 1, p, j', k', q, left % VV c N sd true (12 * t + (x + 1)) p j' k' q) :: L1) := ⟨rfl, kid.1, by omega, sk3, ⟨f, RO_fr (p := pT c t) hnx f (x + 1) p j' k' q _ kid.1 (fun z w a b _ d => s21 z w (by omega) d) hRO⟩, by rw [kp]; exact ol1⟩
  have yl : sY ((x + 1, p, j', k', q, left % VV c N sd true (12 * t + (x + 1)) p j' k' q) :: L1) = ((q : Int) - p - (k' - j')) + sY L1 := rfl
  refine ⟨⟨CC_fr hC0 low, fun o k q1 q2 q3 => ?_, d2, by omega, d7, by rw [yl]; omega, hws, ?_, fun y hy => ?_, fun v h1 h2 => ?_⟩, ol2, ?_⟩
  · rw [d1 o k q1 (by omega) (by omega), fr1 o k q1 (by omega) (by omega) (fun z => by
      obtain ⟨z0, z', w', z1, z2, z3, z4⟩ := z
      exact q3 ⟨z0, by rw [z4]; exact nJ_84⟩)]
    exact hcF o k q1 q2 q3
  · rcases hwx with z | z | z
    · exact Or.inl z
    · rcases g9.mp z with w | w
      · omega
      · exact Or.inr (Or.inr (Or.inl w.2))
    · exact Or.inr (Or.inr (Or.inr z))
  · by_cases e : y = x
    · subst e
      refine Or.inr ⟨U, t', huU, by omega, by rw [s21 y 2 z12 (by omega)]; exact a5, by have := u0 0 (by omega); rw [Nat.add_zero] at this; rw [this]; exact a2, hSA.1, by rw [u0 1 (by omega)]; exact a3, by rw [u0 2 (by omega)]; exact a4, Or.inl ⟨hk, hSA.2.1.2⟩⟩
    · exact Ch_to (hCh y (by omega)) (by omega) (nd2 u y 2 huU (by omega) (by omega) (Or.inr (Or.inl (by omega)))) f24
  · by_cases e : U ≤ v
    · exact d5 v e h2
    · exact UF_to hsz (hUF v h1 (by omega)) (by omega) (by omega) (fun y hy => nd2 v y 2 (by omega) hy (by omega) (Or.inl (by omega))) f24
  · obtain ⟨cost, hS⟩ := hS
    obtain ⟨cost2, hS2⟩ := d6
    refine ⟨cost + 1 + cost2, fun QM F' τ base hp hK => ?_⟩
    rw [show F' + (cost + 1 + cost2) = F' + cost2 + 1 + cost by omega]
    refine hS QM (F' + cost2 + 1) τ base hp (fun τ' hM hc hJ => ?_)
    have hbase := hp.2.1
    have hCM' : CM c N sz sd n hw wo τ' := mF_CM hp.1 hM.1
    have len := OL_len (V := VV c N sd) (n := n) (σ := σx) (u := u) (c := c) (sz := sz) (t := t) hee L1 _ esp.2.1 hOL
    have pb : base + L1.length < 200 := by omega
    have pb1 : base + L1.length + 1 < 200 := by omega
    have pb2 : base + L1.length + 1 ≤ 12 * U := by omega
    clear len
    refine sp_pop (P := base + L1.length) (on := 0) (by rw [hc]; congr 1) pb (Or.inl rfl) hJ (fun _ => ?_) (fun z => absurd z (by decide))
    have hCM2 : CM c N sz sd n hw wo (su τ' 0 48 ((base + L1.length : Nat) : Int)) := CM_fr hCM' (fun o k a b => su_ko _ _ (by omega))
    refine sp_mlay0s (u := u) (t := t) (x := x) (t' := t') (U := U) (P := base + L1.length) (i := i') (l := l') (p := p) (q := q) (k := k') hCM2 huU hU7 ht hx hk (by rw [su_ko _ _ (by omega), hM.2.1]; exact hU) (su_at _ _ _ _) pb1 hLV.1.vs wayr hno hSA rfl rfl rfl rfl (fun z => hJ.2.2.2.2.2.1 z) (fun τ1 τ1b τ2 y1 y2 y3 e00 e01 e02 e1 e2 e3 e4 e5 e6 e7 e8 e9 e10 e11 e12 e13 => ?_)
    have T2 : ∀ o k, ¬ (o = 0 ∧ (k = 42 ∨ k = 48)) → ¬ (o = 23 ∧ 7 * U ≤ k) → ¬ ((o = 24 ∨ o = 25) ∧ k = 12 * u + x) → ¬ (o = 26 ∧ (k = 12 * u + x ∨ 12 * U ≤ k)) → ¬ (o = 27 ∧ 7 * (base + L1.length) ≤ k) → ¬ (o = 28 ∧ base + L1.length ≤ k) → τ2 o k = τ' o k := fun o k q1 q2 q3 q4 q5 q6 => by
      rw [e13 o k q1 (by omega) (by omega) (fun z => q4 ⟨z.1, Or.inl (Option.some.inj z.2).symm⟩) (by omega) (by omega), e02 o k (by omega) (by omega) (by omega), y3 o k (by omega) (by omega), su_ko _ _ (by omega)]
    have T1 : ∀ o, o = 24 ∨ o = 25 → τ2 o (12 * u + x) = τ1 o (12 * u + x) := fun o q1 => by
      rw [e13 o _ (by omega) (by omega) (by omega) (fun z => by omega) (by omega) (by omega), e02 o _ (by omega) (by omega) (by omega)]
    refine hS2 QM F' τ2 (base + L1.length + 1) ⟨CM_fr hCM' (fun o k a b => T2 o k (by omega) (by omega) (by omega) (by omega) (by omega) (by omega)), pb2, by rw [e1]; exact a1.symm, e2, e3, fun w hw' => ?_, e7, e8, e9, e10, e11⟩ (fun τ3 g1 g2 g3 g4 => ?_)
    · by_cases w0 : w = 0
      · subst w0; rw [Nat.add_zero, e4]; exact a2.symm
      · by_cases w1 : w = 1
        · subst w1; rw [e5]; exact a3.symm
        · have w2 : w = 2 := by omega
          subst w2; rw [e6]; exact a4.symm
    · have T3 : ∀ o k, ¬ (o = 0 ∧ (k = 42 ∨ k = 48)) → ¬ (o = 23 ∧ 7 * U ≤ k) → ¬ ((o = 24 ∨ o = 25 ∨ o = 26) ∧ 12 * U ≤ k) → ¬ (o = 27 ∧ 7 * (base + L1.length + 1) ≤ k) → ¬ (o = 28 ∧ base + L1.length + 1 ≤ k) → τ3 o k = τ2 o k := fun o k q1 q2 q3 q4 q5 => g1 o k q1 q2 q3 q4 q5
      have job : JobAt τ3 (base + L1.length) u (12 * t + (x + 1)) 1 p j' k' q (left % VV c N sd true (12 * t + (x + 1)) p j' k' q) := JobAt_fr e01 (fun d hd => by rw [T3 27 _ (by omega) (by omega) (by omega) (by omega) (by omega), e13 27 _ (by omega) (by omega) (by omega) (fun z => absurd z.1 (by decide)) (by omega) (by omega)]) (by rw [T3 28 _ (by omega) (by omega) (by omega) (by omega) (by omega), e13 28 _ (by omega) (by omega) (by omega) (fun z => absurd z.1 (by decide)) (by omega) (by omega)])
      refine hK τ3 (Mid_step hsz hM hU huU z12 (fun o k q1 q2 q3 q4 q5 => ?_) f24 (fun y w a b => nd2 u y w huU (by omega) b (Or.inr (Or.inl a))) (fun v y w a b c' d => nd2 v y w b c' d (Or.inl (by omega))) ⟨?_, ?_, ?_⟩ g2 g4 ?_) (by rw [g3]; rfl)
      · rw [T3 o k q1 q2 (by omega) (by omega) (by omega)]
        exact T2 o k q1 q2 (by omega) (by omega) q4 q5
      · rw [T3 24 _ (by omega) (by omega) (by omega) (by omega) (by omega), T1 24 (Or.inl rfl), y1, s21 x 3 z12 (by omega)]; exact a6.symm
      · rw [T3 25 _ (by omega) (by omega) (by omega) (by omega) (by omega), T1 25 (Or.inr rfl), y2, s21 x 4 z12 (by omega)]; exact a7.symm
      · rw [T3 26 _ (by omega) (by omega) (by omega) (by omega) (by omega), e12, s21 x 2 z12 (by omega)]; exact a5.symm
      · exact ⟨job, JL_fr L1 hM.2.2.1 (fun k a b => by rw [T3 27 k (by omega) (by omega) (by omega) (by omega) (by omega)]; exact T2 27 k (by omega) (by omega) (by omega) (by omega) (by omega) (by omega)) (fun k a b => by rw [T3 28 k (by omega) (by omega) (by omega) (by omega) (by omega)]; exact T2 28 k (by omega) (by omega) (by omega) (by omega) (by omega) (by omega))⟩
