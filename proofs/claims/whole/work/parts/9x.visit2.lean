/-! pure: an open node of a use is visited, in both worlds -/
theorem visit_open {c : Nat → Nat → Int} {N : Nat} {sz : Nat → Nat} {sd : Nat → Int} {n : Nat} {hw wo : Nat → Prop} {σ σx σ1 σ2 : St} {u t t' i l x U U2 i' l' : Nat} {j k way j' k' way' ws left : Int} {L1 : List En} (ht : t < N) (hx : x < sz t) (hu : u < 8) (hk : c (12 * t + x) 0 = 1) (hI : LpI c N sz sd n hw wo σ σx u t i j k l way x L1 U ((l' : Int) - i' - (k' - j')) ws (hw (12 * t + x))) (hCl : Cl σx u x i' j' k' l' way') (hLV : LV c (VV c N sd) n (12 * t + x) i' j' k' l' way') (hOL : OL c (VV c N sd) sz n σx u t (eN (pT c t) (sz t) x) L1) (hS : SimV c N sz sd n hw wo σ σx u t i j k l way x L1 i' j' k' l' way') (hU7 : U < 8)
    (hSI : SI c N (VV c N sd) (c (12 * t + x) 1) i' l' way' t' left) (a1 : σ1 23 0 = ((U + 1 : Nat) : Int)) (a2 : σ1 24 (7 * U) = (t' : Int)) (a3 : σ1 24 (7 * U + 1) = (u : Int)) (a4 : σ1 24 (7 * U + 2) = (x : Int)) (a5 : σ1 25 (nJ u x 2) = (U : Int)) (fr1 : ∀ o k, ¬ (o = 23 ∧ k = 0) → ¬ (o = 24 ∧ 7 * U ≤ k) → ¬ (o = 25 ∧ 84 * U ≤ k) → ¬ (o = 25 ∧ k = nJ u x 2) → σ1 o k = σx o k)
    (d1 : cF σ1 σ2 U) (d2 : σ2 23 0 = (U2 : Int)) (d3 : U + 1 ≤ U2) (d4 : (U2 : Int) ≤ (U : Int) + ((l' : Int) - i')) (d5 : ∀ v, U ≤ v → v < U2 → UF c N sz σ2 U2 v) (d6 : Sim c N sz sd n hw wo σ1 σ2 U t' i' (-1) (-1) l' left) (d7 : U2 ≤ 8) :
    LpI c N sz sd n hw wo σ σ2 u t i j k l way (x + 1) L1 U2 0 ws False ∧ OL c (VV c N sd) sz n σ2 u t (x + 1) L1 ∧ SimX c N sz sd n hw wo σ σ2 u t i j k l way (x + 1) L1 := by
  obtain ⟨hC, hcF, hU, huU, hU8, hb, hws, hwx, hCh, hUF⟩ := hI
  obtain ⟨tj, tpo, tsx⟩ := TS hC ht
  have hC0 := hC
  obtain ⟨c1, c2, c3, c4, c5, c6, c7, c8⟩ := hC
  have s12 := (c6.2 t ht).2.1
  have hsz : ∀ t, t < N → sz t ≤ 12 := fun t h => (c6.2 t h).2.1
  have g9 := (c6.1 t x ht hx).2.2.2.2.2.2.2.2.1
  have lk := (LV_kind c6 c1 ht hx hLV).2.2 hk
  have z12 : x < 12 := by omega
  have wayr : way' < 1000000001 := by have := (VV_r c N sd false (12 * t + x) i' j' k' l').2; have := hLV.2.2; omega
  have vs := hLV.1
  have low : ∀ o k, o < 23 → σ2 o k = σx o k := fun o k q => by rw [d1 o k (by omega) (by omega) (by omega), fr1 o k (by omega) (by omega) (by omega) (by omega)]
  have f24 : ∀ k, k < 7 * U → σ2 24 k = σx 24 k := fun k q => by rw [d1 24 k (by omega) (by omega) (by omega), fr1 24 k (by omega) (by omega) (by omega) (by omega)]
  have nd2 : ∀ v y w, v < U → y < 12 → w < 7 → ¬ (v = u ∧ y = x ∧ w = 2) → σ2 25 (nJ v y w) = σx 25 (nJ v y w) := fun v y w q0 a b q => by
    have := nJ_lt q0 a b
    rw [d1 25 _ (by omega) (by omega) (by omega), fr1 25 _ (by omega) (by omega) (by omega) (fun z => q (nJ_inj a b z12 (by omega) z.2))]
  have c2x : σ2 25 (nJ u x 2) = (U : Int) := by
    have := nJ_lt huU z12 (show 2 < 7 by omega)
    rw [d1 25 _ (by omega) (by omega) (by omega)]; exact a5
  have u0 : ∀ d, d < 3 → σ2 24 (7 * U + d) = σ1 24 (7 * U + d) := fun d q => d1 24 _ (by omega) (by omega) (by omega)
  have leaf : eN (pT c t) (sz t) x = x + 1 := eN_leaf tj.1 hx (fun y hy q => by
    have := tj.2.2.2.2.1 y hy (by rw [q]; omega)
    rw [q, show ((x : Int)).toNat = x by omega] at this
    have : c (12 * t + x) 0 = 0 := this
    omega)
  rw [leaf] at hOL
  have hnx : ∀ a b, a < sz t → b < sz t → c (12 * t + a) 5 = ((12 * t + b : Nat) : Int) → pT c t b = pT c t a := fun a b ha hb' hc => by
    rcases c_nx hC0 ht ha with ⟨_, z⟩ | ⟨xn, z1, z2, z3, z4, z5, z6⟩
    · omega
    · have : xn = b := by omega
      subst this
      show c (12 * t + xn) 2 = c (12 * t + a) 2
      rw [← c5 t xn 2 ht z3 (by omega), ← c5 t a 2 ht ha (by omega)]; exact z4
  have hee : ∀ a, 0 < a → a < sz t → a < eN (pT c t) (sz t) (pT c t a).toNat := fun a h0 ha => by
    obtain ⟨q0, _⟩ := tsx a h0 ha
    have px := tj.1 a ha
    by_cases w : eN (pT c t) (sz t) (pT c t a).toNat ≤ a
    · exact absurd (An_up q0 ⟨0, rfl⟩) (An_out tj.1 tpo (show (pT c t a).toNat < sz t by omega) a a (Nat.le_refl a) w ha)
    · omega
  have ol2 : OL c (VV c N sd) sz n σ2 u t (x + 1) L1 := OL_fr hnx hee L1 (x + 1) (fun z w a b d => nd2 u z w huU (by omega) d (by omega)) hOL
  have nhw : ¬ hw (12 * t + x) := fun z => by
    rcases g9.mp z with w | w
    · omega
    · have := w.1; omega
  refine ⟨⟨CC_fr hC0 low, fun o k q1 q2 q3 => ?_, d2, by omega, d7, by rw [lk.1, lk.2.1] at hb; omega, hws, ?_, fun y hy => ?_, fun v h1 h2 => ?_⟩, ol2, ?_⟩
  · rw [d1 o k q1 (by omega) (by omega), fr1 o k q1 (by omega) (by omega) (fun z => q3 ⟨z.1, by rw [z.2]; exact nJ_84⟩)]
    exact hcF o k q1 q2 q3
  · rcases hwx with z | z | z
    · exact Or.inl z
    · exact absurd z nhw
    · exact Or.inr (Or.inr z)
  · by_cases e : y = x
    · subst e
      refine Or.inr ⟨U, t', huU, by omega, c2x, by have := u0 0 (by omega); rw [Nat.add_zero] at this; rw [this]; exact a2, hSI.1, by rw [u0 1 (by omega)]; exact a3, by rw [u0 2 (by omega)]; exact a4, Or.inr ⟨hk, hSI.2.1.2⟩⟩
    · exact Ch_to (hCh y (by omega)) (by omega) (nd2 u y 2 huU (by omega) (by omega) (by omega)) f24
  · by_cases e : U ≤ v
    · exact d5 v e h2
    · exact UF_to hsz (hUF v h1 (by omega)) (by omega) (by omega) (fun y hy => nd2 v y 2 (by omega) hy (by omega) (by omega)) f24
  · obtain ⟨cost, hS⟩ := hS
    obtain ⟨cost2, hS2⟩ := d6
    refine ⟨cost + 1 + cost2, fun QM F' τ base hp hK => ?_⟩
    rw [show F' + (cost + 1 + cost2) = F' + cost2 + 1 + cost by omega]
    refine hS QM (F' + cost2 + 1) τ base hp (fun τ' hM hc hJ => ?_)
    have hbase := hp.2.1
    have hCM' : CM c N sz sd n hw wo τ' := mF_CM hp.1 hM.1
    have len := OL_len (V := VV c N sd) (n := n) (σ := σx) (u := u) (c := c) (sz := sz) (t := t) hee L1 (x + 1) (by omega) hOL
    have pb : base + L1.length < 200 := by omega
    have pb2 : base + L1.length ≤ 12 * U := by omega
    clear len
    refine sp_pop (P := base + L1.length) (on := 0) (by rw [hc]; congr 1) pb (Or.inl rfl) hJ (fun _ => ?_) (fun z => absurd z (by decide))
    have hCM2 : CM c N sz sd n hw wo (su τ' 0 48 ((base + L1.length : Nat) : Int)) := CM_fr hCM' (fun o k a b => su_ko _ _ (by omega))
    refine sp_mlay1 (u := u) (t := t) (x := x) (t' := t') (U := U) (P := base + L1.length) (i := i') (l := l') hCM2 huU hU7 ht hx hk (by rw [su_ko _ _ (by omega), hM.2.1]; exact hU) (su_at _ _ _ _) pb vs.1 vs.2.1 wayr hSI rfl rfl rfl rfl (fun τ1 τ2 y1 y2 y3 e1 e2 e3 e4 e5 e6 e7 e8 e9 e10 e11 e12 e13 => ?_)
    have T1 : ∀ o k, ¬ (o = 0 ∧ k = 48) → ¬ ((o = 24 ∨ o = 25) ∧ k = 12 * u + x) → τ1 o k = τ' o k := fun o k q1 q2 => by rw [y3 o k (by omega) (by omega), su_ko _ _ q1]
    have T2 : ∀ o k, ¬ (o = 0 ∧ (k = 42 ∨ k = 48)) → ¬ (o = 23 ∧ 7 * U ≤ k) → ¬ ((o = 24 ∨ o = 25) ∧ k = 12 * u + x) → ¬ (o = 26 ∧ (k = 12 * u + x ∨ 12 * U ≤ k)) → ¬ (o = 27 ∧ 7 * (base + L1.length) ≤ k) → ¬ (o = 28 ∧ base + L1.length ≤ k) → τ2 o k = τ' o k := fun o k q1 q2 q3 q4 q5 q6 => by
      rw [e13 o k q1 (by omega) (by omega) (fun z => q4 ⟨z.1, Or.inl (Option.some.inj z.2).symm⟩) (by omega) (by omega)]
      exact T1 o k (by omega) q3
    refine hS2 QM F' τ2 (base + L1.length) ⟨CM_fr hCM' (fun o k a b => T2 o k (by omega) (by omega) (by omega) (by omega) (by omega) (by omega)), pb2, by rw [e1]; exact a1.symm, e2, e3, fun w hw' => ?_, e7, e8, e9, e10, e11⟩ (fun τ3 g1 g2 g3 g4 => ?_)
    · by_cases w0 : w = 0
      · subst w0; rw [Nat.add_zero, e4]; exact a2.symm
      · by_cases w1 : w = 1
        · subst w1; rw [e5]; exact a3.symm
        · have w2 : w = 2 := by omega
          subst w2; rw [e6]; exact a4.symm
    · have T3 : ∀ o k, ¬ (o = 0 ∧ (k = 42 ∨ k = 48)) → ¬ (o = 23 ∧ 7 * U ≤ k) → ¬ ((o = 24 ∨ o = 25 ∨ o = 26) ∧ 12 * U ≤ k) → ¬ (o = 27 ∧ 7 * (base + L1.length) ≤ k) → ¬ (o = 28 ∧ base + L1.length ≤ k) → τ3 o k = τ2 o k := fun o k q1 q2 q3 q4 q5 => g1 o k q1 q2 q3 q4 q5
      refine hK τ3 (Mid_step hsz hM hU huU z12 (fun o k q1 q2 q3 q4 q5 => ?_) f24 (fun y w a b => nd2 u y w huU (by omega) b (by omega)) (fun v y w a b c' d => nd2 v y w b c' d (by omega)) ⟨?_, ?_, ?_⟩ g2 g4 ?_) g3
      · rw [T3 o k q1 q2 (by omega) q4 q5]
        exact T2 o k q1 q2 (by omega) (by omega) q4 q5
      · rw [T3 24 _ (by omega) (by omega) (by omega) (by omega) (by omega), e13 24 _ (by omega) (by omega) (by omega) (fun z => absurd z.1 (by decide)) (by omega) (by omega), y1, nd2 u x 3 huU z12 (by omega) (by omega)]; exact hCl.1.symm
      · rw [T3 25 _ (by omega) (by omega) (by omega) (by omega) (by omega), e13 25 _ (by omega) (by omega) (by omega) (fun z => absurd z.1 (by decide)) (by omega) (by omega), y2, nd2 u x 4 huU z12 (by omega) (by omega)]; exact hCl.2.1.symm
      · rw [T3 26 _ (by omega) (by omega) (by omega) (by omega) (by omega), e12]; exact c2x.symm
      · exact JL_fr L1 hM.2.2.1 (fun k a b => by rw [T3 27 k (by omega) (by omega) (by omega) (by omega) (by omega)]; exact T2 27 k (by omega) (by omega) (by omega) (by omega) (by omega) (by omega)) (fun k a b => by rw [T3 28 k (by omega) (by omega) (by omega) (by omega) (by omega)]; exact T2 28 k (by omega) (by omega) (by omega) (by omega) (by omega) (by omega))
