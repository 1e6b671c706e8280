/-! pure: a use is unfolded, in both worlds -/
theorem own_RV {c : Nat → Nat → Int} {N : Nat} {sz : Nat → Nat} {sd : Nat → Int} {n : Nat} {hw wo : Nat → Prop} {t x i l : Nat} {j k way : Int} (hF : CF c N sz hw wo) (ht : t < N) (hx : x < sz t) (hk : c (12 * t + x) 0 = 0) (h : LV c (VV c N sd) n (12 * t + x) i j k l way) (ho : way < ownW c (VV c N sd) (12 * t + x) i j k l) : RV c (VV c N sd) n (12 * t + (x + 1)) i j k l way := by
  obtain ⟨v, h0, hl⟩ := h
  have g4 := (hF.1 t x ht hx).2.2.2.1 hk
  have g6 := (hF.1 t x ht hx).2.2.2.2.2.1
  have g3' := (hF.1 t (x + 1) ht g4).2.2.1
  have h67 : c (12 * t + x) 6 = 1 ↔ c (12 * t + (x + 1)) 7 = 1 := by
    rw [g6]; exact ⟨fun z => z.elim (fun w => by omega) (fun w => w.2), fun z => Or.inr ⟨hk, z⟩⟩
  refine ⟨⟨v.1, v.2.1, ?_⟩, h0, ?_⟩
  · rcases v.2.2 with z | z
    · left; refine ⟨?_, z.2⟩
      rcases g3' with w | w
      · exact w
      · have := h67.mpr w
        have := z.1
        omega
    · right; exact ⟨h67.mp z.1, z.2⟩
  · unfold ownW at ho
    by_cases q : c (12 * t + x) 4 = 1
    · rw [if_pos q] at ho; omega
    · rw [if_neg q] at ho; exact ho
theorem unf {c : Nat → Nat → Int} {N : Nat} {sz : Nat → Nat} {sd : Nat → Int} {n : Nat} {hw wo : Nat → Prop} : ∀ (d u t i l : Nat) (j k way : Int) (σ : St) (Q : St → Prop), 8 ≤ u + d → u < 8 → CC c N sz sd n hw wo σ → σ 23 0 = ((u + 1 : Nat) : Int) → σ 24 (7 * u) = (t : Int) → t < N → Cl σ u 0 i j k l way → LV c (VV c N sd) n (12 * t) i j k l way → (u : Int) + ((l : Int) - i - (k - j)) ≤ 8 →
    (∀ (σ' : St) (U' : Nat), cF σ σ' u → σ' 23 0 = (U' : Int) → u + 1 ≤ U' → (U' : Int) ≤ (u : Int) + ((l : Int) - i - (k - j)) → (∀ v, u ≤ v → v < U' → UF c N sz σ' U' v) → Sim c N sz sd n hw wo σ σ' u t i j k l way → Q σ') → wp_X6_unfoldUse_D d (u : Int) Q σ := by
  intro d
  induction d with
  | zero => intro u t i l j k way σ Q h1 h2; omega
  | succ d IH =>
    intro u t i l j k way σ Q hd hu hC h23 h24 ht hCl hLV hY hQ
    have hC00 := hC
    obtain ⟨c1, c2, c3, c4, c5, c6, c7, c8⟩ := hC
    have ftr := c6.2 t ht
    have s12 := ftr.2.1
    have hsz : ∀ t, t < N → sz t ≤ 12 := fun t h => (c6.2 t h).2.1
    obtain ⟨tj, tpo, tsx⟩ := TS hC00 ht
    obtain ⟨hnx, hee⟩ := TS2 hC00 ht
    have yld := LV_y (x := 0) c6 ht ftr.1 hLV
    -- a node is visited
    have goV : ∀ (m x U i' l' : Nat) (j' k' way' ws : Int) (L1 : List En) (σx : St), x < sz t → σx 24 (7 * u) = (t : Int) → LpI c N sz sd n hw wo σ σx u t i j k l way x L1 U ((l' : Int) - i' - (k' - j')) ws (hw (12 * t + x)) → Cl σx u x i' j' k' l' way' → LV c (VV c N sd) n (12 * t + x) i' j' k' l' way' → OL c (VV c N sd) sz n σx u t (eN (pT c t) (sz t) x) L1 → SimV c N sz sd n hw wo σ σx u t i j k l way x L1 i' j' k' l' way' →
        (∀ (σ2 : St) (L2 : List En) (U2 : Nat) (ws2 : Int), σ2 24 (7 * u) = (t : Int) → LpI c N sz sd n hw wo σ σ2 u t i j k l way (x + 1) L2 U2 0 ws2 False → OL c (VV c N sd) sz n σ2 u t (x + 1) L2 → SimX c N sz sd n hw wo σ σ2 u t i j k l way (x + 1) L2 → wp_X6_unfoldUse_L41 (wp_X6_unfoldUse_D d) Q m (u : Int) (t : Int) ((x + 1 : Nat) : Int) σ2) → wp_X6_unfoldUse_L41 (wp_X6_unfoldUse_D d) Q (m + 1) (u : Int) (t : Int) (x : Int) σx := by
      intro m x U i' l' j' k' way' ws L1 σx hx hx24 hI hCl' hLV' hOL hS hK
      have hI0 := hI
      obtain ⟨hCx, hcF, hU, huU, hU8, hb, hws, hwx, hCh, hUF⟩ := hI
      have hCx0 := hCx
      obtain ⟨x1, x2, x3, x4, x5, x6, x7, x8⟩ := hCx
      have e10 : σx 10 t = ((sz t : Nat) : Int) := (x4 t ht).1
      have e0 : nd σx t x 0 = c (12 * t + x) 0 := x5 t x 0 ht hx (by omega)
      have e1 : nd σx t x 1 = c (12 * t + x) 1 := x5 t x 1 ht hx (by omega)
      have k3 := (x6.1 t x ht hx).1
      have g9 := (x6.1 t x ht hx).2.2.2.2.2.2.2.2.1
      have nm := (x6.1 t x ht hx).2.2.2.2.2.2.2.2.2.2
      have z12 : x < 12 := by omega
      have y0 := LV_y x6 ht hx hLV'
      have yL := OL_y (sd := sd) x6 ht L1 _ hOL
      have wayr : way' < 1000000001 := by have := (VV_r c N sd false (12 * t + x) i' j' k' l').2; have := hLV'.2.2; omega
      -- back to the loop
      have back : ∀ (σ2 : St) (L2 : List En) (U2 : Nat) (ws2 : Int), σ2 24 (7 * u) = (t : Int) → LpI c N sz sd n hw wo σ σ2 u t i j k l way (x + 1) L2 U2 0 ws2 False → OL c (VV c N sd) sz n σ2 u t (x + 1) L2 → SimX c N sz sd n hw wo σ σ2 u t i j k l way (x + 1) L2 → wp_X6_unfoldUse_B168 (wp_X6_unfoldUse_D d) (fun z0 z1 z2 σ => wp_X6_unfoldUse_L41 (wp_X6_unfoldUse_D d) Q m z0 z1 z2 σ) (u : Int) (t : Int) (x : Int) Q σ2 := by
        intro σ2 L2 U2 ws2 q0 q1 q2 q3
        unfold wp_X6_unfoldUse_B168
        intro x_1 ex
        rw [ex, show (x : Int) + 1 = ((x + 1 : Nat) : Int) by omega]
        exact hK σ2 L2 U2 ws2 q0 q1 q2 q3
      clear hK
      have wr0 : w32 (c (12 * t + x) 0) = c (12 * t + x) 0 := w32_id (by omega) (by omega)
      unfold wp_X6_unfoldUse_L41
      rw [w32_id (show -2147483648 ≤ (t : Int) by omega) (by omega), show ((t : Int)).toNat = t by omega, e10, w32_id (show -2147483648 ≤ ((sz t : Nat) : Int) by omega) (by omega), w32_id (show -2147483648 ≤ (x : Int) by omega) (by omega)]
      refine ⟨by omega, fun z => by omega, fun _ => sp_row1 (t := t) (x := x) rfl rfl ?_⟩
      refine sp_cell (t := t) (x := x) (w := 0) rfl rfl (by omega) z12 (by omega) ?_
      rw [e0, wr0]
      refine ⟨fun n1 => ⟨fun n0 => ?_, fun n0 => ?_⟩, fun n1 => ?_⟩
      · -- a word or a foot
        obtain ⟨ws2, q1, q2, q3⟩ := visit_leaf ht hx hu (by omega) hI0 hCl' hLV' hOL hS
        have r24 : su σx 25 (nJ u x 2) (-1) 24 (7 * u) = (t : Int) := by rw [su_ko _ _ (by omega)]; exact hx24
        have bk := back _ _ _ _ r24 q1 q2 q3
        clear back
        unfold wp_X6_unfoldUse_B147
        exact sp_setNodeCell (u := u) (x := x) (w := 2) hu z12 (by omega) rfl rfl rfl ⟨fun _ => bk, fun z => absurd (by decide) z⟩
      · -- an inner node
        have u8 : ¬ way' < ownW c (VV c N sd) (12 * t + x) i' j' k' l' → U < 8 := fun ho => by
          obtain ⟨t', p, q, left, sa⟩ := SA_ex x6 x1 ht hx n0 hLV' ho
          obtain ⟨sk1, sk2, sk3⟩ := SA_k x6 x8.2 ht hx n0 hLV'.1 sa
          have yc := LV_y (x := 0) x6 sa.1 (x6.2 t' sa.1).1 sk2
          have yc1 := yc.2 (x6.2 t' sa.1).2.2.2
          have yr := Vs_y sk3.1.vs
          have g4 := (x6.1 t x ht hx).2.2.2.1 n0
          have wi : hw (12 * t + x) → 1 ≤ (q : Int) - p - (k' - j') := fun hh => by
            by_cases e : (q : Int) - p - (k' - j') = 0
            · have wo1 : wo (12 * t + (x + 1)) := by
                rcases g9.mp hh with w | w
                · omega
                · exact w.2
              have := VV_z (n := n) sd x6 (o := true) ht g4 sk3.1.vs (by unfold wd; exact Or.inl ⟨rfl, wo1⟩) e
              have s3 := sk3.2
              omega
            · omega
          clear g9
          rcases hwx with z | z | z
          · omega
          · have := wi z; omega
          · have := yL.2 z; omega
        refine sp_startAuxiliary (U := U) (u := u) (t := t) (x := x) (i := i') (l := l') hCx0 hu hU u8 huU hU8 ht hx n0 rfl rfl rfl hCl' hLV' (fun ho => ?_) (fun t' p q left σa sa b1 b2 b3 b4 b5 b6 b7 => ?_)
        · have rv := own_RV x6 ht hx n0 hLV' ho
          refine sp_layParts (u := u) (t := t) (x := x) (i := i') (l := l') hCx0 hu ht hx n0 rfl rfl rfl hCl' rv (fun f σ1 ro pf => ?_)
          obtain ⟨q1, q2, q3⟩ := visit_plain ht hx hu n0 hI0 hCl' hLV' hOL hS ho rv ro pf
          have r24 : su σ1 25 (nJ u x 2) (-1) 24 (7 * u) = (t : Int) := by rw [su_ko _ _ (by omega), pf 24 _ (fun z => by omega)]; exact hx24
          have bk := back _ _ _ _ r24 q1 q2 q3
          clear back
          unfold wp_X6_unfoldUse_B147
          exact sp_setNodeCell (u := u) (x := x) (w := 2) hu z12 (by omega) rfl rfl rfl ⟨fun _ => bk, fun z => absurd (by decide) z⟩
        · have ho : ¬ way' < ownW c (VV c N sd) (12 * t + x) i' j' k' l' := by
            obtain ⟨_, _, _, _, _, _, s7, _, s9⟩ := sa
            have h1 := sm_p (f := aT c (VV c N sd) (12 * t + x) i' j' k' l') t' (fun d _ => aT_p _ _ _ _ _ d)
            have h2 := aP_p (c := c) (N := N) (sd := sd) (12 * t + x) i' j' k' l' t' (p - i')
            have h3 := aQ_p (c := c) (N := N) (sd := sd) (12 * t + x) i' j' k' l' t' p (q - fstQ j' k' p)
            clear u8
            omega
          have U7 := u8 ho
          clear u8
          obtain ⟨sk1, sk2, sk3⟩ := SA_k x6 x8.2 ht hx n0 hLV'.1 sa
          have lowa : ∀ o k, o < 23 → σa o k = σx o k := fun o k q => b7 o k (fun z => by omega) (fun z => by omega) (fun z => by omega) (fun z => by omega)
          have hCa : CC c N sz sd n hw wo σa := CC_fr hCx0 lowa
          refine sp_layParts (u := u) (t := t) (x := x) (i := p) (l := q) hCa hu ht hx n0 rfl rfl rfl b6 sk3 (fun f σb ro pf => ?_)
          have kid := PJ_kid tj hx n0
          have part : ∀ z, nd σa t z 2 = (x : Int) → z < sz t → z < eN (pT c t) (sz t) x := fun z hz hz2 => by
            refine (eN_kid tj.1 tpo hx hz2 ?_).2
            show c (12 * t + z) 2 = _
            rw [← x5 t z 2 ht hz2 (by omega)]
            rw [← hz]; exact (lowa 11 _ (by omega)).symm
          have ex := eN_spec (pT c t) hx
          -- the state when the child is unfolded
          have pf2 : ∀ y w, y < 12 → w < 7 → (∀ z, x < z → z < sz t → nd σa t z 2 = (x : Int) → y ≠ z) → σb 25 (nJ u y w) = σa 25 (nJ u y w) := fun y w a b q => pf 25 _ (fun z => by
            obtain ⟨_, z', z1, z2, z3, z4⟩ := z
            rcases z4 with z4 | z4 | z4 | z4 | z4
            all_goals
              have := nJ_inj a b (show z' < 12 by omega) (by omega) z4
              exact q z' z1 z2 z3 this.2.1)
          have pfU : ∀ v y w, v ≠ u → y < 12 → w < 7 → σb 25 (nJ v y w) = σa 25 (nJ v y w) := fun v y w q a b => pf 25 _ (fun z => by
            obtain ⟨_, z', z1, z2, z3, z4⟩ := z
            rcases z4 with z4 | z4 | z4 | z4 | z4
            all_goals
              have := nJ_inj a b (show z' < 12 by omega) (by omega) z4
              exact q this.1)
          have sb : ∀ o k, o ≠ 25 → su σb 25 (nJ u x 2) (U : Int) o k = σa o k := fun o k q => by
            rw [su_ko _ _ (fun z => q z.1)]
            exact pf o k (fun z => q z.1)
          have sc : ∀ v y w, y < 12 → w < 7 → ¬ (v = u ∧ y = x ∧ w = 2) → su σb 25 (nJ u x 2) (U : Int) 25 (nJ v y w) = σb 25 (nJ v y w) := fun v y w a b q => su_ko _ _ (fun z => q (nJ_inj a b z12 (by omega) z.2))
          have hC1 : CC c N sz sd n hw wo (su σb 25 (nJ u x 2) (U : Int)) := CC_fr hCa (fun o k q => sb o k (by omega))
          have clU : Cl (su σb 25 (nJ u x 2) (U : Int)) U 0 i' (p : Int) (q : Int) l' (left / VV c N sd true (12 * t + (x + 1)) p j' k' q) := Cl_of b5 (fun w hw' => by rw [sc U 0 w (by omega) hw' (by omega)]; exact pfU U 0 w (by omega) (by omega) hw')
          have xs : ∀ w, w < 7 → w ≠ 2 → su σb 25 (nJ u x 2) (U : Int) 25 (nJ u x w) = σa 25 (nJ u x w) := fun w hw' q => by rw [sc u x w z12 hw' (by omega)]; exact pf2 x w z12 hw' (fun z a _ _ => by omega)
          have yc := LV_y (x := 0) x6 sa.1 (x6.2 t' sa.1).1 sk2
          have yc1 := yc.2 (x6.2 t' sa.1).2.2.2
          have yr := Vs_y sk3.1.vs
          have g4 := (x6.1 t x ht hx).2.2.2.1 n0
          have wi : hw (12 * t + x) → 1 ≤ (q : Int) - p - (k' - j') := fun hh => by
            by_cases e : (q : Int) - p - (k' - j') = 0
            · have wo1 : wo (12 * t + (x + 1)) := by
                rcases g9.mp hh with w | w
                · omega
                · exact w.2
              have := VV_z (n := n) sd x6 (o := true) ht g4 sk3.1.vs (by unfold wd; exact Or.inl ⟨rfl, wo1⟩) e
              have s3 := sk3.2
              omega
            · omega
          have bnd : (U : Int) + ((l' : Int) - i' - ((q : Int) - (p : Int))) ≤ 8 := by
            clear g9
            rcases hwx with z | z | z
            · omega
            · have := wi z; omega
            · have := yL.2 z; omega
          have fr1 : ∀ o k, ¬ (o = 23 ∧ k = 0) → ¬ (o = 24 ∧ 7 * U ≤ k) → ¬ (o = 25 ∧ 84 * U ≤ k) → ¬ (o = 25 ∧ ∃ z w, w < 7 ∧ x ≤ z ∧ z < eN (pT c t) (sz t) x ∧ k = nJ u z w) → su σb 25 (nJ u x 2) (U : Int) o k = σx o k := by
            intro o k q1 q2 q3 q4
            rw [su_ko _ _ (fun z => q4 ⟨z.1, x, 2, by omega, Nat.le_refl x, ex.1, z.2⟩), pf o k (fun z => by
              obtain ⟨z0, z', z1, z2, z3, z4⟩ := z
              have z5 := part z' z3 z2
              rcases z4 with z4 | z4 | z4 | z4 | z4
              · exact q4 ⟨z0, z', 1, by omega, by omega, z5, z4⟩
              · exact q4 ⟨z0, z', 3, by omega, by omega, z5, z4⟩
              · exact q4 ⟨z0, z', 4, by omega, by omega, z5, z4⟩
              · exact q4 ⟨z0, z', 5, by omega, by omega, z5, z4⟩
              · exact q4 ⟨z0, z', 6, by omega, by omega, z5, z4⟩)]
            refine b7 o k q1 (by omega) (fun z => ?_) (fun z => ?_)
            · rcases z.2 with w | w | w | w | w <;> exact q3 ⟨z.1, by rw [w]; exact nJ_84⟩
            · rcases z.2 with w | w | w | w | w
              · exact q4 ⟨z.1, x, 1, by omega, Nat.le_refl x, ex.1, w⟩
              · exact q4 ⟨z.1, x, 3, by omega, Nat.le_refl x, ex.1, w⟩
              · exact q4 ⟨z.1, x, 4, by omega, Nat.le_refl x, ex.1, w⟩
              · exact q4 ⟨z.1, x, 5, by omega, Nat.le_refl x, ex.1, w⟩
              · exact q4 ⟨z.1, x, 6, by omega, Nat.le_refl x, ex.1, w⟩
          have roS : RO c (VV c N sd) sz (su σb 25 (nJ u x 2) (U : Int)) u t f (x + 1) p j' k' q (left % VV c N sd true (12 * t + (x + 1)) p j' k' q) := RO_fr (p := pT c t) hnx f (x + 1) p j' k' q _ kid.1 (fun z w a b _ dd => sc u z w (by omega) dd (by omega)) ro
          have zu : ¬ w32 (U : Int) = -1 := by rw [w32_id (by omega) (by omega)]; omega
          have dU : 8 ≤ U + d := by omega
          unfold wp_X6_unfoldUse_B147
          refine sp_setNodeCell (u := u) (x := x) (w := 2) hu z12 (by omega) rfl rfl rfl ⟨fun z => absurd z zu, fun _ => ?_⟩
          refine IH U t' i' l' (p : Int) (q : Int) _ _ _ dU U7 hC1 (by rw [sb 23 0 (by omega)]; exact b1) (by rw [sb 24 _ (by omega)]; exact b2) sa.1 clU sk2 bnd (fun σ2 U2 d1 d2 d3 d4 d5 d6 => ?_)
          have U28 : U2 ≤ 8 := by clear back; omega
          obtain ⟨q1, q2, q3⟩ := visit_set ht hx hu n0 hI0 hLV' hOL hS U7 ho sa (by rw [sb 23 0 (by omega)]; exact b1) (by rw [sb 24 _ (by omega)]; exact b2) (by rw [sb 24 _ (by omega)]; exact b3) (by rw [sb 24 _ (by omega)]; exact b4) (su_at _ _ _ _) (by rw [xs 3 (by omega) (by omega)]; exact b6.1) (by rw [xs 4 (by omega) (by omega)]; exact b6.2.1) roS fr1 d1 d2 d3 d4 d5 d6 U28
          refine back _ _ _ _ ?_ q1 q2 q3
          clear back
          rw [d1 24 _ (by omega) (by omega) (by omega), fr1 24 _ (by omega) (by omega) (by omega) (fun z => by omega)]; exact hx24
      · -- an open node
        have lk := (LV_kind x6 x1 ht hx hLV').2.2 n1
        obtain ⟨v1, v2, v3⟩ := hLV'.1
        have nmr : 0 ≤ c (12 * t + x) 1 ∧ c (12 * t + x) 1 < 16 := ⟨nm.1, nm.2.2 (by omega)⟩
        have nhw : ¬ hw (12 * t + x) := fun z => by
          rcases g9.mp z with w | w
          · omega
          · have := w.1; omega
        clear g9
        have h0 := hLV'.2.1
        have yb : 1 ≤ (l' : Int) - i' := by
          have lt : way' < sm (fI c (VV c N sd) (c (12 * t + x) 1) i' l') N := lk.2.2
          obtain ⟨t', s1, s2, s3⟩ := sm_find h0 N lt
          have am : c (12 * t') 1 = c (12 * t + x) 1 ∧ c (12 * t') 6 = 0 := by
            refine Classical.byContradiction (fun q => ?_)
            have : fI c (VV c N sd) (c (12 * t + x) 1) i' l' t' = 0 := by unfold fI; rw [if_neg q]
            omega
          have fe : fI c (VV c N sd) (c (12 * t + x) 1) i' l' t' = VV c N sd false (12 * t') i' (-1) (-1) l' := by unfold fI; rw [if_pos am]
          have := (LV_y (x := 0) x6 s1 (x6.2 t' s1).1 (show LV c (VV c N sd) n (12 * t') i' (-1) (-1) l' 0 from ⟨⟨v1, v2, Or.inl ⟨am.2, rfl, rfl⟩⟩, by omega, by omega⟩)).2 (x6.2 t' s1).2.2.2
          omega
        rw [lk.1, lk.2.1] at hb
        have wsl : 1 ≤ ws + sY L1 := by
          rcases hwx with z | z | z
          · omega
          · exact absurd z nhw
          · have := yL.2 z; omega
        have U7 : U < 8 := by omega
        have hway : 0 ≤ way' ∧ way' < 1000000000 := by
          have hv2 := hLV'.2.2
          have := (VV_r c N sd false (12 * t + x) i' j' k' l').2
          omega
        refine sp_cell (t := t) (x := x) (w := 1) rfl rfl (by omega) z12 (by omega) ?_
        refine sp_nodeCell (u := u) (x := x) (w := 3) hu z12 (by omega) rfl rfl rfl ?_
        refine sp_nodeCell (u := u) (x := x) (w := 4) hu z12 (by omega) rfl rfl rfl ?_
        refine sp_nodeCell (u := u) (x := x) (w := 1) hu z12 (by omega) rfl rfl rfl ?_
        rw [e1, hCl'.1, hCl'.2.1, hCl'.2.2.2.2]
        refine sp_startInitial (U := U) (i := i') (l := l') hCx0 hU U7 nmr v1 v2 rfl rfl hway lk.2.2 (fun t' left σ1 si b1 b2 b3 b4 b5 b6 => ?_)
        have sb : ∀ o k, o ≠ 25 → su σ1 25 (nJ u x 2) (U : Int) o k = σ1 o k := fun o k q => su_ko _ _ (fun z => q z.1)
        have hC1 : CC c N sz sd n hw wo (su σ1 25 (nJ u x 2) (U : Int)) := CC_fr hCx0 (fun o k q => by rw [sb o k (by omega)]; exact b6 o k (by omega) (by omega) (by omega))
        have clU : Cl (su σ1 25 (nJ u x 2) (U : Int)) U 0 i' (-1) (-1) l' left := Cl_of b5 (fun w hw' => su_ko _ _ (fun z => by have := nJ_inj (by omega) hw' z12 (by omega) z.2; omega))
        have fr1 : ∀ o k, ¬ (o = 23 ∧ k = 0) → ¬ (o = 24 ∧ 7 * U ≤ k) → ¬ (o = 25 ∧ 84 * U ≤ k) → ¬ (o = 25 ∧ k = nJ u x 2) → su σ1 25 (nJ u x 2) (U : Int) o k = σx o k := by
          intro o k q1 q2 q3 q4
          rw [su_ko _ _ q4]
          refine b6 o k q1 (by omega) (fun z => ?_)
          rcases z.2 with w | w | w | w | w <;> exact q3 ⟨z.1, by rw [w]; exact nJ_84⟩
        have zu : ¬ w32 (U : Int) = -1 := by rw [w32_id (by omega) (by omega)]; omega
        have dU : 8 ≤ U + d := by omega
        have lvU : LV c (VV c N sd) n (12 * t') i' (-1) (-1) l' left := ⟨⟨v1, v2, Or.inl ⟨si.2.1.2, rfl, rfl⟩⟩, si.2.2.1, si.2.2.2.1⟩
        have bnd : (U : Int) + ((l' : Int) - i' - (-1 - -1)) ≤ 8 := by omega
        unfold wp_X6_unfoldUse_B147
        refine sp_setNodeCell (u := u) (x := x) (w := 2) hu z12 (by omega) rfl rfl rfl ⟨fun z => absurd z zu, fun _ => ?_⟩
        refine IH U t' i' l' (-1) (-1) left _ _ dU U7 hC1 (by rw [sb 23 0 (by omega)]; exact b1) (by rw [sb 24 _ (by omega)]; exact b2) si.1 clU lvU bnd (fun σ2 U2 d1 d2 d3 d4 d5 d6 => ?_)
        have U28 : U2 ≤ 8 := by clear back; omega
        have d4' : (U2 : Int) ≤ (U : Int) + ((l' : Int) - i') := by clear back; omega
        obtain ⟨q1, q2, q3⟩ := visit_open ht hx hu n1 hI0 hCl' hLV' hOL hS U7 si (by rw [sb 23 0 (by omega)]; exact b1) (by rw [sb 24 _ (by omega)]; exact b2) (by rw [sb 24 _ (by omega)]; exact b3) (by rw [sb 24 _ (by omega)]; exact b4) (su_at _ _ _ _) fr1 d1 d2 d3 d4' d5 d6 U28
        refine back _ _ _ _ ?_ q1 q2 q3
        clear back
        rw [d1 24 _ (by omega) (by omega) (by omega), fr1 24 _ (by omega) (by omega) (by omega) (by omega)]; exact hx24
    -- the loop from a later node on
    have goX : ∀ (m x U : Nat) (ws : Int) (L : List En) (σx : St), sz t - x = m → 0 < x → x ≤ sz t → σx 24 (7 * u) = (t : Int) → LpI c N sz sd n hw wo σ σx u t i j k l way x L U 0 ws False → OL c (VV c N sd) sz n σx u t x L → SimX c N sz sd n hw wo σ σx u t i j k l way x L → wp_X6_unfoldUse_L41 (wp_X6_unfoldUse_D d) Q (m + 1) (u : Int) (t : Int) (x : Int) σx := by
      intro m
      induction m with
      | zero =>
        intro x U ws L σx g1 g2 g3 g4 hI hOL hS
        obtain ⟨hCx, hcF, hU, huU, hU8, hb, hws, hwx, hCh, hUF⟩ := hI
        have ex : x = sz t := by omega
        subst ex
        have eL : L = [] := by
          cases L with
          | nil => rfl
          | cons e L' => obtain ⟨_, h2, _⟩ := hOL; omega
        subst eL
        have ws1 : ws = 1 := by
          rcases hwx with z | z | z
          · exact z
          · exact absurd z id
          · exact absurd z id
        have e10 : σx 10 t = ((sz t : Nat) : Int) := (hCx.2.2.2.1 t ht).1
        have sy0 : sY ([] : List En) = 0 := rfl
        have res : Q σx := by
          refine hQ σx U hcF hU (by omega) (by omega) (fun v h1 h2 => ?_) ?_
          · by_cases e : v = u
            · subst e; exact ⟨t, g4, ht, hCh⟩
            · exact hUF v (by omega) h2
          · obtain ⟨cost, hS⟩ := hS
            refine ⟨cost, fun QM F τ base hp hK => hS QM F τ base hp (fun τ' hM hc => hK τ' hM.1 hM.2.1 (by rw [hc]; rfl) (fun v h1 h2 => ?_))⟩
            by_cases e : v = u
            · subst e; exact ⟨hM.2.2.2.1, t, g4, ht, hM.2.2.2.2.1⟩
            · exact hM.2.2.2.2.2.2 v (by omega) h2
        unfold wp_X6_unfoldUse_L41
        rw [w32_id (show -2147483648 ≤ (t : Int) by omega) (by omega), show ((t : Int)).toNat = t by omega, e10, w32_id (show -2147483648 ≤ ((sz t : Nat) : Int) by omega) (by omega)]
        exact ⟨by omega, fun _ => res, fun z => absurd (Int.le_refl _) z⟩
      | succ m ih =>
        intro x U ws L σx g1 g2 g3 g4 hI hOL hS
        have hI0 := hI
        obtain ⟨hCx, hcF, hU, huU, hU8, hb, hws, hwx, hCh, hUF⟩ := hI
        have zx : x < sz t := by omega
        cases L with
        | nil =>
          have : sz t ≤ x := hOL
          omega
        | cons e L' =>
          obtain ⟨i', j', k', l', way', L1, p1, p2, p3, p4, p5, p6⟩ := popRun hCx ht hu hOL
          have z1 : sz t - (x + 1) = m := by omega
          have z2 : 0 < x + 1 := by omega
          have z3 : x + 1 ≤ sz t := by omega
          have nb : (U : Int) + ((l' : Int) - i' - (k' - j')) + sY L1 + ws ≤ (u : Int) + 1 + ((l : Int) - i - (k - j)) := by omega
          have len := OL_len hee (e :: L') x g3 hOL
          have el : (e :: L').length = L'.length + 1 := rfl
          refine goV (m + 1) x U i' l' j' k' way' ws L1 σx zx g4 ⟨hCx, hcF, hU, huU, hU8, nb, hws, ?_, hCh, hUF⟩ p1 p2 p3 ?_ (fun σ2 L2 U2 ws2 q0 q1 q2 q3 => ih (x + 1) U2 ws2 L2 σ2 z1 z2 z3 q0 q1 q2 q3)
          · rcases hwx with z | z | z
            · exact Or.inl z
            · exact absurd z id
            · exact Or.inr (p5 z)
          · obtain ⟨cost, hS⟩ := hS
            refine ⟨cost + 1, fun QM F τ base hp hK => ?_⟩
            rw [show F + (cost + 1) = F + 1 + cost by omega]
            refine hS QM (F + 1) τ base hp (fun τ' hM hc => ?_)
            have hbase := hp.2.1
            have b16 : base + 16 < 200 := by omega
            refine p6 QM F τ' base (mF_CM hp.1 hM.1) b16 hM.2.2.1 (by rw [hc, el]) (fun τ2 y1 y2 y3 y4 => ?_)
            obtain ⟨m1, m2, m3, m4, m5, m6, m7⟩ := hM
            refine hK τ2 ⟨fun o k q1 q2 q3 q4 q5 => ?_, ?_, y3, fun w hw' => ?_, fun y hy => ?_, fun y h1 h2 => ?_, fun v h1 h2 => ?_⟩ y1 y2
            · rw [y4 o k (by omega) (by omega) (by omega)]; exact m1 o k q1 q2 q3 q4 q5
            · rw [y4 0 42 (by omega) (by omega) (by omega)]; exact m2
            · rw [y4 23 _ (by omega) (by omega) (by omega)]; exact m4 w hw'
            · obtain ⟨a1, a2, a3⟩ := m5 y hy
              exact ⟨by rw [y4 24 _ (by omega) (by omega) (by omega)]; exact a1, by rw [y4 25 _ (by omega) (by omega) (by omega)]; exact a2, by rw [y4 26 _ (by omega) (by omega) (by omega)]; exact a3⟩
            · rw [y4 26 _ (by omega) (by omega) (by omega)]; exact m6 y h1 h2
            · obtain ⟨r1, t', r2, r3, r4⟩ := m7 v h1 h2
              refine ⟨fun w hw' => by rw [y4 23 _ (by omega) (by omega) (by omega)]; exact r1 w hw', t', r2, r3, fun y hy => ?_⟩
              obtain ⟨a1, a2, a3⟩ := r4 y hy
              exact ⟨by rw [y4 24 _ (by omega) (by omega) (by omega)]; exact a1, by rw [y4 25 _ (by omega) (by omega) (by omega)]; exact a2, by rw [y4 26 _ (by omega) (by omega) (by omega)]; exact a3⟩
    -- from the root
    have go0 : ∀ σ0 : St, (∀ o k, ¬ (o = 24 ∧ 7 * u + 3 ≤ k ∧ k < 7 * u + 7) → σ0 o k = σ o k) → σ0 24 (7 * u + 3) = (i : Int) → σ0 24 (7 * u + 4) = (l : Int) → σ0 24 (7 * u + 5) = j → σ0 24 (7 * u + 6) = k → wp_X6_unfoldUse_L41 (wp_X6_unfoldUse_D d) Q (sz t + 1) (u : Int) (t : Int) ((0 : Nat) : Int) σ0 := by
      intro σ0 f0 w3 w4 w5 w6
      have C0 : CC c N sz sd n hw wo σ0 := CC_fr hC00 (fun o k q => f0 o k (by omega))
      have cl0 : Cl σ0 u 0 i j k l way := Cl_of hCl (fun w hw' => f0 25 _ (by omega))
      have r0 := eN_root ftr.1 tj.1 (fun x a b => tj.2.2.2.2.2.2.1 x a b)
      have hw0 : hw (12 * t + 0) := ftr.2.2.2
      refine goV (sz t) 0 (u + 1) i l j k way 0 [] σ0 ftr.1 (by rw [f0 24 _ (by omega)]; exact h24) ⟨C0, fun o k q1 q2 q3 => f0 o k (by omega), by rw [f0 23 0 (by omega)]; exact h23, by omega, by omega, by show _ + _ + 0 + 0 ≤ _; omega, by omega, Or.inr (Or.inl hw0), fun y hy => by omega, fun v h1 h2 => by omega⟩ cl0 hLV (by rw [r0]; exact Nat.le_refl _) ?_ (fun σ2 L2 U2 ws2 q0 q1 q2 q3 => ?_)
      · refine ⟨0, fun QM F τ base hp hK => hK τ ⟨fun _ _ _ _ _ _ _ => rfl, by rw [f0 23 0 (by omega)]; exact hp.2.2.1, trivial, fun w hw' => ?_, fun y hy => by omega, fun y _ h2 => hp.2.2.2.2.2.2.2.2.2.2 y h2, fun v h1 h2 => by rw [f0 23 0 (by omega), h23] at h2; omega⟩ hp.2.2.2.1 hp.2.2.2.2.1⟩
        obtain ⟨_, _, _, _, _, a6, a7, a8, a9, a10, _⟩ := hp
        by_cases e : w < 3
        · rw [a6 w e, f0 24 _ (by omega)]
        · by_cases e3 : w = 3
          · subst e3; rw [a7, w3]
          · by_cases e4 : w = 4
            · subst e4; rw [a8, w4]
            · by_cases e5 : w = 5
              · subst e5; rw [a9, w5]
              · have e6 : w = 6 := by omega
                subst e6; rw [a10, w6]
      · have zz := goX (sz t - 1) 1 U2 ws2 L2 σ2 rfl (by omega) (by have := ftr.1; omega) q0 q1 q2 q3
        have e1 : sz t - 1 + 1 = sz t := by have := ftr.1; omega
        rw [e1] at zz
        exact zz
    -- the span is copied
    have cp : ∀ (m w : Nat) (σ0 : St), 7 - w = m → 3 ≤ w → w ≤ 7 → (∀ o k, ¬ (o = 24 ∧ 7 * u + 3 ≤ k ∧ k < 7 * u + 7) → σ0 o k = σ o k) → (∀ w', 3 ≤ w' → w' < w → σ0 24 (7 * u + w') = σ 25 (nJ u 0 w')) → wp_X6_unfoldUse_L9 (wp_X6_unfoldUse_D d) Q (m + 1) (u : Int) (t : Int) (w : Int) σ0 := by
      intro m
      induction m with
      | zero =>
        intro w σ0 g1 g2 g3 f0 fw
        have e7 : w = 7 := by omega
        subst e7
        have res := go0 σ0 f0 (by rw [fw 3 (by omega) (by omega)]; exact hCl.1) (by rw [fw 4 (by omega) (by omega)]; exact hCl.2.1) (by rw [fw 5 (by omega) (by omega)]; exact hCl.2.2.1) (by rw [fw 6 (by omega) (by omega)]; exact hCl.2.2.2.1)
        unfold wp_X6_unfoldUse_L9
        exact ⟨fun _ => ⟨_, res⟩, fun z => absurd (by decide) z⟩
      | succ m ih =>
        intro w σ0 g1 g2 g3 f0 fw
        have zw : w < 7 := by omega
        unfold wp_X6_unfoldUse_L9
        rw [w32_id (show -2147483648 ≤ (w : Int) by omega) (by omega), w32_id (show -2147483648 ≤ (u : Int) * 7 + (w : Int) by omega) (by omega), show ((u : Int) * 7 + (w : Int)).toNat = 7 * u + w by omega]
        refine ⟨fun z => by omega, fun _ => sp_nodeCell (u := u) (x := 0) (w := w) hu (by omega) zw rfl rfl rfl ⟨by omega, fun σ3 e3 x_4 ex4 => ?_⟩⟩
        rw [ex4, show (w : Int) + 1 = ((w + 1 : Nat) : Int) by omega]
        refine ih (w + 1) σ3 (by omega) (by omega) (by omega) (fun o k q => by rw [e3, su_ko _ _ (by omega)]; exact f0 o k q) (fun w' h1 h2 => ?_)
        rw [e3]
        by_cases e : w' = w
        · subst e; rw [su_at]; exact f0 25 _ (by omega)
        · rw [su_ko _ _ (by omega)]; exact fw w' h1 (by omega)
    have fin := cp 4 3 σ rfl (by omega) (by omega) (fun _ _ _ => rfl) (fun w' h1 h2 => by omega)
    show wp_X6_unfoldUse_R (wp_X6_unfoldUse_D d) (u : Int) Q σ
    unfold wp_X6_unfoldUse_R
    refine sp_useCell (u := u) (w := 0) hu (by omega) rfl rfl ?_
    rw [Nat.add_zero, h24]
    exact ⟨_, fin⟩
