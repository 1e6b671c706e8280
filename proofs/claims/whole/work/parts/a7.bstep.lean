/-! pure: the reference goes to the node that it shows -/
theorem TM_fr {c : Nat → Nat → Int} {N : Nat} {sz : Nat → Nat} {τ τ' : St} (h : TM c N sz τ) (f : ∀ o k, o ≠ 0 → o ≠ 27 → o ≠ 29 → τ' o k = τ o k) : TM c N sz τ' := by
  refine ⟨h.1, fun t ht => ?_⟩
  obtain ⟨h1, h2, h3⟩ := h.2 t ht
  refine ⟨(f 17 t (by decide) (by decide) (by decide)).trans h1, h2, fun y hy => ?_⟩
  obtain ⟨a1, a2, a3, a4, a5⟩ := h3 y hy
  exact ⟨(f 6 _ (by decide) (by decide) (by decide)).trans a1, (f 8 _ (by decide) (by decide) (by decide)).trans a2, (f 9 _ (by decide) (by decide) (by decide)).trans a3, a4, a5⟩
theorem UsM_fr {sz : Nat → Nat} {U : Nat} {tr : Nat → Nat} {ch fr to : Nat → Nat → Int} {ofU atU : Nat → Int} {τ τ' : St} (h : UsM sz U tr ch fr to ofU atU τ) (f : ∀ o k, o ≠ 0 → o ≠ 27 → o ≠ 29 → τ' o k = τ o k) : UsM sz U tr ch fr to ofU atU τ' := by
  intro v hv
  obtain ⟨h1, h2, h3, h4⟩ := h v hv
  refine ⟨(f 23 _ (by decide) (by decide) (by decide)).trans h1, (f 23 _ (by decide) (by decide) (by decide)).trans h2, (f 23 _ (by decide) (by decide) (by decide)).trans h3, fun y hy => ?_⟩
  obtain ⟨a1, a2, a3⟩ := h4 y hy
  exact ⟨(f 26 _ (by decide) (by decide) (by decide)).trans a1, (f 24 _ (by decide) (by decide) (by decide)).trans a2, (f 25 _ (by decide) (by decide) (by decide)).trans a3⟩
theorem UsC_fr {sz : Nat → Nat} {U : Nat} {tr : Nat → Nat} {ch fr to : Nat → Nat → Int} {ofU atU : Nat → Int} {σ σ' : St} (h : UsC sz U tr ch fr to ofU atU σ) (f : ∀ o k, o ≠ 26 → o ≠ 27 → o ≠ 28 → σ' o k = σ o k) : UsC sz U tr ch fr to ofU atU σ' := by
  intro v hv
  obtain ⟨h1, h2, h3, h4⟩ := h v hv
  refine ⟨(f 24 _ (by decide) (by decide) (by decide)).trans h1, (f 24 _ (by decide) (by decide) (by decide)).trans h2, (f 24 _ (by decide) (by decide) (by decide)).trans h3, fun y hy => ?_⟩
  obtain ⟨a1, a2, a3⟩ := h4 y hy
  exact ⟨(f 25 _ (by decide) (by decide) (by decide)).trans a1, (f 25 _ (by decide) (by decide) (by decide)).trans a2, (f 25 _ (by decide) (by decide) (by decide)).trans a3⟩
theorem bF_st {τ τ' : St} {b : Nat} (h : bF τ τ' b) : ∀ o k, o ≠ 0 → o ≠ 27 → o ≠ 29 → τ' o k = τ o k := fun o k a1 a2 _ => h o k (fun z => a1 z.1) (fun z => a2 z.1)
theorem bF_tr {τ τ' τ'' : St} {b : Nat} (h : bF τ τ' b) (h' : bF τ' τ'' b) : bF τ τ'' b := fun o k a1 a2 => (h' o k a1 a2).trans (h o k a1 a2)
theorem bF_su {τ : St} {b : Nat} {z : Int} : bF τ (su τ 0 48 z) b := fun _ _ a1 _ => su_ko _ _ a1
theorem sp_bhops {c : Nat → Nat → Int} {N : Nat} {sz : Nat → Nat} {U : Nat} {tr : Nat → Nat} {ch fr to : Nat → Nat → Int} {ofU atU : Nat → Int} {QM : St → Prop} {F : Nat} {W : List Wn} {par : Int} {w x : Nat} (hN : ∀ v, v < U → tr v < N) (hS : Shp U (Kd c tr) (Pp c tr) ch (Zu sz tr) ofU atU) (hW : W.length < 300) (hx : ch w x = -1) : ∀ (k v y : Nat) (τ : St), TM c N sz τ → UsM sz U tr ch fr to ofU atU τ → v < U → y < sz (tr v) → Kd c tr v y ≠ 2 → Chn U ch (Zu sz tr) k v y w x → τ 0 48 = ((W.length + 1 : Nat) : Int) → τ 27 (4 * W.length) = (v : Int) → τ 27 (4 * W.length + 1) = (y : Int) → τ 27 (4 * W.length + 2) = 0 → τ 27 (4 * W.length + 3) = par → (∀ τ', bF τ τ' W.length → τ' 0 48 = ((W.length : Nat) : Int) → wp_X9_show (w : Int) (x : Int) (12 * (tr w : Int) + (x : Int)) par (fun s => Lb QM F s) τ') → Lb QM (F + (k + 1)) τ := by
  intro k
  induction k with
  | zero =>
    intro v y τ hT hs hv hy hk hc g0 g1 g2 g3 g4 h
    obtain ⟨e1, e2⟩ := hc
    subst e1; subst e2
    refine sp_bpop hT hN hs hS hv hy hW g0 g1 g2 g3 g4 (Or.inl rfl) (fun _ _ => h _ bF_su (su_at _ _ _ _)) (fun _ z => absurd hx z) (fun z => absurd z hk)
  | succ k ih =>
    intro v y τ hT hs hv hy hk hc g0 g1 g2 g3 g4 h
    obtain ⟨a, e1, e2, e3, e4⟩ := hc
    have up := Shp_up hS hv hy e3
    have a0 : 0 < sz (tr a) := (hS.2.2.1 a up.2.1).1
    have na : ch v y ≠ -1 := by rw [e3]; exact fun z => absurd (z ▸ Int.natCast_nonneg a : (0 : Int) ≤ -1) (by decide)
    refine sp_bpop (F := F + (k + 1)) hT hN hs hS hv hy hW g0 g1 g2 g3 g4 (Or.inl rfl) (fun _ z => ?_) (fun _ _ _ => ?_) (fun z => absurd z hk)
    · rcases z with z | z
      · exact absurd z na
      · exact absurd z (by decide)
    · rw [e3]
      refine sp_later (W := W) (u := a) (x := 0) (su_at _ _ _ _) hW (Or.inl rfl) rfl rfl (fun τ2 y1 y2 y3 y4 y5 y6 => ?_)
      have f2 : bF τ τ2 W.length := bF_tr bF_su (fun o k a1 a2 => y6 o k a1 a2)
      exact ih a 0 τ2 (TM_fr hT (bF_st f2)) (UsM_fr hs (bF_st f2)) up.2.1 a0 (hS.2.2.1 a up.2.1).2.2 e4 y1 y2 y3 y4 y5 (fun τ' f3 f4 => h τ' (bF_tr f2 f3) f4)
theorem sp_bstep {c : Nat → Nat → Int} {N : Nat} {sz : Nat → Nat} {U : Nat} {tr : Nat → Nat} {ch fr to : Nat → Nat → Int} {ofU atU : Nat → Int} {v y w x : Nat} (hN : ∀ v, v < U → tr v < N) (hS : Shp U (Kd c tr) (Pp c tr) ch (Zu sz tr) ofU atU) (hv : v < U) (hy : y < sz (tr v)) (hg : Gv U (Kd c tr) ch (Zu sz tr) v y w x) : ∃ cost : Nat, ∀ (QM : St → Prop) (F : Nat) (W : List Wn) (par : Int) (τ : St), W.length < 300 → TM c N sz τ → UsM sz U tr ch fr to ofU atU τ → τ 0 48 = ((W.length + 1 : Nat) : Int) → τ 27 (4 * W.length) = (v : Int) → τ 27 (4 * W.length + 1) = (y : Int) → τ 27 (4 * W.length + 2) = 0 → τ 27 (4 * W.length + 3) = par → (∀ τ', bF τ τ' W.length → τ' 0 48 = ((W.length : Nat) : Int) → wp_X9_show (w : Int) (x : Int) (12 * (tr w : Int) + (x : Int)) par (fun s => Lb QM F s) τ') → Lb QM (F + cost) τ := by
  obtain ⟨g1, g2, g3⟩ := hg
  rcases g3 with ⟨z1, z2⟩ | ⟨z1, z2, k, z3, z4⟩
  · have up := Shp_up hS g1 g2 z2
    refine ⟨2, fun QM F W par τ hW hT hs k48 k0 k1 k2 k3 h => ?_⟩
    refine sp_bpop (F := F + 1) hT hN hs hS hv hy hW k48 k0 k1 k2 k3 (Or.inl rfl) (fun z _ => absurd z1 z) (fun z _ _ => absurd z1 z) (fun _ => ?_)
    rw [up.2.2.1, up.2.2.2.1]
    refine sp_later (W := W) (u := w) (x := x) (su_at _ _ _ _) hW (Or.inr rfl) rfl rfl (fun τ2 y1 y2 y3 y4 y5 y6 => ?_)
    have f2 : bF τ τ2 W.length := bF_tr bF_su (fun o k a1 a2 => y6 o k a1 a2)
    refine sp_bpop (F := F) (TM_fr hT (bF_st f2)) hN (UsM_fr hs (bF_st f2)) hS g1 g2 hW y1 y2 y3 y4 y5 (Or.inr rfl) (fun _ _ => h _ (bF_tr f2 bF_su) (su_at _ _ _ _)) (fun _ _ z => absurd z (by decide)) (fun z => absurd z up.2.2.2.2)
  · exact ⟨k + 1, fun QM F W par τ hW hT hs k48 k0 k1 k2 k3 h => sp_bhops hN hS hW z2 k v y τ hT hs hv hy z1 z4 k48 k0 k1 k2 k3 h⟩
