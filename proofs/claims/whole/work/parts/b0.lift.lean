/-! a world inside a larger one -/
def shf (off : Nat) (q : Sh) : Sh := (q.1, q.2.1, q.2.2.map (fun d => (d.1, off + d.2)))
theorem fvs_shf (ad : Nat → Nat) (g : Nat → Int) (off : Nat) (fl : List (Nat × Nat)) : ∀ j : Nat, fvs ad g j (fl.map (fun d => (d.1, off + d.2))) = fvs (fun k => ad (off + k)) g j fl := by
  induction fl with
  | nil => intro j; rfl
  | cons d t ih =>
    intro j
    show fv ad g j (d.1, off + d.2) :: fvs ad g (j + 1) (t.map (fun d => (d.1, off + d.2))) = fv (fun k => ad (off + k)) g j d :: fvs (fun k => ad (off + k)) g (j + 1) t
    rw [ih (j + 1)]
    rfl
theorem cellE_shf (cA : Nat → ClassId) (ad : Nat → Nat) (g : Nat → Int) (off : Nat) (q : Sh) : cellE cA ad g (shf off q) = cellE cA (fun k => ad (off + k)) g q := by
  obtain ⟨a, b, fl⟩ := q
  match a with
  | 0 => show (Sum.inr (b, fvs ad g 0 (fl.map (fun d => (d.1, off + d.2)))) : va_E) = Sum.inr (b, fvs (fun k => ad (off + k)) g 0 fl); rw [fvs_shf]
  | 1 => rfl
  | 2 => rfl
  | 3 => rfl
  | 4 => rfl
  | n + 5 => rfl
def Emb (sub big : List Sh) (off : Nat) : Prop := off + sub.length ≤ big.length ∧ ∀ o q, sub[o]? = some q → big[off + o]? = some (shf off q)
def put (σ u : St) (off n : Nat) : St := fun o k => if off ≤ o ∧ o < off + n then u (o - off) k else σ o k
theorem A0_sub {sub big : List Sh} {off : Nat} {ad : Nat → Nat} {sz q : Nat} (e : Emb sub big off) (h : A0 sub (fun k => ad (off + k)) sz q) : A0 big ad sz q := by
  rcases h with ⟨o, h1, h2⟩ | h
  · have := e.1
    exact Or.inl ⟨off + o, by omega, h2⟩
  · exact Or.inr h
theorem Ap_sub {sub big : List Sh} {off : Nat} {ad : Nat → Nat} (e : Emb sub big off) (h : Ap big ad) : Ap sub (fun k => ad (off + k)) := fun i j h1 h2 h3 => by
  have := e.1
  have := h (off + i) (off + j) (by omega) (by omega) h3
  omega
theorem P_sub {D : va_G} {cA : Nat → ClassId} {sub big : List Sh} {off : Nat} {ad : Nat → Nat} {σ : St} {H : Heap} (e : Emb sub big off) (h : va_P D vwCl (wl cA ad σ 0 big) H) : va_P D vwCl (wl cA (fun k => ad (off + k)) (fun o => σ (off + o)) 0 sub) H := by
  intro k q hq
  rw [wl_get] at hq
  cases hs : sub[k]? with
  | none => rw [hs] at hq; cases hq
  | some r =>
    rw [hs] at hq
    have h1 := h (off + k) (ad (off + k), cellE cA ad (σ (off + k)) (shf off r)) (wl_at (e.2 k r hs))
    rw [cellE_shf] at h1
    have e1 := Option.some.inj hq
    rw [← e1]
    simp only [Nat.zero_add]
    exact h1
theorem P_put {D : va_G} {cA : Nat → ClassId} {sub big : List Sh} {off : Nat} {ad : Nat → Nat} {σ u : St} {H H1 : Heap} (e : Emb sub big off) (hA : Ap big ad) (h : va_P D vwCl (wl cA ad σ 0 big) H) (h1 : va_P D vwCl (wl cA (fun k => ad (off + k)) u 0 sub) H1) (hk : ∀ q : Nat, q < H.size → ¬ A0 sub (fun k => ad (off + k)) H.size q → H1[q]? = H[q]?) : va_P D vwCl (wl cA ad (put σ u off sub.length) 0 big) H1 := by
  intro o q hq
  rw [wl_get] at hq
  cases hs : big[o]? with
  | none => rw [hs] at hq; cases hq
  | some r =>
    rw [hs] at hq
    have e1 := Option.some.inj hq
    rw [← e1]
    simp only [Nat.zero_add]
    have ho : o < big.length := (List.getElem?_eq_some_iff.mp hs).1
    by_cases c : off ≤ o ∧ o < off + sub.length
    · obtain ⟨d, hd⟩ : ∃ d, o = off + d := ⟨o - off, by omega⟩
      subst hd
      have hl : d < sub.length := by omega
      have hs2 : sub[d]? = some sub[d] := List.getElem?_eq_getElem hl
      have hr := e.2 d _ hs2
      rw [hs] at hr
      have er := Option.some.inj hr
      have g := h1 d (ad (off + d), cellE cA (fun k => ad (off + k)) (u d) sub[d]) (wl_at hs2)
      have ep : put σ u off sub.length (off + d) = u d := by
        funext k
        unfold put
        rw [if_pos c, show off + d - off = d by omega]
      rw [ep, er, cellE_shf]
      exact g
    · have g := h o (ad o, cellE cA ad (σ o) r) (wl_at hs)
      have ep : put σ u off sub.length o = σ o := by
        funext k
        unfold put
        rw [if_neg c]
      rw [ep]
      refine va_at.kept g (hk _ (va_at.lt g) (fun z => ?_))
      rcases z with ⟨d, z1, z2⟩ | z
      · have := e.1
        have := hA o (off + d) ho (by omega) z2
        omega
      · have := va_at.lt g
        exact absurd z (by omega)
theorem Wd_sub {D : va_G} {cA : Nat → ClassId} {sub big : List Sh} {off : Nat} {ad : Nat → Nat} {zs zs' : Zs} {σ : St} {U : State} (e : Emb sub big off) (hz : ∀ q ∈ zs, q ∈ zs') (h : Wd D cA big ad zs' σ U) : Wd D cA sub (fun k => ad (off + k)) zs (fun o => σ (off + o)) U := by
  obtain ⟨h1, h2, h3, h4⟩ := h
  refine ⟨P_sub e h1, h2, Ap_sub e h3, fun q hq => ?_⟩
  obtain ⟨b, b1, b2, b3, b4⟩ := h4 q (hz q hq)
  exact ⟨b, va_Z.narrow b1 (fun _ => A0_sub e), va_T.narrow b2 (fun _ => A0_sub e), b3, fun z => b4 (A0_sub e z)⟩
theorem Wd_put {D : va_G} {cA : Nat → ClassId} {sub big : List Sh} {off : Nat} {ad : Nat → Nat} {zs zs' : Zs} {σ u : St} {U t : State} (e : Emb sub big off) (h : Wd D cA big ad zs' σ U) (h1 : Wd D cA sub (fun k => ad (off + k)) zs u t) (hF : va_F (A0 sub (fun k => ad (off + k)) U.heap.size) U t) (hA : U.vm.Alike t.vm) : Wd D cA big ad zs' (put σ u off sub.length) t := by
  obtain ⟨g1, g2, g3, g4⟩ := h
  refine ⟨P_put e g3 g1 h1.1 hF.2, h1.2.1, g3, ?_⟩
  exact Sx.moved hA (Sx.kept g4 hF.1 (fun q hq hn => hF.2 q hq (fun z => hn (A0_sub e z))) (A0_le hF.1))
section LF
variable {l : Launch} {y : MethodName} {cw : Cond} {rm : Room} {D : va_G} {cA : Nat → ClassId} {sub big : List Sh} {off : Nat} {ad : Nat → Nat} {zs zs' : Zs} {As : List Value} {σ : St}
theorem lift_I {Q : Int → St → Prop} (e : Emb sub big off) (hz : ∀ q ∈ zs, q ∈ zs') (h : CtI l y cw rm D cA sub (fun k => ad (off + k)) zs As (fun o => σ (off + o)) Q) : CtI l y cw rm D cA big ad zs' As σ (fun z σ' => ∃ u, Q z u ∧ σ' = put σ u off sub.length) := by
  intro sz
  refine MetFree.mono (h sz) (fun a s q => ⟨q.1, q.2.1, Wd_sub e hz q.2.2⟩) (fun _ _ _ _ _ q => q) (fun a s o t q z => ?_)
  obtain ⟨⟨⟨r, u, z1, ⟨x, z2, z3⟩, z4⟩, zF⟩, L, fe, hL⟩ := z
  exact ⟨⟨⟨r, put σ u off sub.length, z1, ⟨x, z2, u, z3, rfl⟩, Wd_put e q.2.2 z4 (by rw [q.2.1]; exact zF) fe.2.1.alike⟩, zF.1, fun b hb hn => zF.2 b hb (fun w => hn (A0_sub e w))⟩, L, fe, fun b hb => A0_sub e (hL b hb)⟩
theorem lift_L {Q : Int → St → Prop} (e : Emb sub big off) (hz : ∀ q ∈ zs, q ∈ zs') (h : CtL l y cw rm D cA sub (fun k => ad (off + k)) zs As (fun o => σ (off + o)) Q) : CtL l y cw rm D cA big ad zs' As σ (fun z σ' => ∃ u, Q z u ∧ σ' = put σ u off sub.length) := by
  intro sz
  refine MetFree.mono (h sz) (fun a s q => ⟨q.1, q.2.1, Wd_sub e hz q.2.2⟩) (fun _ _ _ _ _ q => q) (fun a s o t q z => ?_)
  obtain ⟨⟨⟨r, u, z1, ⟨x, z2, z3⟩, z4⟩, zF⟩, L, fe, hL⟩ := z
  exact ⟨⟨⟨r, put σ u off sub.length, z1, ⟨x, z2, u, z3, rfl⟩, Wd_put e q.2.2 z4 (by rw [q.2.1]; exact zF) fe.2.1.alike⟩, zF.1, fun b hb hn => zF.2 b hb (fun w => hn (A0_sub e w))⟩, L, fe, fun b hb => A0_sub e (hL b hb)⟩
theorem lift_V {Q : St → Prop} (e : Emb sub big off) (hz : ∀ q ∈ zs, q ∈ zs') (h : CtV l y cw rm D cA sub (fun k => ad (off + k)) zs As (fun o => σ (off + o)) Q) : CtV l y cw rm D cA big ad zs' As σ (fun σ' => ∃ u, Q u ∧ σ' = put σ u off sub.length) := by
  intro sz
  refine MetFree.mono (h sz) (fun a s q => ⟨q.1, q.2.1, Wd_sub e hz q.2.2⟩) (fun _ _ _ _ _ q => q) (fun a s o t q z => ?_)
  obtain ⟨⟨⟨u, z1, z3, z4⟩, zF⟩, L, fe, hL⟩ := z
  exact ⟨⟨⟨put σ u off sub.length, z1, ⟨u, z3, rfl⟩, Wd_put e q.2.2 z4 (by rw [q.2.1]; exact zF) fe.2.1.alike⟩, zF.1, fun b hb hn => zF.2 b hb (fun w => hn (A0_sub e w))⟩, L, fe, fun b hb => A0_sub e (hL b hb)⟩
end LF
