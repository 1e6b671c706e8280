/-! the loop of the law: what its rows stand on -/
theorem RR_c {σ τ σ' τ' : St} {N : Nat} {sz : Nat → Nat} (h : RR σ τ N sz) (hc : ∀ o k, o < 30 → σ' o k = σ o k) (hm0 : ∀ o k, o < 30 → τ' o k = τ o k) : RR σ' τ' N sz := by
  have hm : ∀ o k, o < 30 → True → τ' o k = τ o k := fun o k q _ => hm0 o k q
  have f : ∀ o k, o < 30 → o < 30 → o < 30 → o < 30 → o < 30 → o < 30 → o < 30 → σ' o k = σ o k := fun o k q _ _ _ _ _ _ => hc o k q
  have m : ∀ o k, o ≠ 0 → o < 30 → τ' o k = τ o k := fun o k q1 q2 => hm0 o k q2
  have c7 := hc 0 7 (by decide)
  have c8 := hc 0 8 (by decide)
  have c9 := hc 0 9 (by decide)
  have c11 := hc 1 1 (by decide)
  have c128 := hc 12 8 (by decide)
  have c17 := hc 17 0 (by decide)
  have m2 := hm 0 2 (by decide) trivial
  have m3 := hm 0 3 (by decide) trivial
  have m7 := hm 0 7 (by decide) trivial
  have m10 := hm 0 10 (by decide) trivial
  have m23 := hm 0 23 (by decide) trivial
  have m26 := hm 0 26 (by decide) trivial
  have m35 := hm 0 35 (by decide) trivial
  have m36 := hm 0 36 (by decide) trivial
  have m37 := hm 0 37 (by decide) trivial
  have hnd : ∀ t x w, nd σ' t x w = nd σ t x w := fun t x w => f 11 _ (by omega) (by omega) (by omega) (by omega) (by omega) (by omega) (by omega)
  refine RR.mk' ?_ ?_ ?_ ?_ ?_ ?_ ?_ ?_ ?_ ?_ h.N16 ?_ ?_ (fun t ht => ?_) (fun t ht => ?_) ?_ ?_ ?_ ?_ ?_ ?_ ?_ ?_ ?_ ?_ ?_ ?_ ?_ ?_ ?_ ?_ ?_
  · refine ⟨by rw [c11]; exact h.tp.1, by rw [c11]; exact h.tp.2.1, fun k => by rw [f 2 k (by omega) (by omega) (by omega) (by omega) (by omega) (by omega) (by omega)]; exact h.tp.2.2 k⟩
  · exact ⟨by rw [m2]; exact h.tm.1, by rw [m2]; exact h.tm.2⟩
  · intro k; rw [m 1 k (by omega) (by omega)]; exact h.r1 k
  · rw [c11, m2]; exact h.len
  · intro k hk
    unfold tlen at hk
    rw [c11] at hk
    unfold bM
    rw [f 2 k (by omega) (by omega) (by omega) (by omega) (by omega) (by omega) (by omega), m 1 k (by omega) (by omega)]
    exact h.byt k hk
  · exact NmI_fr h.n4 (fun x k a b => f x k (by omega) (by omega) (by omega) (by omega) (by omega) (by omega) (by omega))
  · exact NmI_fr h.n7 (fun x k a b => f x k (by omega) (by omega) (by omega) (by omega) (by omega) (by omega) (by omega))
  · refine RNs_nw h.rn (fun x k a b => f x k (by omega) (by omega) (by omega) (by omega) (by omega) (by omega) (by omega)) (fun x k q => ?_)
    rcases q with q | ⟨q1, q2 | q2⟩
    · exact m x k (by omega) (by omega)
    · subst q1 q2; exact m7
    · subst q1 q2; exact m10
  · exact Mnm_nw h.mn (fun x k q => m x k (by omega) (by omega))
  · exact DW_fr h.dw (fun x k q => f x k (by omega) (by omega) (by omega) (by omega) (by omega) (by omega) (by omega))
  · rw [f 3 4 (by omega) (by omega) (by omega) (by omega) (by omega) (by omega) (by omega)]; exact h.c34
  · rw [m23]; exact h.c23
  · exact FT_fr (h.ft t ht) (f 10 t (by omega) (by omega) (by omega) (by omega) (by omega) (by omega) (by omega)) (fun x w _ _ => hnd t x w) (by rw [f 7 3 (by omega) (by omega) (by omega) (by omega) (by omega) (by omega) (by omega)]; exact Int.le_refl _) (by rw [f 4 3 (by omega) (by omega) (by omega) (by omega) (by omega) (by omega) (by omega)]; exact Int.le_refl _)
  · exact FR_fr (h.ft t ht).2.2.2.1.1 (RR_sz h t ht) (h.fr t ht) (fun x w _ _ => hnd t x w) (m 17 t (by omega) (by omega)) (fun o x a b _ => m o _ (by omega) (by omega))
  · rw [c128]; exact h.mk
  · exact NmI_fr h.n14 (fun x k a b => f x k (by omega) (by omega) (by omega) (by omega) (by omega) (by omega) (by omega))
  · exact RN_fr h.rs (fun x k a b => f x k (by omega) (by omega) (by omega) (by omega) (by omega) (by omega) (by omega)) m26 (fun k => m 19 k (by omega) (by omega)) (fun k => m 18 k (by omega) (by omega))
  · rw [c7, m3]; exact h.flt
  · rw [c9, m36]; exact h.wys
  · rw [c9]; exact h.wyr
  · rw [c9, m35]; exact h.wsr
  · exact CB_fr h.cb (fun x k a b => f x k (by omega) (by omega) (by omega) (by omega) (by omega) (by omega) (by omega))
  · exact MB_fr h.mb (fun x k a b => m x k (by omega) (by omega))
  · intro d hd; rw [f 18 d (by omega) (by omega) (by omega) (by omega) (by omega) (by omega) (by omega)]; exact h.sdr d hd
  · intro q
    rw [c9] at q
    exact RDY_fr (RR_sz h) (h.rdy q) c17 c8 c9 (fun t x w _ _ _ => hnd t x w) (fun o k a b => f o k (by omega) (by omega) (by omega) (by omega) (by omega) (by omega) (by omega)) m26 m37 (fun o k a b => m o k (by omega) (by omega))
  · rw [hc 23 0 (by decide), hm0 0 42 (by decide)]; exact h.us
  · rw [hc 23 0 (by decide)]; exact h.usr
  · intro k hk; rw [hc 23 0 (by decide)] at hk; rw [hc 24 k (by decide), hm0 23 k (by decide)]; exact h.usc k hk
  · rw [hc 26 0 (by decide), hm0 0 50 (by decide)]; exact h.ws
  · rw [hc 26 0 (by decide)]; exact h.wsr2
  · intro k hk; rw [hc 26 0 (by decide)] at hk; rw [hc 27 k (by decide), hm0 29 k (by decide)]; exact h.wsc k hk
theorem R_cg {σ τ σ' τ' : St} (h : R σ τ) (hc : ∀ o k, o < 30 → σ' o k = σ o k) (hm : ∀ o k, o < 30 → τ' o k = τ o k) : R σ' τ' := by
  obtain ⟨N, sz, h⟩ := h
  exact ⟨N, sz, RR_c h hc hm⟩
/-- the reference's part of the law's world -/
def mM (σ : St) : St := fun o q => if o < 30 then σ (30 + o) q else 0
theorem mM_in {σ : St} {o q : Nat} (h : o < 30) : mM σ o q = σ (30 + o) q := by unfold mM; rw [if_pos h]
theorem mM_cg {σ σ' : St} (h : ∀ o q, 30 ≤ o → o < 60 → σ' o q = σ o q) : mM σ' = mM σ := by
  funext o q
  unfold mM
  by_cases c : o < 30
  · rw [if_pos c, if_pos c, h _ _ (by omega) (by omega)]
  · rw [if_neg c, if_neg c]
theorem putM_in {σ u : St} {o q : Nat} (h : o < 30) : put σ u 30 shM.length (30 + o) q = u o q := by
  unfold put
  rw [if_pos ⟨by omega, show 30 + o < 30 + 30 by omega⟩, show 30 + o - 30 = o by omega]
theorem putM_out {σ u : St} {o q : Nat} (h : ¬ (30 ≤ o ∧ o < 60)) : put σ u 30 shM.length o q = σ o q := by
  unfold put
  rw [if_neg (fun z => h ⟨z.1, z.2⟩)]
theorem putM_self {σ : St} : put σ (mM σ) 30 shM.length = σ := by
  funext o q
  by_cases c : 30 ≤ o ∧ o < 60
  · obtain ⟨d, hd⟩ : ∃ d, o = 30 + d := ⟨o - 30, by omega⟩
    subst hd
    rw [putM_in (by omega), mM_in (by omega)]
  · exact putM_out c
/-- both parts agree again -/
theorem Inv_2 {σ u uM : St} (hC : ∀ o q, o < 30 → σ o q = u o q) (h : R u uM) : R (fun o => put σ uM 30 shM.length (0 + o)) (mM (put σ uM 30 shM.length)) := by
  refine R_cg h (fun o k ho => ?_) (fun o k ho => ?_)
  · show put σ uM 30 shM.length (0 + o) k = _
    rw [Nat.zero_add, putM_out (by omega)]
    exact hC o k ho
  · rw [mM_in ho, putM_in ho]
theorem lCmp_self (x : Int) : w32 (lCmp x x) = 0 := by
  unfold lCmp lg_cmp
  simp
  decide
section CG
variable {l : Launch} {y : MethodName} {cw : Cond} {rm : Room} {D : va_G} {cA : Nat → ClassId} {sh : List Sh} {ad : Nat → Nat} {zs : Zs} {As : List Value} {σ σ' : St}
theorem wl_cg (h : ∀ o q, o < sh.length → σ' o q = σ o q) : wl cA ad σ' 0 sh = wl cA ad σ 0 sh := by
  apply List.ext_getElem?
  intro i
  rw [wl_get, wl_get]
  cases hq : sh[i]? with
  | none => rfl
  | some d =>
    have hi : i < sh.length := (List.getElem?_eq_some_iff.mp hq).1
    have e : σ' (0 + i) = σ (0 + i) := by
      funext q
      exact h _ _ (by omega)
    simp only [Option.map_some]
    rw [e]
theorem Wd_cg {U : State} (h : ∀ o q, o < sh.length → σ' o q = σ o q) (w : Wd D cA sh ad zs σ' U) : Wd D cA sh ad zs σ U := by
  obtain ⟨w1, w2⟩ := w
  exact ⟨by rw [← wl_cg h]; exact w1, w2⟩
theorem CtI_cg {Q : Int → St → Prop} (h : ∀ o q, o < sh.length → σ' o q = σ o q) (hM : CtI l y cw rm D cA sh ad zs As σ Q) : CtI l y cw rm D cA sh ad zs As σ' Q := fun sz => MetFree.mono (hM sz) (fun a s q => ⟨q.1, q.2.1, Wd_cg h q.2.2⟩) (fun _ _ _ _ _ q => q) (fun a s o t q z => z)
theorem CtV_cg {Q : St → Prop} (h : ∀ o q, o < sh.length → σ' o q = σ o q) (hM : CtV l y cw rm D cA sh ad zs As σ Q) : CtV l y cw rm D cA sh ad zs As σ' Q := fun sz => MetFree.mono (hM sz) (fun a s q => ⟨q.1, q.2.1, Wd_cg h q.2.2⟩) (fun _ _ _ _ _ q => q) (fun a s o t q z => z)
end CG
theorem mM_ag (σ : St) : ∀ o q, o < shM.length → (fun o => σ (30 + o)) o q = mM σ o q := fun o q h => (mM_in (show o < 30 from h)).symm
section GL
variable {p : Program} {l : Launch} {e : Env} {R : Room} {s : State} {m : MethodId} {args : Array Value} {below : List Frame} {meth : Method} {c : Code}
variable {cc : ByteArray} {own : String} {nL pc : Nat} {D : va_G} {cA : Nat → ClassId} {sh : List Sh} {ad : Nat → Nat} {zs : Zs} {Q : State → Prop}
variable {nc ns : Nat} {σ : St} {lv lv' : List (Nat × Value)} {st : List Value}
theorem g_sld (C : Cx p s m args c cc own nL D cA sh ad zs) {b L : Nat} {xs : Nat → Int32} (hX : va_X b L xs s s.heap) (hbl : b < s.heap.size) (hbA : ¬ A0 sh ad s.heap.size b) {x : Int} (k : Nat) (hx : w32 x = (k : Int)) (hk : k < L) (hd : decode cc pc = .ok (.iaload, 1)) (kk : G p l e R s m args below meth c nc ns nL D cA sh ad Q σ lv (vI (xs k).toInt :: st) (pc + 1)) : G p l e R s m args below meth c nc ns nL D cA sh ad Q σ lv (vI x :: .ref b :: st) pc :=
  fun H locs ls hP hS hl => va_sld C.1 C.2.1 hX hbl hbA hS (i32_in ⟨by omega, by omega⟩) hd (by
    have h := kk H locs ls hP hS hl
    rw [i32_cl, hx, Int.toNat_natCast]
    unfold vI at h
    rw [Int32.ofInt_toInt] at h
    exact h)
theorem ofNat_vI {L : Nat} (h : L < 2147483648) : (Value.int (Int32.ofNat L)) = vI (L : Int) := by
  have e : Int32.ofNat L = Int32.ofInt (L : Int) := by
    apply Int32.toInt_inj.mp
    rw [w32_toInt, w32_id (by omega) (by omega)]
    exact nI_toInt (by omega)
  rw [e]
theorem g_slen (C : Cx p s m args c cc own nL D cA sh ad zs) {b L : Nat} {xs : Nat → Int32} (hX : va_X b L xs s s.heap) (hbl : b < s.heap.size) (hbA : ¬ A0 sh ad s.heap.size b) (hL : L < 2147483648) (hd : decode cc pc = .ok (.arraylength, 1)) (kk : G p l e R s m args below meth c nc ns nL D cA sh ad Q σ lv (vI (L : Int) :: st) (pc + 1)) : G p l e R s m args below meth c nc ns nL D cA sh ad Q σ lv (.ref b :: st) pc :=
  fun H locs ls hP hS hl => va_slen C.1 C.2.1 hX hbl hbA hS hd (by rw [ofNat_vI hL]; exact kk H locs ls hP hS hl)
theorem g_callIvN (C : Cx p s m args c cc own nL D cA sh ad zs) {y : MethodName} {bytes : ByteArray} {maxL n index o ci N : Nat} {ret : Option FieldType} {rm : Room} {Cn : String} {T : u_T} {fl : List (Nat × Nat)} {As stk : List Value} {Q' : Int → St → Prop} (hM : CtI l y (.code y bytes maxL ret) rm D cA sh ad zs (.ref (ad o) :: As) σ Q') (hw : MV Cn y bytes maxL ret n) (hl : Cond.methodLink own index y ∈ TBL) (hsh : sh[o]? = some (0, ci, fl)) (hc : vwCl[ci]? = some (Cn, T, N)) (hrc : rm.cells = 0) (hrs : rm.slots = 0) (hroom : nc ≤ R.cells ∧ ns ≤ R.slots) (hR : rm.frames + 1 ≤ R.frames ∧ 8 + (maxL + 11) + rm.locals ≤ R.locals) (hn : As.length = n) (hst : stk = As.reverse ++ .ref (ad o) :: st) (hcat : (st.map fun v => v.category).sum ≤ 8) (hd : decode cc pc = .ok (.invokevirtual index, 3)) (kk : ∀ (z : Int) (σ' : St), Q' z σ' → G p l e R s m args below meth c nc ns nL D cA sh ad Q σ' lv (vI z :: st) (pc + 3)) : G p l e R s m args below meth c nc ns nL D cA sh ad Q σ lv stk pc :=
  fun H locs ls hP hS hl0 => have hl := hl0
    va_calli (va_runV (As := As) (rest := st) ⟨C.1, C.2.1, C.2.2.2.1, C.2.2.1, C.2.2.2.2.1⟩ (hM H.size) ⟨cb_of C hw.2 ‹_› hrc hrs hR, C.2.2.2.2.1 _ hw.1.1, C.2.2.2.2.1 _ hw.1.2⟩ ⟨Wd_blind _ _, va_recv C.2.2.2.2.2.1 hP hc (wl_at hsh), fun U hU hW => ⟨rfl, by rw [hU], Wd_of C hP hS hU hW.alike⟩⟩ rfl hn hl.1 hst (by show 2 * 0 + _ ≤ 8; omega) hd hroom) hS (fun q _ h => A0_le hS.1 q h) (A0_le hS.1) (fun r u t H1 locs1 ht hvm hw hB hz1 hk1 hS1 => by
      obtain ⟨z, rfl, hq⟩ := hw
      exact kk z u hq H1 locs1 ls (by have := hB.1; rw [ht] at this; exact this) hS1 hl)
theorem g_callVvN (C : Cx p s m args c cc own nL D cA sh ad zs) {y : MethodName} {bytes : ByteArray} {maxL n index o ci N : Nat} {ret : Option FieldType} {rm : Room} {Cn : String} {T : u_T} {fl : List (Nat × Nat)} {As stk : List Value} {Q' : St → Prop} (hM : CtV l y (.code y bytes maxL ret) rm D cA sh ad zs (.ref (ad o) :: As) σ Q') (hw : MV Cn y bytes maxL ret n) (hl : Cond.methodLink own index y ∈ TBL) (hsh : sh[o]? = some (0, ci, fl)) (hc : vwCl[ci]? = some (Cn, T, N)) (hrc : rm.cells = 0) (hrs : rm.slots = 0) (hroom : nc ≤ R.cells ∧ ns ≤ R.slots) (hR : rm.frames + 1 ≤ R.frames ∧ 8 + (maxL + 11) + rm.locals ≤ R.locals) (hn : As.length = n) (hst : stk = As.reverse ++ .ref (ad o) :: st) (hcat : (st.map fun v => v.category).sum ≤ 8) (hd : decode cc pc = .ok (.invokevirtual index, 3)) (kk : ∀ (σ' : St), Q' σ' → G p l e R s m args below meth c nc ns nL D cA sh ad Q σ' lv st (pc + 3)) : G p l e R s m args below meth c nc ns nL D cA sh ad Q σ lv stk pc :=
  fun H locs ls hP hS hl0 => have hl := hl0
    va_callv (va_runV (As := As) (rest := st) ⟨C.1, C.2.1, C.2.2.2.1, C.2.2.1, C.2.2.2.2.1⟩ (hM H.size) ⟨cb_of C hw.2 ‹_› hrc hrs hR, C.2.2.2.2.1 _ hw.1.1, C.2.2.2.2.1 _ hw.1.2⟩ ⟨Wd_blind _ _, va_recv C.2.2.2.2.2.1 hP hc (wl_at hsh), fun U hU hW => ⟨rfl, by rw [hU], Wd_of C hP hS hU hW.alike⟩⟩ rfl hn hl.1 hst (by show 2 * 0 + _ ≤ 8; omega) hd hroom) hS (fun q _ h => A0_le hS.1 q h) (A0_le hS.1) (fun u t H1 locs1 ht hvm hw hB hz1 hk1 hS1 => kk u hw H1 locs1 ls (by have := hB.1; rw [ht] at this; exact this) hS1 hl)
end GL
