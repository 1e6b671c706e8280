/-! the law's own methods that catch: contracts, calls -/
section LX
variable {l : Launch} {y : MethodName} {cw : Cond} {rm : Room} {D : va_G} {cA : Nat → ClassId} {sub big : List Sh} {off : Nat} {ad : Nat → Nat} {zs zs' : Zs} {As : List Value} {σ : St} {ks : List Nat}
theorem XQ_big {Q : Nat → Int → St → Prop} {E : String} {s t : State} (e : Emb sub big off) (h : Wd D cA big ad zs' σ s) (hA : s.vm.Alike t.vm) (z : XQ D cA sub (fun k => ad (off + k)) zs s.heap.size ks Q E s t) : XQ D cA big ad zs' s.heap.size ks (fun k z σ' => ∃ u, Q k z u ∧ σ' = put σ u off sub.length) E s t := by
  obtain ⟨u, _, ⟨⟨k, z1, z2, z3⟩, z4⟩, zF⟩ := z
  exact ⟨put σ u off sub.length, trivial, ⟨⟨k, z1, z2, u, z3, rfl⟩, Wd_put e h z4 zF hA⟩, zF.1, fun b hb hn => zF.2 b hb (fun w => hn (A0_sub e w))⟩
theorem lift_X {Q : Nat → Int → St → Prop} (e : Emb sub big off) (hz : ∀ q ∈ zs, q ∈ zs') (h : CtX l y cw rm D cA sub (fun k => ad (off + k)) zs As (fun o => σ (off + o)) ks Q) : CtX l y cw rm D cA big ad zs' As σ ks (fun k z σ' => ∃ u, Q k z u ∧ σ' = put σ u off sub.length) := by
  intro sz
  refine MetFree.mono (h sz) (fun a s q => ⟨q.1, q.2.1, Wd_sub e hz q.2.2.1, Th.narrow q.2.2.2 (fun _ => A0_sub e)⟩) (fun _ _ _ _ _ q => q) (fun a s o t q z => ?_)
  obtain ⟨q0, q1, q2, q3⟩ := q
  subst q1
  rcases z with ⟨⟨⟨r, u, z1, ⟨x, z2, z3⟩, z4⟩, zF⟩, L, fe, hL⟩ | ⟨q9, z1, E, ce, L, hx, hce, hcv, hcl, hW, hsm, hL⟩
  · exact Or.inl ⟨⟨⟨r, put σ u off sub.length, z1, ⟨x, z2, u, z3, rfl⟩, Wd_put e q2 z4 zF fe.2.1.alike⟩, zF.1, fun b hb hn => zF.2 b hb (fun w => hn (A0_sub e w))⟩, L, fe, fun b hb => A0_sub e (hL b hb)⟩
  · exact Or.inr ⟨q9, z1, E, ce, L, XQ_big e q2 hW.alike hx, hce, hcv, hcl, hW, hsm, fun b hb => A0_sub e (hL b hb)⟩
theorem lift_Y {Q : Nat → Int → St → Prop} (e : Emb sub big off) (hz : ∀ q ∈ zs, q ∈ zs') (h : CtY l y cw rm D cA sub (fun k => ad (off + k)) zs As (fun o => σ (off + o)) ks Q) : CtY l y cw rm D cA big ad zs' As σ ks (fun k z σ' => ∃ u, Q k z u ∧ σ' = put σ u off sub.length) := by
  intro sz
  refine MetFree.mono (h sz) (fun a s q => ⟨q.1, q.2.1, Wd_sub e hz q.2.2.1, Th.narrow q.2.2.2 (fun _ => A0_sub e)⟩) (fun _ _ _ _ _ q => q) (fun a s o t q z => ?_)
  obtain ⟨q0, q1, q2, q3⟩ := q
  subst q1
  rcases z with ⟨⟨⟨u, z1, z3, z4⟩, zF⟩, L, fe, hL⟩ | ⟨q9, z1, E, ce, L, hx, hce, hcv, hcl, hW, hsm, hL⟩
  · exact Or.inl ⟨⟨⟨put σ u off sub.length, z1, ⟨u, z3, rfl⟩, Wd_put e q2 z4 zF fe.2.1.alike⟩, zF.1, fun b hb hn => zF.2 b hb (fun w => hn (A0_sub e w))⟩, L, fe, fun b hb => A0_sub e (hL b hb)⟩
  · exact Or.inr ⟨q9, z1, E, ce, L, XQ_big e q2 hW.alike hx, hce, hcv, hcl, hW, hsm, fun b hb => A0_sub e (hL b hb)⟩
end LX
/-- which classes are no cousins -/
def Nk (U : State) : Prop := va_Nc (XE 4) (XE 3) U ∧ va_Nc (XE 2) (XE 4) U
theorem Nk.moved {s U : State} (h : s.vm.Alike U.vm) (n : Nk s) : Nk U := ⟨va_Nc.moved h n.1, va_Nc.moved h n.2⟩
/-- one of this method's own rows catches -/
def CatchAt (s : State) (c : Code) (own : String) (pc k hp : Nat) : Prop := ∃ (pre : List ExceptionTableEntry) (x : ExceptionTableEntry) (suf : List ExceptionTableEntry), c.exceptionTable.toList = pre ++ x :: suf ∧ (∀ z ∈ pre, covers z pc = false ∨ (z.catchType ≠ 0 ∧ ∃ nm : String, Cond.classLink own z.catchType nm ∈ TBL ∧ va_Nc (XE k) nm s)) ∧ covers x pc = true ∧ x.catchType ≠ 0 ∧ Cond.classLink own x.catchType (XE k) ∈ TBL ∧ x.handlerPc = hp
section GH
variable {p : Program} {l : Launch} {e : Env} {R : Room} {s : State} {m : MethodId} {args : Array Value} {below : List Frame} {meth : Method} {c : Code}
variable {cc : ByteArray} {own : String} {nL pc : Nat} {D : va_G} {cA : Nat → ClassId} {sh : List Sh} {ad : Nat → Nat} {zs : Zs} {Q : State → Prop}
variable {σ : St} {lv : List (Nat × Value)} {st : List Value} {ks : List Nat}
def CtH (l : Launch) (y : MethodName) (cw : Cond) (rm : Room) (D : va_G) (cA : Nat → ClassId) (sh : List Sh) (ad : Nat → Nat) (zs : Zs) (As : List Value) (σ : St) (Q : Int → St → Prop) : Prop := ∀ sz : Nat, Met l y (cw :: TBL) rm (va_Pc As (fun U => U.heap.size = sz ∧ Wd D cA sh ad zs σ U ∧ Th (A0 sh ad U.heap.size) U U.heap ∧ Nk U)) (va_Qi (fun r u => ∃ z : Int, r = Int32.ofInt z ∧ Q z u) (fun u t => Wd D cA sh ad zs u t) (A0 sh ad sz)) 1 6 (A0 sh ad sz)
def QH (D : va_G) (cA : Nat → ClassId) (sh : List Sh) (ad : Nat → Nat) (zs : Zs) (below : List Frame) (args : Array Value) (s : State) (Q : Int → St → Prop) : State → Prop := vx_MQ below (va_Qi (fun r u => ∃ z : Int, r = Int32.ofInt z ∧ Q z u) (fun u t => Wd D cA sh ad zs u t) (A0 sh ad s.heap.size)) (fun _ _ _ => False) args s 1 6 (A0 sh ad s.heap.size)
theorem WdT_blind (As : List Value) (sz : Nat) : FrameBlind (va_Pc As (fun U => U.heap.size = sz ∧ Wd D cA sh ad zs σ U ∧ Th (A0 sh ad U.heap.size) U U.heap)) := fun a U g mk q => by
  obtain ⟨q0, q1, ⟨qP, qK, qD, qS⟩, qT⟩ := q
  exact ⟨q0, q1, ⟨qP, va_K.moved (u := U) (U := U.calling g mk a) (Vm.Alike.refl U.vm) qK, qD, Sx.moved (u := U) (U := U.calling g mk a) (Vm.Alike.refl U.vm) qS⟩, Th.warm (s := U) (U := U.calling g mk a) (State.WarmedH.refl U) qT⟩
theorem WdH_blind (As : List Value) (sz : Nat) : FrameBlind (va_Pc As (fun U => U.heap.size = sz ∧ Wd D cA sh ad zs σ U ∧ Th (A0 sh ad U.heap.size) U U.heap ∧ Nk U)) := fun a U g mk q => by
  obtain ⟨q0, q1, ⟨qP, qK, qD, qS⟩, qT, qN⟩ := q
  exact ⟨q0, q1, ⟨qP, va_K.moved (u := U) (U := U.calling g mk a) (Vm.Alike.refl U.vm) qK, qD, Sx.moved (u := U) (U := U.calling g mk a) (Vm.Alike.refl U.vm) qS⟩, Th.warm (s := U) (U := U.calling g mk a) (State.WarmedH.refl U) qT, Nk.moved (s := U) (U := U.calling g mk a) (Vm.Alike.refl U.vm) qN⟩
theorem Th_on {H : Heap} {locs : List Loc} {U : State} (TH : Th (A0 sh ad s.heap.size) s s.heap) (hS : va_S (A0 sh ad s.heap.size) s.heap H locs) (hU : U.heap = H) (hW : s.WarmedH U.vm) : Th (A0 sh ad U.heap.size) U U.heap := by
  rw [hU]
  exact Th.warm hW (Th.narrow (Th.kept TH hS.2.1) (A0_le hS.1))
theorem g_callX (C : Cx p s m args c cc own nL D cA sh ad zs) (TH : Th (A0 sh ad s.heap.size) s s.heap) {y : MethodName} {bytes : ByteArray} {maxL n index o ci N : Nat} {ret : Option FieldType} {rm : Room} {Cn : String} {T : u_T} {fl : List (Nat × Nat)} {As stk : List Value} {Q' : Nat → Int → St → Prop} (hM : CtX l y (.code y bytes maxL ret) rm D cA sh ad zs (.ref (ad o) :: As) σ ks Q') (hw : MV Cn y bytes maxL ret n) (hl : Cond.methodLink own index y ∈ TBL) (hsh : sh[o]? = some (0, ci, fl)) (hc : vwCl[ci]? = some (Cn, T, N)) (hrc : rm.cells = 1) (hrs : rm.slots = 6) (hR : rm.frames + 1 ≤ R.frames ∧ 8 + (maxL + 11) + rm.locals ≤ R.locals) (hroom : 1 ≤ R.cells ∧ 6 ≤ R.slots) (hn : As.length = n) (hst : stk = As.reverse ++ .ref (ad o) :: st) (hcat : (st.map fun v => v.category).sum ≤ 8) (hd : decode cc pc = .ok (.invokevirtual index, 3)) (hp : Nat → Nat) (hca : ∀ k ∈ ks, CatchAt s c own pc k (hp k))
    (kx : ∀ k ∈ ks, ∀ σ' : St, Q' k 0 σ' → ∀ q9 : Nat, G p l e R s m args below meth c 1 6 nL D cA sh ad Q σ' lv [.ref q9] (hp k)) (kk : ∀ (z : Int) (σ' : St), Q' 0 z σ' → G p l e R s m args below meth c 1 6 nL D cA sh ad Q σ' lv (vI z :: st) (pc + 3)) : G p l e R s m args below meth c 0 0 nL D cA sh ad Q σ lv stk pc :=
  fun H locs ls hP hS hl0 =>
    vx_calli (vx_runV (As := As) (rest := st) ⟨C.1, C.2.1, C.2.2.2.1, C.2.2.1, C.2.2.2.2.1⟩ (hM H.size) ⟨callB_of n C.2.2.2.2.1 (gi_tbl (fun _ h => h) (fun w hm => (List.mem_cons.mp hm).elim (fun q => by rw [q]; exact hw.2.2.1) id)) rfl hrc hrs (C.2.2.2.2.1 _ hw.2.1) (C.2.2.2.2.1 _ hl) hw.2.2.2 hR, C.2.2.2.2.1 _ hw.1.1, C.2.2.2.2.1 _ hw.1.2⟩ ⟨WdT_blind _ _, va_recv C.2.2.2.2.2.1 hP hc (wl_at hsh), fun U hU hW => ⟨rfl, by rw [hU], Wd_of C hP hS hU hW.alike, Th_on TH hS hU hW⟩⟩ rfl hn hl0.1 hst (by show 2 * 0 + _ ≤ 8; omega) hd (by have := hroom; omega)) hS (fun q _ h => A0_le hS.1 q h) (A0_le hS.1) (fun q _ h => A0_le hS.1 q h)
      (fun E ce q9 u t H1 locs1 ht hvm _ hB hz1 hk1 hS1 hce hcv hcl => by
        obtain ⟨⟨k, z1, z2, z3⟩, hB1⟩ := hB
        obtain ⟨pre, x, suf, b1, b2, b3, b4, b5, b6⟩ := hca k z1
        subst z2
        refine vx_catch (own := own) (name := XE k) (E := XE k) C.2.2.1 pre x suf b1 (fun z hz => ?_) b3 b4 (C.2.2.2.2.1 _ b5) (va_Nw.use (A := args) rfl (TH.2.2.1 k)) hce hcv hcl ?_
        · rcases b2 z hz with w | ⟨w1, nm, w2, w3⟩
          · exact Or.inl w
          · exact Or.inr ⟨w1, nm, C.2.2.2.2.1 _ w2, w3⟩
        · rw [b6]
          exact kx k z1 u z3 q9 H1 locs1 ls (by have := hB1.1; rw [ht] at this; exact this) hS1 hl0)
      (fun r u t H1 locs1 ht hvm hw hB hz1 hk1 hS1 => by
        obtain ⟨z, rfl, hq⟩ := hw
        exact kk z u hq H1 locs1 ls (by have := hB.1; rw [ht] at this; exact this) hS1 hl0)
theorem g_callY (C : Cx p s m args c cc own nL D cA sh ad zs) (TH : Th (A0 sh ad s.heap.size) s s.heap) {y : MethodName} {bytes : ByteArray} {maxL n index o ci N : Nat} {ret : Option FieldType} {rm : Room} {Cn : String} {T : u_T} {fl : List (Nat × Nat)} {As stk : List Value} {Q' : Nat → Int → St → Prop} (hM : CtY l y (.code y bytes maxL ret) rm D cA sh ad zs (.ref (ad o) :: As) σ ks Q') (hw : MV Cn y bytes maxL ret n) (hl : Cond.methodLink own index y ∈ TBL) (hsh : sh[o]? = some (0, ci, fl)) (hc : vwCl[ci]? = some (Cn, T, N)) (hrc : rm.cells = 1) (hrs : rm.slots = 6) (hR : rm.frames + 1 ≤ R.frames ∧ 8 + (maxL + 11) + rm.locals ≤ R.locals) (hroom : 1 ≤ R.cells ∧ 6 ≤ R.slots) (hn : As.length = n) (hst : stk = As.reverse ++ .ref (ad o) :: st) (hcat : (st.map fun v => v.category).sum ≤ 8) (hd : decode cc pc = .ok (.invokevirtual index, 3)) (hp : Nat → Nat) (hca : ∀ k ∈ ks, CatchAt s c own pc k (hp k))
    (kx : ∀ k ∈ ks, ∀ σ' : St, Q' k 0 σ' → ∀ q9 : Nat, G p l e R s m args below meth c 1 6 nL D cA sh ad Q σ' lv [.ref q9] (hp k)) (kk : ∀ (σ' : St), Q' 0 0 σ' → G p l e R s m args below meth c 1 6 nL D cA sh ad Q σ' lv st (pc + 3)) : G p l e R s m args below meth c 0 0 nL D cA sh ad Q σ lv stk pc :=
  fun H locs ls hP hS hl0 =>
    vx_callv (vx_runV (As := As) (rest := st) ⟨C.1, C.2.1, C.2.2.2.1, C.2.2.1, C.2.2.2.2.1⟩ (hM H.size) ⟨callB_of n C.2.2.2.2.1 (gi_tbl (fun _ h => h) (fun w hm => (List.mem_cons.mp hm).elim (fun q => by rw [q]; exact hw.2.2.1) id)) rfl hrc hrs (C.2.2.2.2.1 _ hw.2.1) (C.2.2.2.2.1 _ hl) hw.2.2.2 hR, C.2.2.2.2.1 _ hw.1.1, C.2.2.2.2.1 _ hw.1.2⟩ ⟨WdT_blind _ _, va_recv C.2.2.2.2.2.1 hP hc (wl_at hsh), fun U hU hW => ⟨rfl, by rw [hU], Wd_of C hP hS hU hW.alike, Th_on TH hS hU hW⟩⟩ rfl hn hl0.1 hst (by show 2 * 0 + _ ≤ 8; omega) hd (by have := hroom; omega)) hS (fun q _ h => A0_le hS.1 q h) (A0_le hS.1) (fun q _ h => A0_le hS.1 q h)
      (fun E ce q9 u t H1 locs1 ht hvm _ hB hz1 hk1 hS1 hce hcv hcl => by
        obtain ⟨⟨k, z1, z2, z3⟩, hB1⟩ := hB
        obtain ⟨pre, x, suf, b1, b2, b3, b4, b5, b6⟩ := hca k z1
        subst z2
        refine vx_catch (own := own) (name := XE k) (E := XE k) C.2.2.1 pre x suf b1 (fun z hz => ?_) b3 b4 (C.2.2.2.2.1 _ b5) (va_Nw.use (A := args) rfl (TH.2.2.1 k)) hce hcv hcl ?_
        · rcases b2 z hz with w | ⟨w1, nm, w2, w3⟩
          · exact Or.inl w
          · exact Or.inr ⟨w1, nm, C.2.2.2.2.1 _ w2, w3⟩
        · rw [b6]
          exact kx k z1 u z3 q9 H1 locs1 ls (by have := hB1.1; rw [ht] at this; exact this) hS1 hl0)
      (fun u t H1 locs1 ht hvm hw hB hz1 hk1 hS1 => kk u hw H1 locs1 ls (by have := hB.1; rw [ht] at this; exact this) hS1 hl0)
theorem g_iretH (C : Cx p s m args c cc own nL D cA sh ad zs) (hlocks : meth.locks = false) (hr : meth.sig.returnType = some .int) {Qr : Int → St → Prop} {z : Int} (h : Qr z σ) (hd : decode cc pc = .ok (.ireturn, 1)) : G p l e R s m args below meth c 1 6 nL D cA sh ad (QH D cA sh ad zs below args s Qr) σ lv [vI z] pc :=
  fun H locs ls hP hS hl => vx_ret (W.iret (v := Int32.ofInt z) C.1 C.2.1 hr (fun t ht hW => ⟨⟨Int32.ofInt z, σ, rfl, ⟨z, rfl, h⟩, Wd_of C hP hS ht hW.alike⟩, hS.F ht⟩) hS.2.2 hd hlocks)
theorem ct_H {y : MethodName} {bytes : ByteArray} {maxL : Nat} {ret : Option FieldType} {hh : List (Nat × Nat × Nat × Nat)} {rm : Room} {As : List Value} {Qr : Int → St → Prop} (own : String) (hy : plainName y.cls = true) (hown : y.cls = own) (hlen : (lg_sl As).length ≤ maxL)
    (body : ∀ (p : Program) (e : Env) (s : State) (m : MethodId) (args : Array Value) (below : List Frame) (meth : Method) (c : Code), Cx p s m args c bytes own maxL D cA sh ad zs → Th (A0 sh ad s.heap.size) s s.heap → Nk s → c.exceptionTable.toList = tableOf hh → meth.locks = false → meth.sig.returnType = ret → G p l e rm s m args below meth c 0 0 maxL D cA sh ad (QH D cA sh ad zs below args s Qr) σ (lv_args 0 As) [] 0) : CtH l y (.codeWith y bytes maxL ret hh) rm D cA sh ad zs As σ Qr := by
  intro sz
  have key : vx_Met l y (.codeWith y bytes maxL ret hh :: TBL) rm (va_Pc As (fun U => U.heap.size = sz ∧ Wd D cA sh ad zs σ U ∧ Th (A0 sh ad U.heap.size) U U.heap ∧ Nk U)) (va_Qi (fun r u => ∃ z : Int, r = Int32.ofInt z ∧ Qr z u) (fun u t => Wd D cA sh ad zs u t) (A0 sh ad sz)) (fun _ _ _ => False) 1 6 (A0 sh ad sz) := by
    refine vx_ofWH (cc := bytes) (maxL := maxL) (ret := ret) (hh := hh) hy rfl ?_
    intro p e s m args below meth c s₁ B hml hv
    obtain ⟨rfl, rfl, ⟨hP, hK, hAp, hx⟩, hT, hN⟩ := hv
    have hts := atoms_spec (ws := .codeWith y bytes maxL ret hh :: TBL) B.pre
    have hf : s.vm.findClass own = some m.cls := by rw [← hown]; exact findClass_of_methodNamed B.named
    have C : Cx p s m As.toArray c bytes own maxL D cA sh ad zs := ⟨B.exec, B.bytes, hf, hml, fun w h => hts w (List.mem_cons_of_mem _ h), hK, hAp, hx⟩
    have ht : c.exceptionTable.toList = tableOf hh := vx_table (x := y) B (hts _ List.mem_cons_self)
    rw [lg_entry_eq]
    exact body p e s m _ below meth c C hT hN ht B.notSynchronized B.returns s.heap [] _ hP va_S.rf (lv_entry As hlen)
  refine MetFree.mono key (fun _ _ q => q) (fun _ _ _ _ _ q => q) (fun a s o t q z => ?_)
  rcases z with z | ⟨q9, z1, E, ce, L, hx, _⟩
  · exact z
  · exact hx.elim
/-- the words of a static method with a table -/
def MT (y : MethodName) (bytes : ByteArray) (maxL : Nat) (ret : Option FieldType) (hh : List (Nat × Nat × Nat × Nat)) (n : Nat) : Prop := Cond.static y ∈ TBL ∧ Cond.initialized y.cls ∈ TBL ∧ Cond.codeWith y bytes maxL ret hh ∈ TBL ∧ y.cls ≠ "java/lang/invoke/MethodHandle" ∧ y.cls ≠ "java/lang/invoke/VarHandle" ∧ (parseMethodDescriptor y.desc).map (fun d => d.parameters.length) = some n
variable {nc ns : Nat}
theorem g_callH (C : Cx p s m args c cc own nL D cA sh ad zs) (TH : Th (A0 sh ad s.heap.size) s s.heap) (NK : Nk s) {y : MethodName} {bytes : ByteArray} {maxL n index : Nat} {ret : Option FieldType} {hh : List (Nat × Nat × Nat × Nat)} {rm : Room} {As stk : List Value} {Q' : Int → St → Prop} (hM : CtH l y (.codeWith y bytes maxL ret hh) rm D cA sh ad zs As σ Q') (hw : MT y bytes maxL ret hh n) (hl : Cond.methodLink own index y ∈ TBL) (hrc : rm.cells = 1) (hrs : rm.slots = 6) (hR : rm.frames + 1 ≤ R.frames ∧ 8 + (maxL + 11) + rm.locals ≤ R.locals) (hroom : nc + 1 ≤ R.cells ∧ ns + 6 ≤ R.slots) (hn : As.length = n) (hst : stk = As.reverse ++ st) (hcat : (st.map fun v => v.category).sum ≤ 8) (hd : decode cc pc = .ok (.invokestatic index, 3)) (kk : ∀ (z : Int) (σ' : St), Q' z σ' → G p l e R s m args below meth c (nc + 1) (ns + 6) nL D cA sh ad Q σ' lv (vI z :: st) (pc + 3)) : G p l e R s m args below meth c nc ns nL D cA sh ad Q σ lv stk pc :=
  fun H locs ls hP hS hl0 =>
    va_calli (vx_runSW (hh := hh) (As := As) (rest := st) ⟨C.1, C.2.1, C.2.2.2.1, C.2.2.1, C.2.2.2.2.1⟩ (hM H.size) ⟨⟨hrc, hrs, hR.1, hR.2, pay_in C.2.2.2.2.1 (gi_tbl (fun _ h => h) (fun w hm => (List.mem_cons.mp hm).elim (fun q => by rw [q]; exact hw.2.2.1) id)), List.mem_cons_self⟩, C.2.2.2.2.1 _ hw.2.2.1, C.2.2.2.2.1 _ hw.2.1, ⟨hw.2.2.2.1, hw.2.2.2.2.1⟩, fun sig h => by
        have h2 := hw.2.2.2.2.2
        rw [h] at h2
        exact (Option.some.inj h2).symm, C.2.2.2.2.1 _ hl, C.2.2.2.2.1 _ hw.1⟩ ⟨WdH_blind _ _, fun U hU hW => ⟨rfl, by rw [hU], Wd_of C hP hS hU hW.alike, Th_on TH hS hU hW, Nk.moved hW.alike NK⟩⟩ rfl hn hl0.1 hst (by show 2 * 0 + _ ≤ 8; omega) hd hroom) hS (fun q _ h => A0_le hS.1 q h) (A0_le hS.1) (fun r u t H1 locs1 ht hvm hw hB hz1 hk1 hS1 => by
      obtain ⟨z, rfl, hq⟩ := hw
      exact kk z u hq H1 locs1 ls (by have := hB.1; rw [ht] at this; exact this) hS1 hl0)
end GH
