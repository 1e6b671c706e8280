/-! constructors: rows over a list of cells -/
section KK
variable {p : Program} {l : Launch} {e : Env} {R : Room} {s : State} {m : MethodId} {args : Array Value} {below : List Frame} {meth : Method} {c : Code}
variable {cc : ByteArray} {own : String} {nL pc : Nat} {D : va_G} {cA : Nat → ClassId} {A : Nat → Prop} {Q : State → Prop}
def CK (p : Program) (s : State) (m : MethodId) (args : Array Value) (c : Code) (cc : ByteArray) (own : String) (nL : Nat) (D : va_G) (cA : Nat → ClassId) (A : Nat → Prop) : Prop :=
  p.tables.exec = Jvm.exec ∧ c.code = cc ∧ s.vm.findClass own = some m.cls ∧ c.maxLocals = nL ∧ (∀ w ∈ TBL, w.before args s = true) ∧ va_K D vwCl (tyz cA) s ∧ ∀ q : Nat, s.heap.size ≤ q → A q
def KW (p : Program) (l : Launch) (e : Env) (R : Room) (s : State) (m : MethodId) (args : Array Value) (below : List Frame) (meth : Method) (c : Code) (nc ns : Nat) (nL : Nat) (D : va_G) (A : Nat → Prop) (Q : State → Prop) (ws : va_W) (lv : List (Nat × Value)) (st : List Value) (pc : Nat) : Prop :=
  ∀ (H : Heap) (locs : List Loc) (ls : Array Slot), va_P D vwCl ws H → va_D A ws → va_S A s.heap H locs → lv_has ls nL lv → W p l e R s m args below meth c H locs nc ns Q (F0 m pc ls st)
variable {nc ns : Nat} {ws : va_W} {lv lv' : List (Nat × Value)} {st : List Value}
theorem k_pick (ks : List Nat) (h : lv_pick lv ks = lv') (kk : KW p l e R s m args below meth c nc ns nL D A Q ws lv' st pc) : KW p l e R s m args below meth c nc ns nL D A Q ws lv st pc :=
  fun H locs ls hP hD hS hl => kk H locs ls hP hD hS (lv_sub hl ks h)
theorem k_iconst (C : CK p s m args c cc own nL D cA A) {n : Int} (hd : decode cc pc = .ok (.iconst n, 1)) (kk : KW p l e R s m args below meth c nc ns nL D A Q ws lv (vI n :: st) (pc + 1)) : KW p l e R s m args below meth c nc ns nL D A Q ws lv st pc :=
  fun H locs ls hP hD hS hl => lv_iconst C.1 C.2.1 hd rfl (kk H locs ls hP hD hS hl)
theorem k_bipush (C : CK p s m args c cc own nL D cA A) {n : Int} (hd : decode cc pc = .ok (.bipush n, 2)) (hv : (Int8.ofInt n).toInt32 = Int32.ofInt n) (kk : KW p l e R s m args below meth c nc ns nL D A Q ws lv (vI n :: st) (pc + 2)) : KW p l e R s m args below meth c nc ns nL D A Q ws lv st pc :=
  fun H locs ls hP hD hS hl => lv_bipush C.1 C.2.1 hd hv (kk H locs ls hP hD hS hl)
theorem k_sipush (C : CK p s m args c cc own nL D cA A) {n : Int} (hd : decode cc pc = .ok (.sipush n, 3)) (hv : (Int16.ofInt n).toInt32 = Int32.ofInt n) (kk : KW p l e R s m args below meth c nc ns nL D A Q ws lv (vI n :: st) (pc + 3)) : KW p l e R s m args below meth c nc ns nL D A Q ws lv st pc :=
  fun H locs ls hP hD hS hl => lv_sipush C.1 C.2.1 hd hv (kk H locs ls hP hD hS hl)
theorem k_ldc (C : CK p s m args c cc own nL D cA A) {index : Nat} {n : Int} (hw : Cond.constant own index (Int32.ofInt n) ∈ TBL) (hd : decode cc pc = .ok (.ldc index, 2)) (kk : KW p l e R s m args below meth c nc ns nL D A Q ws lv (vI n :: st) (pc + 2)) : KW p l e R s m args below meth c nc ns nL D A Q ws lv st pc :=
  fun H locs ls hP hD hS hl => W.ldc C.1 C.2.1 C.2.2.1 (C.2.2.2.2.1 _ hw) rfl hd (kk H locs ls hP hD hS hl)
theorem k_ldc2 (C : CK p s m args c cc own nL D cA A) {index : Nat} {n : Int} (hw : Cond.constantLong own index (Int64.ofInt n) ∈ TBL) (hd : decode cc pc = .ok (.ldc2_w index, 3)) (kk : KW p l e R s m args below meth c nc ns nL D A Q ws lv (vL n :: st) (pc + 3)) : KW p l e R s m args below meth c nc ns nL D A Q ws lv st pc :=
  fun H locs ls hP hD hS hl => W.ldc2 C.1 C.2.1 C.2.2.1 (C.2.2.2.2.1 _ hw) rfl hd (kk H locs ls hP hD hS hl)
theorem k_iload_n (C : CK p s m args c cc own nL D cA A) {k : Fin 4} {x : Int} (q i : Nat) (hk : lv[q]? = some (i, vI x)) (hi : (k : Nat) = i) (hd : decode cc pc = .ok (.iload_n k, 1)) (kk : KW p l e R s m args below meth c nc ns nL D A Q ws lv (vI x :: st) (pc + 1)) : KW p l e R s m args below meth c nc ns nL D A Q ws lv st pc :=
  fun H locs ls hP hD hS hl => lv_iload_n C.1 C.2.1 hd hi (lv_at hl q hk) (kk H locs ls hP hD hS hl)
theorem k_aload_n (C : CK p s m args c cc own nL D cA A) {k : Fin 4} {x : Nat} (q i : Nat) (hk : lv[q]? = some (i, .ref x)) (hi : (k : Nat) = i) (hd : decode cc pc = .ok (.aload_n k, 1)) (kk : KW p l e R s m args below meth c nc ns nL D A Q ws lv (.ref x :: st) (pc + 1)) : KW p l e R s m args below meth c nc ns nL D A Q ws lv st pc :=
  fun H locs ls hP hD hS hl => lv_aload_n C.1 C.2.1 hd hi (lv_at hl q hk) (kk H locs ls hP hD hS hl)
theorem k_astore_n (C : CK p s m args c cc own nL D cA A) {k : Fin 4} {x : Nat} (i : Nat) (f : List (Nat × Value)) (hi : (k : Nat) = i) (hn : i < nL) (hf : lv.filter (fun q => !(q.1 == i) && !(q.1 + 1 == i && q.2.category == 2)) = f) (hd : decode cc pc = .ok (.astore_n k, 1)) (kk : KW p l e R s m args below meth c nc ns nL D A Q ws ((i, Value.ref x) :: f) st (pc + 1)) : KW p l e R s m args below meth c nc ns nL D A Q ws lv (.ref x :: st) pc :=
  fun H locs ls hP hD hS hl => lv_astore_n C.1 C.2.1 hd hi hl hn (by rw [hf]) (fun ls hl => kk H locs ls hP hD hS hl)
theorem k_istore (C : CK p s m args c cc own nL D cA A) {x : Int} (i : Nat) (f : List (Nat × Value)) (hn : i < nL) (hf : lv.filter (fun q => !(q.1 == i) && !(q.1 + 1 == i && q.2.category == 2)) = f) (hd : decode cc pc = .ok (.istore i, 2)) (kk : KW p l e R s m args below meth c nc ns nL D A Q ws ((i, vI x) :: f) st (pc + 2)) : KW p l e R s m args below meth c nc ns nL D A Q ws lv (vI x :: st) pc :=
  fun H locs ls hP hD hS hl => lv_istore C.1 C.2.1 hd hl hn (by rw [hf]) (fun ls hl => kk H locs ls hP hD hS hl)
theorem k_dup (C : CK p s m args c cc own nL D cA A) {v : Value} (hv : v.category = 1) (hd : decode cc pc = .ok (.dup, 1)) (kk : KW p l e R s m args below meth c nc ns nL D A Q ws lv (v :: v :: st) (pc + 1)) : KW p l e R s m args below meth c nc ns nL D A Q ws lv (v :: st) pc :=
  fun H locs ls hP hD hS hl => lv_dup C.1 C.2.1 hd hv (kk H locs ls hP hD hS hl)
theorem k_imul (C : CK p s m args c cc own nL D cA A) {x y z : Int} (hz : x * y = z) (hd : decode cc pc = .ok (.imul, 1)) (kk : KW p l e R s m args below meth c nc ns nL D A Q ws lv (vI z :: st) (pc + 1)) : KW p l e R s m args below meth c nc ns nL D A Q ws lv (vI y :: vI x :: st) pc :=
  fun H locs ls hP hD hS hl => lv_imul C.1 C.2.1 hd (by rw [← Int32.ofInt_mul, hz]; exact kk H locs ls hP hD hS hl)
theorem k_obj (C : CK p s m args c cc own nL D cA A) {a idx : Nat} (h1 : Cond.methodLink own idx Lib.objectInit ∈ TBL) (h2 : Cond.instanceMethod Lib.objectInit ∈ TBL) (h3 : Cond.code Lib.objectInit ⟨#[0xb1]⟩ 1 none ∈ TBL) (hR : 1 ≤ R.frames ∧ (st.map fun v => v.category).sum + 12 ≤ R.locals) (hd : decode cc pc = .ok (.invokespecial idx, 3)) (kk : KW p l e R s m args below meth c nc ns nL D A Q ws lv st (pc + 3)) : KW p l e R s m args below meth c nc ns nL D A Q ws lv (.ref a :: st) pc :=
  fun H locs ls hP hD hS hl => W.objInit C.1 C.2.1 C.2.2.1 (C.2.2.2.2.1 _ h1) (C.2.2.2.2.1 _ h2) (C.2.2.2.2.1 _ h3) rfl (by rw [C.2.2.2.1]; exact hl.1) rfl hd hR.1 (by show 2 * 0 + _ + 12 ≤ _; have := hR.2; omega) (W.eq (g2 := F0 m (pc + 3) ls st) rfl (kk H locs ls hP hD hS hl))
theorem k_new (C : CK p s m args c cc own nL D cA A) {Cn : String} {T : u_T} {N ci index : Nat} (hin : ∀ w ∈ u_ws Cn T N, w ∈ TBL) (ty : Nat → FieldType) (hty : ∀ k, k < N → parseFieldDescriptor (T k).2.2.1 = some (ty k)) (hcl : Cond.classLink own index Cn ∈ TBL) (hinst : Cond.instantiable Cn N ∈ TBL) (hini : Cond.initialized Cn ∈ TBL) (hc : vwCl[ci]? = some (Cn, T, N)) {fs : List Value} (hfs : ∀ j, j < N → defaultValue (ty j) = vp_V fs j) (hroom : nc + 1 ≤ R.cells ∧ ns + N ≤ R.slots) (hd : decode cc pc = .ok (.new index, 3)) (kk : ∀ q : Nat, KW p l e R s m args below meth c (nc + 1) (ns + N) nL D A Q (ws ++ [(q, .inr (ci, fs))]) lv (.ref q :: st) (pc + 3)) : KW p l e R s m args below meth c nc ns nL D A Q ws lv st pc :=
  fun H locs ls hP hD hS hl => va_new C.1 C.2.1 C.2.2.2.2.1 hin ty hty C.2.2.1 (C.2.2.2.2.1 _ hcl) (C.2.2.2.2.1 _ hinst) (C.2.2.2.2.1 _ hini) C.2.2.2.2.2.1 hP hD hS C.2.2.2.2.2.2 hc hfs hroom.1 hroom.2 hd (fun q H1 hP hD hS => kk q H1 locs ls hP hD hS hl)
theorem tyz_one (hK : va_K D vwCl (tyz cA) s) {k : Nat} {ty : FieldType} (hk : (tyz cA)[k]? = some (cA (k + 1), ty)) {c1 : ClassId} (h : va_RA s c1 ty) (hn : ∀ C, ty ≠ .object C) : c1 = cA (k + 1) := by
  have h2 := (hK.2 k _ hk).2
  cases ty with
  | object C => exact absurd rfl (hn C)
  | _ => exact Option.some.inj ((show _ = some c1 from h).symm.trans h2)
theorem k_newa (C : CK p s m args c cc own nL D cA A) {atype : ArrayType} {ty : FieldType} (k : Nat) (hk : (tyz cA)[k]? = some (cA (k + 1), ty)) (hn0 : ∀ C, ty ≠ .object C) (hw : Cond.arrayClass (newarray.typeOf atype) ∈ TBL) (hty : newarray.typeOf atype = ty) {n : Int} {N : Nat} {a0 : vp_A} (ha : ∀ cA : ClassId, vp_cell cA a0 = arrV cA N (fun _ => defaultValue ty)) (hn : ¬ Int32.ofInt n < 0) (hN : (Int32.ofInt n).toNatClampNeg = N) (hb : N * componentBytes ty ≤ 536870912) (hroom : nc + 1 ≤ R.cells ∧ ns + N ≤ R.slots) (hd : decode cc pc = .ok (.newarray atype, 2)) (kk : ∀ q : Nat, KW p l e R s m args below meth c (nc + 1) (ns + N) nL D A Q (ws ++ [(q, .inl (cA (k + 1), a0))]) lv (.ref q :: st) (pc + 2)) : KW p l e R s m args below meth c nc ns nL D A Q ws lv (vI n :: st) pc :=
  fun H locs ls hP hD hS hl => va_newa C.1 C.2.1 (C.2.2.2.2.1 _ hw) hty C.2.2.2.2.2.1 hP hD hS C.2.2.2.2.2.2 ha hn hN hb hroom.1 hroom.2 hd (fun q c1 H1 hK1 hP1 hD1 hS1 => by
    have e : c1 = cA (k + 1) := tyz_one C.2.2.2.2.2.1 hk (hK1.2 4 (c1, ty) rfl).2 hn0
    rw [e] at hP1 hD1
    exact kk q H1 locs ls hP1 hD1 hS1 hl)
theorem k_putF (C : CK p s m args c cc own nL D cA A) (hin2 : meth.name = "<init>") {ref Cn : String} {T : u_T} {N ci index : Nat} (hin : ∀ w ∈ u_ws Cn T N, w ∈ TBL) {ty0 : Nat → FieldType} (hty : ∀ k, k < N → parseFieldDescriptor (T k).2.2.1 = some (ty0 k)) (hnm : ∀ a, a < N → ∀ b, b < N → a ≠ b → (T a).2.1 ≠ (T b).2.1) (q0 : Nat) {a : Nat} {fs : List Value} (he : ws[q0]? = some (a, .inr (ci, fs))) (hc : vwCl[ci]? = some (Cn, T, N)) (k : Nat) (hk : k < N) (hl0 : Cond.fieldLink own index ref (T k).2.1 (T k).2.2.1 ∈ TBL) (hrf : (T k).1 = ref) (hfin : (T k).2.2.2 = true) (hdecl : (T k).1 = own) {ty : FieldType} {v : Value} (hd0 : parseFieldDescriptor (T k).2.2.1 = some ty) (hn : narrow ty v = v) (hfit : fits ty v = true) (hlen : k < fs.length) (hd : decode cc pc = .ok (.putfield index, 3)) {ws' : va_W} (hws : ws.set q0 (a, .inr (ci, fs.set k v)) = ws') (kk : KW p l e R s m args below meth c nc ns nL D A Q ws' lv st (pc + 3)) : KW p l e R s m args below meth c nc ns nL D A Q ws lv (v :: .ref a :: st) pc :=
  fun H locs ls hP hD hS hl => va_putF C.1 C.2.1 C.2.2.2.2.1 hin ty0 hty hnm C.2.2.1 C.2.2.2.2.2.1 hP hD hS q0 he hc k hk (C.2.2.2.2.1 _ hl0) (fun _ h9 => by rw [← hrf]; exact h9) hfin hin2 hdecl hd0 hn hfit hlen hd (fun H1 locs1 hP1 hD1 hS1 => kk H1 locs1 ls (by rw [← hws]; exact hP1) (by rw [← hws]; exact hD1) hS1 hl)
theorem k_put (C : CK p s m args c cc own nL D cA A) {ref Cn : String} {T : u_T} {N ci index : Nat} (hin : ∀ w ∈ u_ws Cn T N, w ∈ TBL) {ty0 : Nat → FieldType} (hty : ∀ k, k < N → parseFieldDescriptor (T k).2.2.1 = some (ty0 k)) (hnm : ∀ a, a < N → ∀ b, b < N → a ≠ b → (T a).2.1 ≠ (T b).2.1) (q0 : Nat) {a : Nat} {fs : List Value} (he : ws[q0]? = some (a, .inr (ci, fs))) (hc : vwCl[ci]? = some (Cn, T, N)) (k : Nat) (hk : k < N) (hl0 : Cond.fieldLink own index ref (T k).2.1 (T k).2.2.1 ∈ TBL) (hrf : (T k).1 = ref) (hfin : (T k).2.2.2 = false) {ty : FieldType} {v : Value} (hd0 : parseFieldDescriptor (T k).2.2.1 = some ty) (hn : narrow ty v = v) (hfit : fits ty v = true) (hlen : k < fs.length) (hd : decode cc pc = .ok (.putfield index, 3)) {ws' : va_W} (hws : ws.set q0 (a, .inr (ci, fs.set k v)) = ws') (kk : KW p l e R s m args below meth c nc ns nL D A Q ws' lv st (pc + 3)) : KW p l e R s m args below meth c nc ns nL D A Q ws lv (v :: .ref a :: st) pc :=
  fun H locs ls hP hD hS hl => va_put C.1 C.2.1 C.2.2.2.2.1 hin ty0 hty hnm C.2.2.1 C.2.2.2.2.2.1 hP hD hS q0 he hc k hk (C.2.2.2.2.1 _ hl0) (fun _ h9 => by rw [← hrf]; exact h9) hfin hd0 hn hfit hlen hd (fun H1 locs1 hP1 hD1 hS1 => kk H1 locs1 ls (by rw [← hws]; exact hP1) (by rw [← hws]; exact hD1) hS1 hl)
theorem k_get (C : CK p s m args c cc own nL D cA A) {ref Cn : String} {T : u_T} {N ci index : Nat} (hin : ∀ w ∈ u_ws Cn T N, w ∈ TBL) (q0 : Nat) {a : Nat} {fs : List Value} (he : ws[q0]? = some (a, .inr (ci, fs))) (hc : vwCl[ci]? = some (Cn, T, N)) (k : Nat) (hk : k < N) (hl0 : Cond.fieldLink own index ref (T k).2.1 (T k).2.2.1 ∈ TBL) (hrf : (T k).1 = ref) {v : Value} (hv : fs[k]? = some v) (hd : decode cc pc = .ok (.getfield index, 3)) (kk : KW p l e R s m args below meth c nc ns nL D A Q ws lv (v :: st) (pc + 3)) : KW p l e R s m args below meth c nc ns nL D A Q ws lv (.ref a :: st) pc :=
  fun H locs ls hP hD hS hl => va_get C.1 C.2.1 C.2.2.2.2.1 hin C.2.2.1 C.2.2.2.2.2.1 hP q0 he hc k hk (C.2.2.2.2.1 _ hl0) (fun _ h9 => by rw [← hrf]; exact h9) hv hd (kk H locs ls hP hD hS hl)
/-- a constructor's contract: what it finds, what it leaves (at addresses of its own) -/
def CtN (l : Launch) (y : MethodName) (cw : Cond) (rm : Room) (D : va_G) (cA : Nat → ClassId) (As : List Value) (c0 : Nat × va_E) (pw : (Nat → Nat) → va_W) (mc ms : Nat) (E : State → Prop) : Prop := ∀ sz : Nat, Met l y (cw :: TBL) rm (va_Pc As (fun U => U.heap.size = sz ∧ va_P D vwCl [c0] U.heap ∧ va_K D vwCl (tyz cA) U ∧ E U)) (va_Qv (fun _ : Nat → Nat => True) (fun u t => va_P D vwCl (pw u) t.heap ∧ va_D (va_A [c0] sz) (pw u)) (va_A [c0] sz)) mc ms (va_A [c0] sz)
def QN (D : va_G) (c0 : Nat × va_E) (pw : (Nat → Nat) → va_W) (mc ms : Nat) (below : List Frame) (args : Array Value) (s : State) : State → Prop := MQ below (va_Qv (fun _ : Nat → Nat => True) (fun u t => va_P D vwCl (pw u) t.heap ∧ va_D (va_A [c0] s.heap.size) (pw u)) (va_A [c0] s.heap.size)) args s mc ms (va_A [c0] s.heap.size)
def MIw (y : MethodName) (bytes : ByteArray) (maxL n : Nat) : Prop := Cond.instanceMethod y ∈ TBL ∧ (Cond.initialized y.cls ∈ TBL ∧ Cond.code y bytes maxL none ∈ TBL ∧ y.cls ≠ "java/lang/invoke/MethodHandle" ∧ y.cls ≠ "java/lang/invoke/VarHandle" ∧ (parseMethodDescriptor y.desc).map (fun d => d.parameters.length) = some n) ∧ y.name = "<init>"
def Wm (E : State → Prop) : Prop := ∀ s U : State, s.WarmedH U.vm → E s → E U
theorem Wm_t : Wm (fun _ => True) := fun _ _ _ _ => trivial
theorem CN_blind {E : State → Prop} (hE : Wm E) (As : List Value) (sz : Nat) (c0 : Nat × va_E) : FrameBlind (va_Pc As (fun U => U.heap.size = sz ∧ va_P D vwCl [c0] U.heap ∧ va_K D vwCl (tyz cA) U ∧ E U)) := fun a U g mk q => by
  obtain ⟨q0, q1, qP, qK, qE⟩ := q
  exact ⟨q0, q1, qP, va_K.moved (u := U) (U := U.calling g mk a) (Vm.Alike.refl U.vm) qK, hE U (U.calling g mk a) (State.WarmedH.refl U) qE⟩
theorem k_init (C : CK p s m args c cc own nL D cA A) {y : MethodName} {bytes : ByteArray} {maxL n index b mc ms : Nat} {rm : Room} {As stk : List Value} {e0 : va_E} {E : State → Prop} {pw : (Nat → Nat) → va_W} (hM : CtN l y (.code y bytes maxL none) rm D cA (.ref b :: As) (b, e0) pw mc ms E) (hWm : Wm E) (hE : E s) (hw : MIw y bytes maxL n) (hl0 : Cond.methodLink own index y ∈ TBL) (hrc : rm.cells = mc) (hrs : rm.slots = ms) (hR : rm.frames + 1 ≤ R.frames ∧ 8 + (maxL + 11) + rm.locals ≤ R.locals) (hn : As.length = n) (hst : stk = As.reverse ++ .ref b :: st) (hcat : (st.map fun v => v.category).sum ≤ 8) (hd : decode cc pc = .ok (.invokespecial index, 3)) (i : Nat) (hi : ws[i]? = some (b, e0)) (isR : List Nat) {wr : va_W} (hRr : isR.map (fun i => ws[i]?) = wr.map some) (hnd : va_nd isR = true) (hdis : ∀ j ∈ isR, j ∉ [i]) (hroom : nc + mc ≤ R.cells ∧ ns + ms ≤ R.slots) (kk : ∀ u : Nat → Nat, KW p l e R s m args below meth c (nc + mc) (ns + ms) nL D A Q (wr ++ pw u) lv st (pc + 3)) : KW p l e R s m args below meth c nc ns nL D A Q ws lv stk pc := by
  intro H locs ls hP hD hS hl
  have hPc : va_P D vwCl [(b, e0)] H := fun k q hq => by
    cases k with
    | zero => cases hq; exact hP i _ hi
    | succ k => simp at hq
  have hCi : [i].map (fun i => ws[i]?) = [(b, e0)].map some := by simp [hi]
  have hFc := va_free (wc := [(b, e0)]) hD hS C.2.2.2.2.2.2 [i] hCi
  refine va_callv (va_runI (As := As) (rest := st) ⟨C.1, C.2.1, C.2.2.2.1, C.2.2.1, C.2.2.2.2.1⟩ (hM H.size) ⟨callB_of n C.2.2.2.2.1 (gi_tbl (fun _ h => h) (fun w hm => (List.mem_cons.mp hm).elim (fun q => by rw [q]; exact hw.2.1.2.1) id)) rfl hrc hrs (C.2.2.2.2.1 _ hw.2.1.1) (C.2.2.2.2.1 _ hl0) hw.2.1.2.2 hR, hw.2.2, C.2.2.2.2.1 _ hw.1⟩ ⟨CN_blind hWm _ _ _, fun U hU hW => ⟨rfl, by rw [hU], by rw [hU]; exact hPc, va_K.moved hW.alike C.2.2.2.2.2.1, hWm s U hW hE⟩⟩ rfl hn hl.1 hst (by show 2 * 0 + _ ≤ 8; omega) hd hroom) hS (fun q _ h => hFc q h) hFc (fun u t H1 locs1 ht hvm hw hB hz1 hk1 hS1 => ?_)
  obtain ⟨hP1, hD1⟩ := hB
  rw [ht] at hP1
  obtain ⟨hPj, hDj⟩ := va_join (wr := wr) (w1 := pw u) hP hD [i] isR hCi hRr hnd hdis hk1 hFc hP1 hD1
  exact kk u H1 locs1 ls hPj hDj hS1 hl
theorem k_initN (C : CK p s m args c cc own nL D cA A) {y : MethodName} {host : String} {bytes : ByteArray} {maxL n index b mc ms : Nat} {rm : Room} {As stk : List Value} {e0 : va_E} {E : State → Prop} {pw : (Nat → Nat) → va_W} (hM : CtN l y (.code y bytes maxL none) rm D cA (.ref b :: As) (b, e0) pw mc ms E) (hWm : Wm E) (hE : E s) (hw : MIw y bytes maxL n) (hl0 : va_Nw (.methodLinkNest own index y host) s) (hrc : rm.cells = mc) (hrs : rm.slots = ms) (hR : rm.frames + 1 ≤ R.frames ∧ 8 + (maxL + 11) + rm.locals ≤ R.locals) (hn : As.length = n) (hst : stk = As.reverse ++ .ref b :: st) (hcat : (st.map fun v => v.category).sum ≤ 8) (hd : decode cc pc = .ok (.invokespecial index, 3)) (i : Nat) (hi : ws[i]? = some (b, e0)) (isR : List Nat) {wr : va_W} (hRr : isR.map (fun i => ws[i]?) = wr.map some) (hnd : va_nd isR = true) (hdis : ∀ j ∈ isR, j ∉ [i]) (hroom : nc + mc ≤ R.cells ∧ ns + ms ≤ R.slots) (kk : ∀ u : Nat → Nat, KW p l e R s m args below meth c (nc + mc) (ns + ms) nL D A Q (wr ++ pw u) lv st (pc + 3)) : KW p l e R s m args below meth c nc ns nL D A Q ws lv stk pc := by
  intro H locs ls hP hD hS hl
  have hPc : va_P D vwCl [(b, e0)] H := fun k q hq => by
    cases k with
    | zero => cases hq; exact hP i _ hi
    | succ k => simp at hq
  have hCi : [i].map (fun i => ws[i]?) = [(b, e0)].map some := by simp [hi]
  have hFc := va_free (wc := [(b, e0)]) hD hS C.2.2.2.2.2.2 [i] hCi
  refine va_callv (va_runIN (As := As) (rest := st) ⟨C.1, C.2.1, C.2.2.2.1, C.2.2.1, C.2.2.2.2.1⟩ (hM H.size) ⟨va_cnB n C.2.2.2.2.1 (gi_tbl (fun _ h => h) (fun w hm => (List.mem_cons.mp hm).elim (fun q => by rw [q]; exact hw.2.1.2.1) id)) rfl hrc hrs hl0 (C.2.2.2.2.1 _ hw.2.1.1) hw.2.1.2.2 hR, hw.2.2, C.2.2.2.2.1 _ hw.1⟩ ⟨CN_blind hWm _ _ _, fun U hU hW => ⟨rfl, by rw [hU], by rw [hU]; exact hPc, va_K.moved hW.alike C.2.2.2.2.2.1, hWm s U hW hE⟩⟩ rfl hn hl.1 hst (by show 2 * 0 + _ ≤ 8; omega) hd hroom) hS (fun q _ h => hFc q h) hFc (fun u t H1 locs1 ht hvm hw hB hz1 hk1 hS1 => ?_)
  obtain ⟨hP1, hD1⟩ := hB
  rw [ht] at hP1
  obtain ⟨hPj, hDj⟩ := va_join (wr := wr) (w1 := pw u) hP hD [i] isR hCi hRr hnd hdis hk1 hFc hP1 hD1
  exact kk u H1 locs1 ls hPj hDj hS1 hl
theorem k_ret (C : CK p s m args c cc own nL D cA A) {c0 : Nat × va_E} {pw : (Nat → Nat) → va_W} {mc ms : Nat} (hA : A = va_A [c0] s.heap.size) (hlocks : meth.locks = false) (hr : meth.sig.returnType = none) (u : Nat → Nat) (hws : pw u = ws) (hd : decode cc pc = .ok (.return_, 1)) : KW p l e R s m args below meth c mc ms nL D A (QN D c0 pw mc ms below args s) ws lv [] pc := by
  subst hA
  intro H locs ls hP hD hS hl
  exact W.vret C.1 C.2.1 hr (fun t ht hW => ⟨⟨u, rfl, trivial, by rw [ht, hws]; exact hP, by rw [hws]; exact hD⟩, hS.F ht⟩) hS.2.2 hd hlocks
theorem ct_N {y : MethodName} {bytes : ByteArray} {maxL : Nat} {rm : Room} {As : List Value} {c0 : Nat × va_E} {pw : (Nat → Nat) → va_W} {mc ms : Nat} {E : State → Prop} (own : String) (hy : plainName y.cls = true) (hown : y.cls = own) (hini : y.name = "<init>") (hlen : (lg_sl As).length ≤ maxL)
    (body : ∀ (p : Program) (e : Env) (s : State) (m : MethodId) (args : Array Value) (below : List Frame) (meth : Method) (c : Code), CK p s m args c bytes own maxL D cA (va_A [c0] s.heap.size) → meth.name = "<init>" → meth.locks = false → meth.sig.returnType = none → E s → KW p l e rm s m args below meth c 0 0 maxL D (va_A [c0] s.heap.size) (QN D c0 pw mc ms below args s) [c0] (lv_args 0 As) [] 0) : CtN l y (.code y bytes maxL none) rm D cA As c0 pw mc ms E := by
  intro sz
  refine Met.ofW (cc := bytes) (maxL := maxL) (ret := none) hy rfl ?_
  intro p e s m args below meth c s₁ B hml hv
  obtain ⟨rfl, rfl, hP, hK, hE⟩ := hv
  have hts := atoms_spec (ws := .code y bytes maxL none :: TBL) B.pre
  have hf : s.vm.findClass own = some m.cls := by rw [← hown]; exact findClass_of_methodNamed B.named
  have C : CK p s m As.toArray c bytes own maxL D cA (va_A [c0] s.heap.size) := ⟨B.exec, B.bytes, hf, hml, fun w h => hts w (List.mem_cons_of_mem _ h), hK, fun q h => Or.inr h⟩
  have hin : meth.name = "<init>" := (name_of_methodNamed B.named B.method).1.trans hini
  have hD : va_D (va_A [c0] s.heap.size) [c0] := ⟨fun i j a b ha hb _ => by
    cases i with
    | zero => cases j with
      | zero => rfl
      | succ j => simp at hb
    | succ i => simp at ha, fun k q hk => va_A.in hk⟩
  rw [lg_entry_eq]
  exact body p e s m _ below meth c C hin B.notSynchronized B.returns hE s.heap [] _ hP hD va_S.rf (lv_entry As hlen)
end KK
