/-! methods that may throw: what they stand on, their contract, their ends -/
def XE : Nat → String
  | 1 => "java/lang/UnsupportedOperationException"
  | 2 => "java/lang/IllegalArgumentException"
  | 3 => "java/lang/IllegalStateException"
  | _ => "java/lang/IndexOutOfBoundsException"
abbrev upN : List String := ["java/lang/RuntimeException", "java/lang/Exception"]
def strX : List (Nat × String) := [(83, "the tape has at most 1000 bytes"), (94, "the tape has not so many bytes"), (141, "the sentence was not read"), (146, "there are not so many ways"), (159, "there is no such use"), (161, "of a use there are 0 to 6"), (168, "the whole tree has no such node"), (170, "of a node of the whole tree there are 0 to 5"), (179, "there is no such node"), (181, "of a node there are 0 to 4"), (194, "there is no such byte"), (203, "there are counts 0 to 6")]
def dclX : List MethodName := [⟨"java/lang/RuntimeException", "<init>", "(Ljava/lang/String;)V"⟩, ⟨"java/lang/Exception", "<init>", "(Ljava/lang/String;)V"⟩, ⟨"java/lang/Throwable", "<init>", "(Ljava/lang/String;)V"⟩]
theorem NwD {x : MethodName} {s U : State} (hW : s.WarmedH U.vm) (h : va_Nw (.declares x) s) : va_Nw (.declares x) U := va_tabs rfl (rfl : (s.setVm U.vm).vm = U.vm) (by rw [Cond.declares_setVm hW.alike]; exact h)
def Th (A : Nat → Prop) (U : State) (H : Heap) : Prop := vx_Zq Bundle.tN "UNASSIGNED_STACK" Bundle.steD A U H ∧ vx_Zq Bundle.tN "SUPPRESSED_SENTINEL" Bundle.listD A U H ∧ (∀ k, va_Nw (.castable (XE k) (XE k)) U) ∧ (∀ x ∈ dclX, va_Nw (.declares x) U) ∧ ∀ q ∈ strX, ∃ a, vk_R RX8 q.1 q.2 a U
theorem Th.warm {A : Nat → Prop} {s U : State} {H : Heap} (hW : s.WarmedH U.vm) (h : Th A s H) : Th A U H := ⟨vx_Zq.moved hW.alike h.1, vx_Zq.moved hW.alike h.2.1, fun k => va_Nw.warmC hW (h.2.2.1 k), fun x hx => NwD hW (h.2.2.2.1 x hx), fun q hq => by
  obtain ⟨a, ha⟩ := h.2.2.2.2 q hq
  exact ⟨a, vk_R.warm hW ha⟩⟩
theorem Th.kept {A : Nat → Prop} {U : State} {H H1 : Heap} (h : Th A U H) (hq : ∀ a : Nat, a < H.size → ¬ A a → H1[a]? = H[a]?) : Th A U H1 := ⟨vx_Zq.kept h.1 hq, vx_Zq.kept h.2.1 hq, h.2.2⟩
theorem Th.narrow {A B : Nat → Prop} {U : State} {H : Heap} (h : Th A U H) (hAB : ∀ q, B q → A q) : Th B U H := ⟨vx_Zq.narrow h.1 hAB, vx_Zq.narrow h.2.1 hAB, h.2.2⟩
theorem P_kept {D : va_G} {ws : va_W} {H H1 : Heap} (h : va_P D vwCl ws H) (hk : ∀ q : Nat, q < H.size → H1[q]? = H[q]?) : va_P D vwCl ws H1 := fun k q hq => va_at.kept (h k q hq) (hk _ (va_at.lt (h k q hq)))
def XQ (D : va_G) (cA : Nat → ClassId) (sh : List Sh) (ad : Nat → Nat) (zs : Zs) (sz : Nat) (ks : List Nat) (Q : Nat → Int → St → Prop) : String → State → State → Prop := vx_X (S := St) (fun _ => True) (fun E u t => (∃ k, k ∈ ks ∧ E = XE k ∧ Q k 0 u) ∧ Wd D cA sh ad zs u t) (A0 sh ad sz)
def CtX (l : Launch) (y : MethodName) (cw : Cond) (rm : Room) (D : va_G) (cA : Nat → ClassId) (sh : List Sh) (ad : Nat → Nat) (zs : Zs) (As : List Value) (σ : St) (ks : List Nat) (Q : Nat → Int → St → Prop) : Prop := ∀ sz : Nat, vx_Met l y (cw :: TBL) rm (va_Pc As (fun U => U.heap.size = sz ∧ Wd D cA sh ad zs σ U ∧ Th (A0 sh ad U.heap.size) U U.heap)) (va_Qi (fun r u => ∃ z : Int, r = Int32.ofInt z ∧ Q 0 z u) (fun u t => Wd D cA sh ad zs u t) (A0 sh ad sz)) (XQ D cA sh ad zs sz ks Q) 1 6 (A0 sh ad sz)
def CtY (l : Launch) (y : MethodName) (cw : Cond) (rm : Room) (D : va_G) (cA : Nat → ClassId) (sh : List Sh) (ad : Nat → Nat) (zs : Zs) (As : List Value) (σ : St) (ks : List Nat) (Q : Nat → Int → St → Prop) : Prop := ∀ sz : Nat, vx_Met l y (cw :: TBL) rm (va_Pc As (fun U => U.heap.size = sz ∧ Wd D cA sh ad zs σ U ∧ Th (A0 sh ad U.heap.size) U U.heap)) (va_Qv (fun u => Q 0 0 u) (fun u t => Wd D cA sh ad zs u t) (A0 sh ad sz)) (XQ D cA sh ad zs sz ks Q) 1 6 (A0 sh ad sz)
def QX (D : va_G) (cA : Nat → ClassId) (sh : List Sh) (ad : Nat → Nat) (zs : Zs) (below : List Frame) (args : Array Value) (s : State) (ks : List Nat) (Q : Nat → Int → St → Prop) : State → Prop := vx_MQ below (va_Qi (fun r u => ∃ z : Int, r = Int32.ofInt z ∧ Q 0 z u) (fun u t => Wd D cA sh ad zs u t) (A0 sh ad s.heap.size)) (XQ D cA sh ad zs s.heap.size ks Q) args s 1 6 (A0 sh ad s.heap.size)
def QY (D : va_G) (cA : Nat → ClassId) (sh : List Sh) (ad : Nat → Nat) (zs : Zs) (below : List Frame) (args : Array Value) (s : State) (ks : List Nat) (Q : Nat → Int → St → Prop) : State → Prop := vx_MQ below (va_Qv (fun u => Q 0 0 u) (fun u t => Wd D cA sh ad zs u t) (A0 sh ad s.heap.size)) (XQ D cA sh ad zs s.heap.size ks Q) args s 1 6 (A0 sh ad s.heap.size)
/-- the words of a throw -/
def TW (k ik ic : Nat) : Prop := Cond.classLink RX8 ik (XE k) ∈ TBL ∧ Cond.initialized (XE k) ∈ TBL ∧ (∀ w ∈ (vx_atS RX8 ic (XE k) upN).filter goodWord, w ∈ TBL) ∧ (∀ w ∈ (vx_atS RX8 ic (XE k) upN).filter (fun w => !goodWord w), w ∈ Cond.castable (XE k) (XE k) :: dclX.map Cond.declares) ∧ (∀ w ∈ Cond.classLink RX8 ik (XE k) :: Cond.initialized (XE k) :: vx_atS RX8 ic (XE k) upN, vx_ot w = true) ∧ Bundle.fit (XE k) = true ∧ ∀ n ∈ upN, Bundle.fit n = true
set_option maxRecDepth 100000 in
theorem tc_1 : TW 1 81 85 := ⟨by decide +kernel, by decide +kernel, by decide +kernel, by decide +kernel, by decide +kernel, by decide +kernel, by decide +kernel⟩
set_option maxRecDepth 100000 in
theorem tc_2 : TW 2 92 96 := ⟨by decide +kernel, by decide +kernel, by decide +kernel, by decide +kernel, by decide +kernel, by decide +kernel, by decide +kernel⟩
set_option maxRecDepth 100000 in
theorem tc_3 : TW 3 139 143 := ⟨by decide +kernel, by decide +kernel, by decide +kernel, by decide +kernel, by decide +kernel, by decide +kernel, by decide +kernel⟩
set_option maxRecDepth 100000 in
theorem tc_4 : TW 4 144 148 := ⟨by decide +kernel, by decide +kernel, by decide +kernel, by decide +kernel, by decide +kernel, by decide +kernel, by decide +kernel⟩
section GX
variable {p : Program} {l : Launch} {e : Env} {R : Room} {s : State} {m : MethodId} {args : Array Value} {below : List Frame} {meth : Method} {c : Code}
variable {cc : ByteArray} {own : String} {nL pc : Nat} {D : va_G} {cA : Nat → ClassId} {sh : List Sh} {ad : Nat → Nat} {zs : Zs}
variable {σ : St} {lv : List (Nat × Value)} {ks : List Nat}
theorem g_iretX (C : Cx p s m args c cc own nL D cA sh ad zs) (hlocks : meth.locks = false) (hr : meth.sig.returnType = some .int) {Qr : Nat → Int → St → Prop} {z : Int} (h : Qr 0 z σ) (hd : decode cc pc = .ok (.ireturn, 1)) : G p l e R s m args below meth c 0 0 nL D cA sh ad (QX D cA sh ad zs below args s ks Qr) σ lv [vI z] pc :=
  fun H locs ls hP hS hl => W.widen (k := 1) (n := 6) (Nat.zero_le _) (Nat.zero_le _) (vx_ret (W.iret (v := Int32.ofInt z) C.1 C.2.1 hr (fun t ht hW => ⟨⟨Int32.ofInt z, σ, rfl, ⟨z, rfl, h⟩, Wd_of C hP hS ht hW.alike⟩, hS.F ht⟩) hS.2.2 hd hlocks))
theorem g_vretX (C : Cx p s m args c cc own nL D cA sh ad zs) (hlocks : meth.locks = false) (hr : meth.sig.returnType = none) {Qr : Nat → Int → St → Prop} (h : Qr 0 0 σ) (hd : decode cc pc = .ok (.return_, 1)) : G p l e R s m args below meth c 0 0 nL D cA sh ad (QY D cA sh ad zs below args s ks Qr) σ lv [] pc :=
  fun H locs ls hP hS hl => W.widen (k := 1) (n := 6) (Nat.zero_le _) (Nat.zero_le _) (vx_ret (W.vret C.1 C.2.1 hr (fun t ht hW => ⟨⟨σ, rfl, h, Wd_of C hP hS ht hW.alike⟩, hS.F ht⟩) hS.2.2 hd hlocks))
theorem thr_x {H : Heap} {locs : List Loc} {t : State} (C : Cx p s m args c cc own nL D cA sh ad zs) (hP : va_P D vwCl (wl cA ad σ 0 sh) H) (hS : va_S (A0 sh ad s.heap.size) s.heap H locs) {Qr : Nat → Int → St → Prop} (k : Nat) (hk0 : k ∈ ks) (h : Qr k 0 σ) (hA : s.vm.Alike t.vm) (hz : H.size ≤ t.heap.size) (hk : ∀ q : Nat, q < H.size → t.heap[q]? = H[q]?) : XQ D cA sh ad zs s.heap.size ks Qr (XE k) s t := by
  have hS' : va_S (A0 sh ad s.heap.size) s.heap t.heap locs := ⟨Nat.le_trans hS.1 hz, fun q h1 h2 => (hk q (Nat.lt_of_lt_of_le h1 hS.1)).trans (hS.2.1 q h1 h2), hS.2.2⟩
  exact ⟨σ, trivial, ⟨⟨k, hk0, rfl, h⟩, Wd_of C (P_kept hP hk) hS' rfl hA⟩, hS'.F rfl⟩
theorem g_thrX (C : Cx p s m args c cc RX8 nL D cA sh ad zs) (TH : Th (A0 sh ad s.heap.size) s s.heap) (hst : l.stackTraces = false) (hlocks : meth.locks = false) (hx : ∀ x ∈ c.exceptionTable.toList, False) (k ik is ic : Nat) {text : String} (hrc : R.cells = 1) (hk0 : k ∈ ks) {Qr : Nat → Int → St → Prop} (h : Qr k 0 σ) (tx : (is, text) ∈ strX) (tw : TW k ik ic) (hR : R.slots = 6 ∧ 6 ≤ R.frames ∧ 100 ≤ R.locals) (d0 : decode cc pc = .ok (.new ik, 3)) (d3 : decode cc (pc + 3) = .ok (.dup, 1)) (d4 : decode cc (pc + 4) = .ok (.ldc is, 2)) (d6 : decode cc (pc + 6) = .ok (.invokespecial ic, 3)) (d9 : decode cc (pc + 9) = .ok (.athrow, 1)) : G p l e R s m args below meth c 0 0 nL D cA sh ad (QX D cA sh ad zs below args s ks Qr) σ lv [] pc := by
  intro H locs ls hP hS hl
  obtain ⟨t1, t2, t3, t4, t5, t6, t7⟩ := tw
  obtain ⟨sa, hsa⟩ := TH.2.2.2.2 _ tx
  have tb := C.2.2.2.2.1
  have hat : ∀ w ∈ vx_atS RX8 ic (XE k) upN, w.before args s = true := vx_hat (fun w hw => tb w (t3 w hw)) t4 (vx_c (va_Nw.use (A := args) rfl (TH.2.2.1 k)) (fun w hw => by
    obtain ⟨x, hx, hxw⟩ := List.mem_map.mp hw
    rw [← hxw]
    exact va_Nw.use (A := args) rfl (TH.2.2.2.1 x hx)))
  exact vx_throwS (own := RX8) (cls := XE k) (text := text) (names := upN) (sa := sa) (A := A0 sh ad s.heap.size) C.1 C.2.1 hst C.2.2.1 t6 t7 (tb _ t1) (tb _ t2) hsa hat t5 TH.1 TH.2.1 hS (hl.1.trans C.2.2.2.1.symm) d0 d3 d4 d6 d9 (fun x q => (hx x q).elim) (by show 2 + 3 < R.frames; omega) (by show 0 + (13 * (2 + 1) + 43) ≤ R.locals; omega) (by rw [hrc]; exact Nat.le_refl _) (by rw [hR.1]; exact Nat.le_refl _) hlocks (fun t hA hz hk => thr_x C hP hS k hk0 h hA hz hk) hS.2.2 (Nat.le_refl _) (Nat.le_refl _)
theorem g_thrY (C : Cx p s m args c cc RX8 nL D cA sh ad zs) (TH : Th (A0 sh ad s.heap.size) s s.heap) (hst : l.stackTraces = false) (hlocks : meth.locks = false) (hx : ∀ x ∈ c.exceptionTable.toList, False) (k ik is ic : Nat) {text : String} (hrc : R.cells = 1) (hk0 : k ∈ ks) {Qr : Nat → Int → St → Prop} (h : Qr k 0 σ) (tx : (is, text) ∈ strX) (tw : TW k ik ic) (hR : R.slots = 6 ∧ 6 ≤ R.frames ∧ 100 ≤ R.locals) (d0 : decode cc pc = .ok (.new ik, 3)) (d3 : decode cc (pc + 3) = .ok (.dup, 1)) (d4 : decode cc (pc + 4) = .ok (.ldc is, 2)) (d6 : decode cc (pc + 6) = .ok (.invokespecial ic, 3)) (d9 : decode cc (pc + 9) = .ok (.athrow, 1)) : G p l e R s m args below meth c 0 0 nL D cA sh ad (QY D cA sh ad zs below args s ks Qr) σ lv [] pc := by
  intro H locs ls hP hS hl
  obtain ⟨t1, t2, t3, t4, t5, t6, t7⟩ := tw
  obtain ⟨sa, hsa⟩ := TH.2.2.2.2 _ tx
  have tb := C.2.2.2.2.1
  have hat : ∀ w ∈ vx_atS RX8 ic (XE k) upN, w.before args s = true := vx_hat (fun w hw => tb w (t3 w hw)) t4 (vx_c (va_Nw.use (A := args) rfl (TH.2.2.1 k)) (fun w hw => by
    obtain ⟨x, hx, hxw⟩ := List.mem_map.mp hw
    rw [← hxw]
    exact va_Nw.use (A := args) rfl (TH.2.2.2.1 x hx)))
  exact vx_throwS (own := RX8) (cls := XE k) (text := text) (names := upN) (sa := sa) (A := A0 sh ad s.heap.size) C.1 C.2.1 hst C.2.2.1 t6 t7 (tb _ t1) (tb _ t2) hsa hat t5 TH.1 TH.2.1 hS (hl.1.trans C.2.2.2.1.symm) d0 d3 d4 d6 d9 (fun x q => (hx x q).elim) (by show 2 + 3 < R.frames; omega) (by show 0 + (13 * (2 + 1) + 43) ≤ R.locals; omega) (by rw [hrc]; exact Nat.le_refl _) (by rw [hR.1]; exact Nat.le_refl _) hlocks (fun t hA hz hk => thr_x C hP hS k hk0 h hA hz hk) hS.2.2 (Nat.le_refl _) (Nat.le_refl _)
theorem ct_X {y : MethodName} {bytes : ByteArray} {maxL : Nat} {ret : Option FieldType} {rm : Room} {As : List Value} {Qr : Nat → Int → St → Prop} (own : String) (hy : plainName y.cls = true) (hown : y.cls = own) (hlen : (lg_sl As).length ≤ maxL)
    (body : ∀ (p : Program) (e : Env) (s : State) (m : MethodId) (args : Array Value) (below : List Frame) (meth : Method) (c : Code), Cx p s m args c bytes own maxL D cA sh ad zs → Th (A0 sh ad s.heap.size) s s.heap → meth.locks = false → meth.sig.returnType = ret → (∀ x ∈ c.exceptionTable.toList, False) → G p l e rm s m args below meth c 0 0 maxL D cA sh ad (QX D cA sh ad zs below args s ks Qr) σ (lv_args 0 As) [] 0) : CtX l y (.code y bytes maxL ret) rm D cA sh ad zs As σ ks Qr := by
  intro sz
  refine vx_ofW (cc := bytes) (maxL := maxL) (ret := ret) hy rfl ?_
  intro p e s m args below meth c s₁ B hml ht hv
  obtain ⟨rfl, rfl, ⟨hP, hK, hAp, hx⟩, hT⟩ := hv
  have hts := atoms_spec (ws := .code y bytes maxL ret :: TBL) B.pre
  have hf : s.vm.findClass own = some m.cls := by rw [← hown]; exact findClass_of_methodNamed B.named
  have C : Cx p s m As.toArray c bytes own maxL D cA sh ad zs := ⟨B.exec, B.bytes, hf, hml, fun w h => hts w (List.mem_cons_of_mem _ h), hK, hAp, hx⟩
  rw [lg_entry_eq]
  exact body p e s m _ below meth c C hT B.notSynchronized B.returns ht s.heap [] _ hP va_S.rf (lv_entry As hlen)
theorem ct_Y {y : MethodName} {bytes : ByteArray} {maxL : Nat} {ret : Option FieldType} {rm : Room} {As : List Value} {Qr : Nat → Int → St → Prop} (own : String) (hy : plainName y.cls = true) (hown : y.cls = own) (hlen : (lg_sl As).length ≤ maxL)
    (body : ∀ (p : Program) (e : Env) (s : State) (m : MethodId) (args : Array Value) (below : List Frame) (meth : Method) (c : Code), Cx p s m args c bytes own maxL D cA sh ad zs → Th (A0 sh ad s.heap.size) s s.heap → meth.locks = false → meth.sig.returnType = ret → (∀ x ∈ c.exceptionTable.toList, False) → G p l e rm s m args below meth c 0 0 maxL D cA sh ad (QY D cA sh ad zs below args s ks Qr) σ (lv_args 0 As) [] 0) : CtY l y (.code y bytes maxL ret) rm D cA sh ad zs As σ ks Qr := by
  intro sz
  refine vx_ofW (cc := bytes) (maxL := maxL) (ret := ret) hy rfl ?_
  intro p e s m args below meth c s₁ B hml ht hv
  obtain ⟨rfl, rfl, ⟨hP, hK, hAp, hx⟩, hT⟩ := hv
  have hts := atoms_spec (ws := .code y bytes maxL ret :: TBL) B.pre
  have hf : s.vm.findClass own = some m.cls := by rw [← hown]; exact findClass_of_methodNamed B.named
  have C : Cx p s m As.toArray c bytes own maxL D cA sh ad zs := ⟨B.exec, B.bytes, hf, hml, fun w h => hts w (List.mem_cons_of_mem _ h), hK, hAp, hx⟩
  rw [lg_entry_eq]
  exact body p e s m _ below meth c C hT B.notSynchronized B.returns ht s.heap [] _ hP va_S.rf (lv_entry As hlen)
end GX
