/-! THE CLAIM OUT OF ONE WALK OF THE LAW'S BODY. Your part is whole_start (and what it stands on); all else here is the same for every law, but numbers. -/
def R_law : String := "TreeJoinerLaw"
def lw_P (b : Addr) (xs : List Int32) (args : Array Value) (s : State) : Prop := args = #[.ref b] ∧ s.IntsAt b xs ∧ xs.length ≤ 3072 ∧ (Jvm.Cond.and given_1 narrow_1).before args s = true
def lw_Q (_ : Array Value) (s : State) (o : Outcome) (t : State) : Prop := o = .returned (some (.int 1)) ∧ Framed s o t [] 601024 7293034
def lw_Z (below : List Frame) (a : Array Value) (s : State) : State → Prop := fun t => ∃ o, t.status = .running ∧ Ended t below o ∧ lw_Q a s o t
/-- the law's own end, with 1 on the stack, nothing written that was there before, its room as the claim has it -/
theorem lw_ret {p : Program} {l : Launch} {e : Env} {s : State} {m : MethodId} {below : List Frame} {meth : Method} {c : Code} {b : Nat} (hx : p.tables.exec = Jvm.exec) (hb : c.code = code) (hr : meth.sig.returnType = ret) (hlocks : meth.locks = false) {pc : Nat} {H : Heap} {ls : Array Slot} (hdg : decode code pc = .ok (.ireturn, 1)) : W p l e room_1 s m #[Value.ref b] below meth c H [] 601024 7293034 (lw_Z below #[Value.ref b] s) (F0 m pc ls [.int 1]) := by
  intro T hT X
  obtain ⟨fs, hret, hrun, hended, hW, hframe⟩ := X.leave (v := some (.int 1)) (hlocks := hlocks) (fun h => by rw [hr] at h; cases h)
  have hmeth' : T.vm.method? m = some meth := X.method'
  refine ⟨T.setFrames fs, ?_, .returned (some (.int 1)), hrun, hended, rfl, ⟨_, rfl⟩, hW, hframe⟩
  jvm_step X.here [X.here.top, hx, hb, hdg, hmeth', hr, ret, narrow_b1]
  (try refine ⟨rfl, ?_⟩); (try refine ⟨rfl, ?_⟩)
  first | (intro acts; rw [hret _ acts rfl rfl rfl]) | rw [hret _ _ rfl rfl rfl]
  exact Steps.refl _
/-- what holds at the law's entry: the machine, the code, the tables' words (any of lw_tbl by 'hts w (by decide +kernel)'), the script of L ints xs at the cell b, what the Statement gives of the start (any of its parts by flat_of_before) -/
def lw_At (p : Program) (s : State) (m : MethodId) (meth : Method) (c : Code) (b L : Nat) (xs : Nat → Int32) : Prop :=
  p.tables.exec = Jvm.exec ∧ c.code = code ∧ meth.sig.returnType = ret ∧ c.maxLocals = 7 ∧ s.vm.findClass R_law = some m.cls ∧ (∀ w ∈ lw_tbl, w.before #[Value.ref b] s = true) ∧ va_X b L xs s s.heap ∧ b < s.heap.size ∧ meth.locks = false ∧ (Jvm.Cond.and given_1 narrow_1).before #[Value.ref b] s = true
theorem zsM_in : ∀ q ∈ zsM, q ∈ zsC := by
  intro q h
  unfold zsM at h
  cases h
theorem xs_w (v : Int32) : w32 v.toInt = v.toInt := by rw [← w32_toInt, Int32.ofInt_toInt]
theorem w_cd1 (k : Nat) : w32 (cd1 k) = cd1 k := by
  unfold cd1
  split <;> decide
theorem w_cdC (k : Nat) : w32 (cdC k) = cdC k := by
  unfold cdC
  split <;> decide
theorem w_cdU (k : Nat) : w32 (cdU k) = cdU k := by
  unfold cdU
  split <;> decide
set_option maxRecDepth 100000 in
theorem hT_feed : MT yL_feed cL_feed 8 (some .int) [(0, 16, 19, 13)] 7 := ⟨(tbl_at 614 (by decide +kernel) (by decide +kernel)), (tbl_at 0 (by decide +kernel) (by decide +kernel)), (tbl_at 615 rfl rfl), by decide, by decide, by decide +kernel⟩
theorem tl_s51 : Cond.methodLink RL 51 yL_feed ∈ TBL := (tbl_at 613 (by decide +kernel) (by decide +kernel))
set_option maxRecDepth 100000 in
theorem hv_X9_feed : MV RX9 yX9_feed cX9_feed 8 (some .int) 5 := ⟨⟨(tbl_at 1062 (by decide +kernel) (by decide +kernel)), (tbl_at 1063 (by decide +kernel) (by decide +kernel))⟩, (tbl_at 10 (by decide +kernel) (by decide +kernel)), (tbl_at 1064 rfl rfl), by decide, by decide, by decide +kernel⟩
theorem tl_x56 : Cond.methodLink RL 56 yX9_feed ∈ TBL := (tbl_at 1061 (by decide +kernel) (by decide +kernel))
set_option maxRecDepth 100000 in
theorem hv_X9_thrown : MV RX9 yX9_thrown cX9_thrown 1 (some .int) 0 := ⟨⟨(tbl_at 1058 (by decide +kernel) (by decide +kernel)), (tbl_at 1059 (by decide +kernel) (by decide +kernel))⟩, (tbl_at 10 (by decide +kernel) (by decide +kernel)), (tbl_at 1060 rfl rfl), by decide, by decide, by decide +kernel⟩
theorem tl_x57 : Cond.methodLink RL 57 yX9_thrown ∈ TBL := (tbl_at 1057 (by decide +kernel) (by decide +kernel))
set_option maxRecDepth 100000 in
theorem hT_end : MT yL_end cL_end 3 (some .int) [(0, 5, 8, 19)] 2 := ⟨(tbl_at 695 (by decide +kernel) (by decide +kernel)), (tbl_at 0 (by decide +kernel) (by decide +kernel)), (tbl_at 696 rfl rfl), by decide, by decide, by decide +kernel⟩
theorem tl_s61 : Cond.methodLink RL 61 yL_end ∈ TBL := (tbl_at 694 (by decide +kernel) (by decide +kernel))
set_option maxRecDepth 100000 in
theorem hv_X9_end : MV RX9 yX9_end cX9_end 2 none 1 := ⟨⟨(tbl_at 1066 (by decide +kernel) (by decide +kernel)), (tbl_at 1067 (by decide +kernel) (by decide +kernel))⟩, (tbl_at 10 (by decide +kernel) (by decide +kernel)), (tbl_at 1068 rfl rfl), by decide, by decide, by decide +kernel⟩
theorem tl_x64 : Cond.methodLink RL 64 yX9_end ∈ TBL := (tbl_at 1065 (by decide +kernel) (by decide +kernel))
set_option maxRecDepth 100000 in
theorem hv_X8_tree : MV RX8 yX8_tree cX8_tree 1 (some .int) 0 := ⟨⟨(tbl_at 306 (by decide +kernel) (by decide +kernel)), (tbl_at 307 (by decide +kernel) (by decide +kernel))⟩, (tbl_at 1 (by decide +kernel) (by decide +kernel)), (tbl_at 308 rfl rfl), by decide, by decide, by decide +kernel⟩
theorem tl_x65 : Cond.methodLink RL 65 yX8_tree ∈ TBL := (tbl_at 305 (by decide +kernel) (by decide +kernel))
set_option maxRecDepth 100000 in
theorem hv_X9_tree : MV RX9 yX9_tree cX9_tree 4 (some .int) 0 := ⟨⟨(tbl_at 1074 (by decide +kernel) (by decide +kernel)), (tbl_at 1075 (by decide +kernel) (by decide +kernel))⟩, (tbl_at 10 (by decide +kernel) (by decide +kernel)), (tbl_at 1076 rfl rfl), by decide, by decide, by decide +kernel⟩
theorem tl_x68 : Cond.methodLink RL 68 yX9_tree ∈ TBL := (tbl_at 1073 (by decide +kernel) (by decide +kernel))
set_option maxRecDepth 100000 in
theorem hv_X8_sentence : MV RX8 yX8_sentence cX8_sentence 2 (some .int) 0 := ⟨⟨(tbl_at 457 (by decide +kernel) (by decide +kernel)), (tbl_at 458 (by decide +kernel) (by decide +kernel))⟩, (tbl_at 1 (by decide +kernel) (by decide +kernel)), (tbl_at 459 rfl rfl), by decide, by decide, by decide +kernel⟩
theorem tl_x69 : Cond.methodLink RL 69 yX8_sentence ∈ TBL := (tbl_at 456 (by decide +kernel) (by decide +kernel))
set_option maxRecDepth 100000 in
theorem hv_X9_sentence : MV RX9 yX9_sentence cX9_sentence 4 (some .int) 0 := ⟨⟨(tbl_at 1148 (by decide +kernel) (by decide +kernel)), (tbl_at 1149 (by decide +kernel) (by decide +kernel))⟩, (tbl_at 10 (by decide +kernel) (by decide +kernel)), (tbl_at 1150 rfl rfl), by decide, by decide, by decide +kernel⟩
theorem tl_x72 : Cond.methodLink RL 72 yX9_sentence ∈ TBL := (tbl_at 1147 (by decide +kernel) (by decide +kernel))
set_option maxRecDepth 100000 in
theorem hv_X8_read : MV RX8 yX8_read cX8_read 2 (some .int) 0 := ⟨⟨(tbl_at 480 (by decide +kernel) (by decide +kernel)), (tbl_at 481 (by decide +kernel) (by decide +kernel))⟩, (tbl_at 1 (by decide +kernel) (by decide +kernel)), (tbl_at 482 rfl rfl), by decide, by decide, by decide +kernel⟩
theorem tl_x73 : Cond.methodLink RL 73 yX8_read ∈ TBL := (tbl_at 479 (by decide +kernel) (by decide +kernel))
set_option maxRecDepth 100000 in
theorem hv_X9_read : MV RX9 yX9_read cX9_read 3 (some .int) 0 := ⟨⟨(tbl_at 1152 (by decide +kernel) (by decide +kernel)), (tbl_at 1153 (by decide +kernel) (by decide +kernel))⟩, (tbl_at 10 (by decide +kernel) (by decide +kernel)), (tbl_at 1154 rfl rfl), by decide, by decide, by decide +kernel⟩
theorem tl_x76 : Cond.methodLink RL 76 yX9_read ∈ TBL := (tbl_at 1151 (by decide +kernel) (by decide +kernel))
set_option maxRecDepth 100000 in
theorem hv_X8_fault : MV RX8 yX8_fault cX8_fault 1 (some .int) 0 := ⟨⟨(tbl_at 606 (by decide +kernel) (by decide +kernel)), (tbl_at 607 (by decide +kernel) (by decide +kernel))⟩, (tbl_at 1 (by decide +kernel) (by decide +kernel)), (tbl_at 608 rfl rfl), by decide, by decide, by decide +kernel⟩
theorem tl_x77 : Cond.methodLink RL 77 yX8_fault ∈ TBL := (tbl_at 605 (by decide +kernel) (by decide +kernel))
set_option maxRecDepth 100000 in
theorem hv_X9_fault : MV RX9 yX9_fault cX9_fault 1 (some .int) 0 := ⟨⟨(tbl_at 1070 (by decide +kernel) (by decide +kernel)), (tbl_at 1071 (by decide +kernel) (by decide +kernel))⟩, (tbl_at 10 (by decide +kernel) (by decide +kernel)), (tbl_at 1072 rfl rfl), by decide, by decide, by decide +kernel⟩
theorem tl_x80 : Cond.methodLink RL 80 yX9_fault ∈ TBL := (tbl_at 1069 (by decide +kernel) (by decide +kernel))
set_option maxRecDepth 100000 in
theorem hT_choose : MT yL_choose cL_choose 4 (some .int) [(0, 9, 12, 25), (0, 9, 15, 27)] 3 := ⟨(tbl_at 719 (by decide +kernel) (by decide +kernel)), (tbl_at 0 (by decide +kernel) (by decide +kernel)), (tbl_at 720 rfl rfl), by decide, by decide, by decide +kernel⟩
theorem tl_s81 : Cond.methodLink RL 81 yL_choose ∈ TBL := (tbl_at 718 (by decide +kernel) (by decide +kernel))
set_option maxRecDepth 100000 in
theorem hv_X9_choose : MV RX9 yX9_choose cX9_choose 7 (some .int) 1 := ⟨⟨(tbl_at 1215 (by decide +kernel) (by decide +kernel)), (tbl_at 1216 (by decide +kernel) (by decide +kernel))⟩, (tbl_at 10 (by decide +kernel) (by decide +kernel)), (tbl_at 1217 rfl rfl), by decide, by decide, by decide +kernel⟩
theorem tl_x84 : Cond.methodLink RL 84 yX9_choose ∈ TBL := (tbl_at 1214 (by decide +kernel) (by decide +kernel))
set_option maxRecDepth 100000 in
theorem hT_use : MT yL_use cL_use 5 (some .int) [(0, 10, 13, 27), (0, 10, 17, 19)] 4 := ⟨(tbl_at 843 (by decide +kernel) (by decide +kernel)), (tbl_at 0 (by decide +kernel) (by decide +kernel)), (tbl_at 844 rfl rfl), by decide, by decide, by decide +kernel⟩
theorem tl_s85 : Cond.methodLink RL 85 yL_use ∈ TBL := (tbl_at 842 (by decide +kernel) (by decide +kernel))
set_option maxRecDepth 100000 in
theorem hv_X9_use : MV RX9 yX9_use cX9_use 3 (some .int) 2 := ⟨⟨(tbl_at 1247 (by decide +kernel) (by decide +kernel)), (tbl_at 1248 (by decide +kernel) (by decide +kernel))⟩, (tbl_at 10 (by decide +kernel) (by decide +kernel)), (tbl_at 1249 rfl rfl), by decide, by decide, by decide +kernel⟩
theorem tl_x88 : Cond.methodLink RL 88 yX9_use ∈ TBL := (tbl_at 1246 (by decide +kernel) (by decide +kernel))
set_option maxRecDepth 100000 in
theorem hT_whole : MT yL_whole cL_whole 5 (some .int) [(0, 10, 13, 27), (0, 10, 17, 19)] 4 := ⟨(tbl_at 853 (by decide +kernel) (by decide +kernel)), (tbl_at 0 (by decide +kernel) (by decide +kernel)), (tbl_at 854 rfl rfl), by decide, by decide, by decide +kernel⟩
theorem tl_s89 : Cond.methodLink RL 89 yL_whole ∈ TBL := (tbl_at 852 (by decide +kernel) (by decide +kernel))
set_option maxRecDepth 100000 in
theorem hv_X9_whole : MV RX9 yX9_whole cX9_whole 3 (some .int) 2 := ⟨⟨(tbl_at 1251 (by decide +kernel) (by decide +kernel)), (tbl_at 1252 (by decide +kernel) (by decide +kernel))⟩, (tbl_at 10 (by decide +kernel) (by decide +kernel)), (tbl_at 1253 rfl rfl), by decide, by decide, by decide +kernel⟩
theorem tl_x91 : Cond.methodLink RL 91 yX9_whole ∈ TBL := (tbl_at 1250 (by decide +kernel) (by decide +kernel))
set_option maxRecDepth 100000 in
theorem hT_node : MT yL_node cL_node 6 (some .int) [(0, 12, 15, 27), (0, 12, 19, 19)] 5 := ⟨(tbl_at 866 (by decide +kernel) (by decide +kernel)), (tbl_at 0 (by decide +kernel) (by decide +kernel)), (tbl_at 867 rfl rfl), by decide, by decide, by decide +kernel⟩
theorem tl_s92 : Cond.methodLink RL 92 yL_node ∈ TBL := (tbl_at 865 (by decide +kernel) (by decide +kernel))
set_option maxRecDepth 100000 in
theorem hv_X9_node : MV RX9 yX9_node cX9_node 5 (some .int) 3 := ⟨⟨(tbl_at 1255 (by decide +kernel) (by decide +kernel)), (tbl_at 1256 (by decide +kernel) (by decide +kernel))⟩, (tbl_at 10 (by decide +kernel) (by decide +kernel)), (tbl_at 1257 rfl rfl), by decide, by decide, by decide +kernel⟩
theorem tl_x95 : Cond.methodLink RL 95 yX9_node ∈ TBL := (tbl_at 1254 (by decide +kernel) (by decide +kernel))
set_option maxRecDepth 100000 in
theorem hT_letter : MT yL_letter cL_letter 6 (some .int) [(0, 12, 15, 27)] 5 := ⟨(tbl_at 877 (by decide +kernel) (by decide +kernel)), (tbl_at 0 (by decide +kernel) (by decide +kernel)), (tbl_at 878 rfl rfl), by decide, by decide, by decide +kernel⟩
theorem tl_s96 : Cond.methodLink RL 96 yL_letter ∈ TBL := (tbl_at 876 (by decide +kernel) (by decide +kernel))
set_option maxRecDepth 100000 in
theorem hv_X9_letter : MV RX9 yX9_letter cX9_letter 5 (some .int) 3 := ⟨⟨(tbl_at 1259 (by decide +kernel) (by decide +kernel)), (tbl_at 1260 (by decide +kernel) (by decide +kernel))⟩, (tbl_at 10 (by decide +kernel) (by decide +kernel)), (tbl_at 1261 rfl rfl), by decide, by decide, by decide +kernel⟩
theorem tl_x99 : Cond.methodLink RL 99 yX9_letter ∈ TBL := (tbl_at 1258 (by decide +kernel) (by decide +kernel))
set_option maxRecDepth 100000 in
theorem hv_X8_clear : MV RX8 yX8_clear cX8_clear 2 (some .int) 0 := ⟨⟨(tbl_at 610 (by decide +kernel) (by decide +kernel)), (tbl_at 611 (by decide +kernel) (by decide +kernel))⟩, (tbl_at 1 (by decide +kernel) (by decide +kernel)), (tbl_at 612 rfl rfl), by decide, by decide, by decide +kernel⟩
theorem tl_x100 : Cond.methodLink RL 100 yX8_clear ∈ TBL := (tbl_at 609 (by decide +kernel) (by decide +kernel))
set_option maxRecDepth 100000 in
theorem hv_X9_clear : MV RX9 yX9_clear cX9_clear 2 (some .int) 0 := ⟨⟨(tbl_at 1144 (by decide +kernel) (by decide +kernel)), (tbl_at 1145 (by decide +kernel) (by decide +kernel))⟩, (tbl_at 10 (by decide +kernel) (by decide +kernel)), (tbl_at 1146 rfl rfl), by decide, by decide, by decide +kernel⟩
theorem tl_x103 : Cond.methodLink RL 103 yX9_clear ∈ TBL := (tbl_at 1143 (by decide +kernel) (by decide +kernel))
set_option maxRecDepth 100000 in
theorem hT_count : MT yL_count cL_count 4 (some .int) [(0, 9, 12, 19)] 3 := ⟨(tbl_at 886 (by decide +kernel) (by decide +kernel)), (tbl_at 0 (by decide +kernel) (by decide +kernel)), (tbl_at 887 rfl rfl), by decide, by decide, by decide +kernel⟩
theorem tl_s104 : Cond.methodLink RL 104 yL_count ∈ TBL := (tbl_at 885 (by decide +kernel) (by decide +kernel))
set_option maxRecDepth 100000 in
theorem hv_X9_count : MV RX9 yX9_count cX9_count 2 (some .int) 1 := ⟨⟨(tbl_at 1263 (by decide +kernel) (by decide +kernel)), (tbl_at 1264 (by decide +kernel) (by decide +kernel))⟩, (tbl_at 10 (by decide +kernel) (by decide +kernel)), (tbl_at 1265 rfl rfl), by decide, by decide, by decide +kernel⟩
theorem tl_x106 : Cond.methodLink RL 106 yX9_count ∈ TBL := (tbl_at 1262 (by decide +kernel) (by decide +kernel))
set_option maxRecDepth 100000 in
set_option maxHeartbeats 4000000 in
theorem law_feed {p : Program} {l : Launch} {e : Env} {s : State} {m : MethodId} {below : List Frame} {meth : Method} {c : Code} {D : va_G} {cA : Nat → ClassId} {ad : Nat → Nat} {b L : Nat} {xs : Nat → Int32} (hst : l.stackTraces = false) (C : Cx p s m #[Value.ref b] c cL_law RL 7 D cA shA ad zsC) (TH : Th (A0 shA ad s.heap.size) s s.heap) (NK : Nk s) (hX : va_X b L xs s s.heap) (hbl : b < s.heap.size) (hbA : ¬ A0 shA ad s.heap.size b) (hL : L ≤ 3072) {i nc ns : Nat} (hi : i + 5 < L) (hnc : nc + 1 ≤ 601024) (hns : ns + 6 ≤ 7293034) {σ : St} (hI : R (fun o => σ (0 + o)) (mM σ)) (K : ∀ σ' : St, R (fun o => σ' (0 + o)) (mM σ') → G p l e room_1 s m #[Value.ref b] below meth c (nc + 1) (ns + 6) 7 D cA shA ad (lw_Z below #[Value.ref b] s) σ' [(0, .ref b), (1, .ref (ad 0)), (2, .ref (ad 30)), (3, .ref (ad 60)), (4, vI (i : Int))] [] 737) : G p l e room_1 s m #[Value.ref b] below meth c nc ns 7 D cA shA ad (lw_Z below #[Value.ref b] s) σ [(0, .ref b), (1, .ref (ad 0)), (2, .ref (ad 30)), (3, .ref (ad 60)), (4, vI (i : Int))] [] 108 := by
  have hw : ∀ k : Nat, k < 6 → w32 ((i : Int) + (k : Int)) = ((i + k : Nat) : Int) := fun k hk => by rw [w32_id (by omega) (by omega)]; omega
  refine g_aload_n C 1 1 rfl rfl dL_law_108 ?_
  refine g_aload_n C 0 0 rfl rfl dL_law_109 ?_
  refine g_iload C 4 4 rfl dL_law_110 ?_
  refine g_iconst C dL_law_112 ?_
  refine g_iadd C dL_law_113 ?_
  refine g_sld C hX hbl hbA (i + 1) (hw 1 (by omega)) (by omega) dL_law_114 ?_
  refine g_aload_n C 0 0 rfl rfl dL_law_115 ?_
  refine g_iload C 4 4 rfl dL_law_116 ?_
  refine g_iconst C dL_law_118 ?_
  refine g_iadd C dL_law_119 ?_
  refine g_sld C hX hbl hbA (i + 2) (hw 2 (by omega)) (by omega) dL_law_120 ?_
  refine g_aload_n C 0 0 rfl rfl dL_law_121 ?_
  refine g_iload C 4 4 rfl dL_law_122 ?_
  refine g_iconst C dL_law_124 ?_
  refine g_iadd C dL_law_125 ?_
  refine g_sld C hX hbl hbA (i + 3) (hw 3 (by omega)) (by omega) dL_law_126 ?_
  refine g_aload_n C 0 0 rfl rfl dL_law_127 ?_
  refine g_iload C 4 4 rfl dL_law_128 ?_
  refine g_iconst C dL_law_130 ?_
  refine g_iadd C dL_law_131 ?_
  refine g_sld C hX hbl hbA (i + 4) (hw 4 (by omega)) (by omega) dL_law_132 ?_
  refine g_aload_n C 0 0 rfl rfl dL_law_133 ?_
  refine g_iload C 4 4 rfl dL_law_134 ?_
  refine g_iconst C dL_law_136 ?_
  refine g_iadd C dL_law_137 ?_
  refine g_sld C hX hbl hbA (i + 5) (hw 5 (by omega)) (by omega) dL_law_138 ?_
  refine g_aload_n C 3 3 rfl rfl dL_law_139 ?_
  refine g_callH C TH NK (m_L_feed l hst D cA ad (R_feed hI)) hT_feed tl_s51 rfl rfl ⟨Nat.le_of_ble_eq_true rfl, Nat.le_of_ble_eq_true rfl⟩ ⟨by show nc + 1 ≤ 601024; omega, by show ns + 6 ≤ 7293034; omega⟩ (As := [.ref (ad 0), vI (xs (i + 1)).toInt, vI (xs (i + 2)).toInt, vI (xs (i + 3)).toInt, vI (xs (i + 4)).toInt, vI (xs (i + 5)).toInt, .ref (ad 60)]) (st := []) rfl rfl (Nat.le_of_ble_eq_true rfl) dL_law_140 (fun k1 σ1 hq => ?_)
  obtain ⟨k, z, u, hq, hk1, hk0, hc1, hm1, ho1⟩ := hq
  have eM : mM σ1 = mM σ := mM_cg hm1
  rw [← eM] at hq
  refine g_istore C 5 [(0, .ref b), (1, .ref (ad 0)), (2, .ref (ad 30)), (3, .ref (ad 60)), (4, vI (i : Int))] (by decide) rfl dL_law_143 ?_
  refine g_aload_n C 3 2 rfl rfl dL_law_145 ?_
  refine g_aload_n C 1 0 rfl rfl dL_law_146 ?_
  refine g_iload C 5 4 rfl dL_law_147 ?_
  refine g_iconst C dL_law_149 ?_
  refine g_iadd C dL_law_150 ?_
  refine g_sld C hX hbl hbA (i + 1) (hw 1 (by omega)) (by omega) dL_law_151 ?_
  refine g_aload_n C 1 0 rfl rfl dL_law_152 ?_
  refine g_iload C 5 4 rfl dL_law_153 ?_
  refine g_iconst C dL_law_155 ?_
  refine g_iadd C dL_law_156 ?_
  refine g_sld C hX hbl hbA (i + 2) (hw 2 (by omega)) (by omega) dL_law_157 ?_
  refine g_aload_n C 1 0 rfl rfl dL_law_158 ?_
  refine g_iload C 5 4 rfl dL_law_159 ?_
  refine g_iconst C dL_law_161 ?_
  refine g_iadd C dL_law_162 ?_
  refine g_sld C hX hbl hbA (i + 3) (hw 3 (by omega)) (by omega) dL_law_163 ?_
  refine g_aload_n C 1 0 rfl rfl dL_law_164 ?_
  refine g_iload C 5 4 rfl dL_law_165 ?_
  refine g_iconst C dL_law_167 ?_
  refine g_iadd C dL_law_168 ?_
  refine g_sld C hX hbl hbA (i + 4) (hw 4 (by omega)) (by omega) dL_law_169 ?_
  refine g_aload_n C 1 0 rfl rfl dL_law_170 ?_
  refine g_iload C 5 4 rfl dL_law_171 ?_
  refine g_iconst C dL_law_173 ?_
  refine g_iadd C dL_law_174 ?_
  refine g_sld C hX hbl hbA (i + 5) (hw 5 (by omega)) (by omega) dL_law_175 ?_
  refine g_callIvN C (lift_I embM zsM_in (CtI_cg (mM_ag σ1) (m_X9_feed l D cA (fun k => ad (30 + k)) hq))) hv_X9_feed tl_x56 (o := 30) (ci := 9) (As := [vI (xs (i + 1)).toInt, vI (xs (i + 2)).toInt, vI (xs (i + 3)).toInt, vI (xs (i + 4)).toInt, vI (xs (i + 5)).toInt]) (st := []) rfl rfl rfl rfl ⟨by show nc + 1 ≤ 601024; omega, by show ns + 6 ≤ 7293034; omega⟩ ⟨Nat.le_of_ble_eq_true rfl, Nat.le_of_ble_eq_true rfl⟩ rfl rfl (Nat.le_of_ble_eq_true rfl) dL_law_176 (fun r2 σ2 hq2 => ?_)
  obtain ⟨uM, ⟨t0, t1, t2⟩, e2⟩ := hq2
  subst e2
  refine g_istore C 6 [(5, vI k1), (0, .ref b), (1, .ref (ad 0)), (2, .ref (ad 30)), (3, .ref (ad 60)), (4, vI (i : Int))] (by decide) rfl dL_law_179 ?_
  have hth : wp_X9_thrown (fun r τ' => r = cd1 k ∧ τ' = mM (put σ1 uM 30 shM.length)) (mM (put σ1 uM 30 shM.length)) := ⟨by rw [mM_in (by decide)]; exact (putM_in (o := 0) (by decide)).trans t0, rfl⟩
  refine g_aload_n C 4 2 rfl rfl dL_law_181 ?_
  refine g_callIvN C (lift_I embM zsM_in (CtI_cg (mM_ag (put σ1 uM 30 shM.length)) (m_X9_thrown l D cA (fun k => ad (30 + k)) hth))) hv_X9_thrown tl_x57 (o := 30) (ci := 9) (As := []) (st := []) rfl rfl rfl rfl ⟨by show nc + 1 ≤ 601024; omega, by show ns + 6 ≤ 7293034; omega⟩ ⟨Nat.le_of_ble_eq_true rfl, Nat.le_of_ble_eq_true rfl⟩ rfl rfl (Nat.le_of_ble_eq_true rfl) dL_law_182 (fun r3 σ3 hq3 => ?_)
  obtain ⟨u3, ⟨h3, h4⟩, e3⟩ := hq3
  subst h4
  rw [putM_self] at e3
  subst e3
  have inv := Inv_2 hc1 t2
  refine g_iload C 1 5 rfl dL_law_185 ?_
  refine g_icmp_eq C rfl rfl 192 (by decide) dL_law_187 (fun _ => ?_) (fun hc => absurd (by rw [h3, hk1]) hc)
  refine g_iload C 1 5 rfl dL_law_192 ?_
  refine g_if_ne C rfl 209 (by decide) dL_law_194 (fun _ => ?_) (fun h0 => ?_)
  · refine g_goto C 737 (by decide) dL_law_209 ?_
    exact g_pick [2, 3, 4, 5, 6] rfl (K _ inv)
  · have hk : k = 0 := hk0.elim id (fun q => absurd (by rw [hk1, w_cd1] at h0; exact h0) q)
    refine g_aload_n C 5 3 rfl rfl dL_law_197 ?_
    refine g_iconst C dL_law_198 ?_
    refine g_lald C (o := 60) (n := 1) (N := 1) (j := 0) rfl rfl (by decide) (by decide) dL_law_199 ?_
    refine g_iload C 0 6 rfl dL_law_200 ?_
    refine g_i2l C rfl dL_law_202 ?_
    refine g_lcmp C dL_law_203 ?_
    refine g_if_eq C rfl 209 (by decide) dL_law_204 (fun _ => ?_) (fun hc => absurd (by rw [putM_out (by decide), ho1 hk, t1 hk]; exact lCmp_self _) hc)
    refine g_goto C 737 (by decide) dL_law_209 ?_
    exact g_pick [2, 3, 4, 5, 6] rfl (K _ inv)
set_option maxRecDepth 100000 in
set_option maxHeartbeats 4000000 in
theorem law_end {p : Program} {l : Launch} {e : Env} {s : State} {m : MethodId} {below : List Frame} {meth : Method} {c : Code} {D : va_G} {cA : Nat → ClassId} {ad : Nat → Nat} {b L : Nat} {xs : Nat → Int32} (hst : l.stackTraces = false) (C : Cx p s m #[Value.ref b] c cL_law RL 7 D cA shA ad zsC) (TH : Th (A0 shA ad s.heap.size) s s.heap) (NK : Nk s) (hX : va_X b L xs s s.heap) (hbl : b < s.heap.size) (hbA : ¬ A0 shA ad s.heap.size b) (hL : L ≤ 3072) {i nc ns : Nat} (hi : i + 5 < L) (hnc : nc + 1 ≤ 601024) (hns : ns + 6 ≤ 7293034) {σ : St} (hI : R (fun o => σ (0 + o)) (mM σ)) (K : ∀ σ' : St, R (fun o => σ' (0 + o)) (mM σ') → G p l e room_1 s m #[Value.ref b] below meth c (nc + 1) (ns + 6) 7 D cA shA ad (lw_Z below #[Value.ref b] s) σ' [(0, .ref b), (1, .ref (ad 0)), (2, .ref (ad 30)), (3, .ref (ad 60)), (4, vI (i : Int))] [] 737) : G p l e room_1 s m #[Value.ref b] below meth c nc ns 7 D cA shA ad (lw_Z below #[Value.ref b] s) σ [(0, .ref b), (1, .ref (ad 0)), (2, .ref (ad 30)), (3, .ref (ad 60)), (4, vI (i : Int))] [] 212 := by
  have hw : ∀ k : Nat, k < 6 → w32 ((i : Int) + (k : Int)) = ((i + k : Nat) : Int) := fun k hk => by rw [w32_id (by omega) (by omega)]; omega
  refine g_aload_n C 1 1 rfl rfl dL_law_212 ?_
  refine g_aload_n C 0 0 rfl rfl dL_law_213 ?_
  refine g_iload C 4 4 rfl dL_law_214 ?_
  refine g_iconst C dL_law_216 ?_
  refine g_iadd C dL_law_217 ?_
  refine g_sld C hX hbl hbA (i + 1) (hw 1 (by omega)) (by omega) dL_law_218 ?_
  refine g_callH C TH NK (m_L_end l hst D cA ad (R_end hI (xs_w _))) hT_end tl_s61 rfl rfl ⟨Nat.le_of_ble_eq_true rfl, Nat.le_of_ble_eq_true rfl⟩ ⟨by show nc + 1 ≤ 601024; omega, by show ns + 6 ≤ 7293034; omega⟩ (As := [.ref (ad 0), vI (xs (i + 1)).toInt]) (st := []) rfl rfl (Nat.le_of_ble_eq_true rfl) dL_law_219 (fun k1 σ1 hq => ?_)
  obtain ⟨k, z, u, hq, hk1, hc1, hm1⟩ := hq
  have eM : mM σ1 = mM σ := mM_cg hm1
  rw [← eM] at hq
  refine g_istore C 5 [(0, .ref b), (1, .ref (ad 0)), (2, .ref (ad 30)), (3, .ref (ad 60)), (4, vI (i : Int))] (by decide) rfl dL_law_222 ?_
  refine g_aload_n C 3 2 rfl rfl dL_law_224 ?_
  refine g_aload_n C 1 0 rfl rfl dL_law_225 ?_
  refine g_iload C 5 4 rfl dL_law_226 ?_
  refine g_iconst C dL_law_228 ?_
  refine g_iadd C dL_law_229 ?_
  refine g_sld C hX hbl hbA (i + 1) (hw 1 (by omega)) (by omega) dL_law_230 ?_
  refine g_callVvN C (lift_V embM zsM_in (CtV_cg (mM_ag σ1) (m_X9_end l D cA (fun k => ad (30 + k)) hq))) hv_X9_end tl_x64 (o := 30) (ci := 9) (As := [vI (xs (i + 1)).toInt]) (st := []) rfl rfl rfl rfl ⟨by show nc + 1 ≤ 601024; omega, by show ns + 6 ≤ 7293034; omega⟩ ⟨Nat.le_of_ble_eq_true rfl, Nat.le_of_ble_eq_true rfl⟩ rfl rfl (Nat.le_of_ble_eq_true rfl) dL_law_231 (fun σ2 hq2 => ?_)
  obtain ⟨uM, ⟨t0, t1, t2⟩, e2⟩ := hq2
  subst e2
  have hth : wp_X9_thrown (fun r τ' => r = cd1 k ∧ τ' = mM (put σ1 uM 30 shM.length)) (mM (put σ1 uM 30 shM.length)) := ⟨by rw [mM_in (by decide)]; exact (putM_in (o := 0) (by decide)).trans t0, rfl⟩
  refine g_aload_n C 3 2 rfl rfl dL_law_234 ?_
  refine g_callIvN C (lift_I embM zsM_in (CtI_cg (mM_ag (put σ1 uM 30 shM.length)) (m_X9_thrown l D cA (fun k => ad (30 + k)) hth))) hv_X9_thrown tl_x57 (o := 30) (ci := 9) (As := []) (st := []) rfl rfl rfl rfl ⟨by show nc + 1 ≤ 601024; omega, by show ns + 6 ≤ 7293034; omega⟩ ⟨Nat.le_of_ble_eq_true rfl, Nat.le_of_ble_eq_true rfl⟩ rfl rfl (Nat.le_of_ble_eq_true rfl) dL_law_235 (fun r3 σ3 hq3 => ?_)
  obtain ⟨u3, ⟨h3, h4⟩, e3⟩ := hq3
  subst h4
  rw [putM_self] at e3
  subst e3
  have inv := Inv_2 hc1 t2
  refine g_iload C 0 5 rfl dL_law_238 ?_
  refine g_icmp_eq C rfl rfl 245 (by decide) dL_law_240 (fun _ => ?_) (fun hc => absurd (by rw [h3, hk1]) hc)
  refine g_goto C 737 (by decide) dL_law_245 ?_
  exact g_pick [1, 2, 3, 4, 5] rfl (K _ inv)
set_option maxRecDepth 100000 in
set_option maxHeartbeats 4000000 in
theorem law_tree {p : Program} {l : Launch} {e : Env} {s : State} {m : MethodId} {below : List Frame} {meth : Method} {c : Code} {D : va_G} {cA : Nat → ClassId} {ad : Nat → Nat} {b L : Nat} {xs : Nat → Int32} (hst : l.stackTraces = false) (C : Cx p s m #[Value.ref b] c cL_law RL 7 D cA shA ad zsC) (TH : Th (A0 shA ad s.heap.size) s s.heap) (NK : Nk s) (hX : va_X b L xs s s.heap) (hbl : b < s.heap.size) (hbA : ¬ A0 shA ad s.heap.size b) (hL : L ≤ 3072) {i nc ns : Nat} (hnc : nc ≤ 601024) (hns : ns ≤ 7293034) {σ : St} (hI : R (fun o => σ (0 + o)) (mM σ)) (K : ∀ σ' : St, R (fun o => σ' (0 + o)) (mM σ') → G p l e room_1 s m #[Value.ref b] below meth c nc ns 7 D cA shA ad (lw_Z below #[Value.ref b] s) σ' [(0, .ref b), (1, .ref (ad 0)), (2, .ref (ad 30)), (3, .ref (ad 60)), (4, vI (i : Int))] [] 737) : G p l e room_1 s m #[Value.ref b] below meth c nc ns 7 D cA shA ad (lw_Z below #[Value.ref b] s) σ [(0, .ref b), (1, .ref (ad 0)), (2, .ref (ad 30)), (3, .ref (ad 60)), (4, vI (i : Int))] [] 248 := by
  refine g_aload_n C 1 1 rfl rfl dL_law_248 ?_
  refine g_callIvN C (lift_I embC (fun _ h => h) (m_X8_tree l D cA (fun k => ad (0 + k)) (R_tree hI))) hv_X8_tree tl_x65 (o := 0) (ci := 8) (As := []) (st := []) rfl rfl rfl rfl ⟨by show nc ≤ 601024; omega, by show ns ≤ 7293034; omega⟩ ⟨Nat.le_of_ble_eq_true rfl, Nat.le_of_ble_eq_true rfl⟩ rfl rfl (Nat.le_of_ble_eq_true rfl) dL_law_249 (fun r1 σ1 hq => ?_)
  obtain ⟨u, hq, e1⟩ := hq
  subst e1
  have eM : mM (put σ u 0 shC.length) = mM σ := mM_cg (fun o q h1 _ => put_M h1)
  rw [← eM] at hq
  refine g_aload_n C 2 2 rfl rfl dL_law_252 ?_
  refine g_callIvN C (lift_I embM zsM_in (CtI_cg (mM_ag (put σ u 0 shC.length)) (m_X9_tree l D cA (fun k => ad (30 + k)) hq))) hv_X9_tree tl_x68 (o := 30) (ci := 9) (As := []) (st := [vI r1]) rfl rfl rfl rfl ⟨by show nc ≤ 601024; omega, by show ns ≤ 7293034; omega⟩ ⟨Nat.le_of_ble_eq_true rfl, Nat.le_of_ble_eq_true rfl⟩ rfl rfl (Nat.le_of_ble_eq_true rfl) dL_law_253 (fun r2 σ2 hq2 => ?_)
  obtain ⟨uM, ⟨t1, t2⟩, e2⟩ := hq2
  subst e2
  exact g_icmp_eq C rfl rfl 737 (by decide) dL_law_256 (fun _ => K _ (Inv_2 (fun o q h => put_C h) t2)) (fun hc => absurd (by rw [t1]) hc)
set_option maxRecDepth 100000 in
set_option maxHeartbeats 4000000 in
theorem law_sentence {p : Program} {l : Launch} {e : Env} {s : State} {m : MethodId} {below : List Frame} {meth : Method} {c : Code} {D : va_G} {cA : Nat → ClassId} {ad : Nat → Nat} {b L : Nat} {xs : Nat → Int32} (hst : l.stackTraces = false) (C : Cx p s m #[Value.ref b] c cL_law RL 7 D cA shA ad zsC) (TH : Th (A0 shA ad s.heap.size) s s.heap) (NK : Nk s) (hX : va_X b L xs s s.heap) (hbl : b < s.heap.size) (hbA : ¬ A0 shA ad s.heap.size b) (hL : L ≤ 3072) {i nc ns : Nat} (hnc : nc ≤ 601024) (hns : ns ≤ 7293034) {σ : St} (hI : R (fun o => σ (0 + o)) (mM σ)) (K : ∀ σ' : St, R (fun o => σ' (0 + o)) (mM σ') → G p l e room_1 s m #[Value.ref b] below meth c nc ns 7 D cA shA ad (lw_Z below #[Value.ref b] s) σ' [(0, .ref b), (1, .ref (ad 0)), (2, .ref (ad 30)), (3, .ref (ad 60)), (4, vI (i : Int))] [] 737) : G p l e room_1 s m #[Value.ref b] below meth c nc ns 7 D cA shA ad (lw_Z below #[Value.ref b] s) σ [(0, .ref b), (1, .ref (ad 0)), (2, .ref (ad 30)), (3, .ref (ad 60)), (4, vI (i : Int))] [] 261 := by
  refine g_aload_n C 1 1 rfl rfl dL_law_261 ?_
  refine g_callIvN C (lift_I embC (fun _ h => h) (m_X8_sentence l D cA (fun k => ad (0 + k)) (R_sentence hI))) hv_X8_sentence tl_x69 (o := 0) (ci := 8) (As := []) (st := []) rfl rfl rfl rfl ⟨by show nc ≤ 601024; omega, by show ns ≤ 7293034; omega⟩ ⟨Nat.le_of_ble_eq_true rfl, Nat.le_of_ble_eq_true rfl⟩ rfl rfl (Nat.le_of_ble_eq_true rfl) dL_law_262 (fun r1 σ1 hq => ?_)
  obtain ⟨u, hq, e1⟩ := hq
  subst e1
  have eM : mM (put σ u 0 shC.length) = mM σ := mM_cg (fun o q h1 _ => put_M h1)
  rw [← eM] at hq
  refine g_aload_n C 2 2 rfl rfl dL_law_265 ?_
  refine g_callIvN C (lift_I embM zsM_in (CtI_cg (mM_ag (put σ u 0 shC.length)) (m_X9_sentence l D cA (fun k => ad (30 + k)) hq))) hv_X9_sentence tl_x72 (o := 30) (ci := 9) (As := []) (st := [vI r1]) rfl rfl rfl rfl ⟨by show nc ≤ 601024; omega, by show ns ≤ 7293034; omega⟩ ⟨Nat.le_of_ble_eq_true rfl, Nat.le_of_ble_eq_true rfl⟩ rfl rfl (Nat.le_of_ble_eq_true rfl) dL_law_266 (fun r2 σ2 hq2 => ?_)
  obtain ⟨uM, ⟨t1, t2⟩, e2⟩ := hq2
  subst e2
  exact g_icmp_eq C rfl rfl 737 (by decide) dL_law_269 (fun _ => K _ (Inv_2 (fun o q h => put_C h) t2)) (fun hc => absurd (by rw [t1]) hc)
set_option maxRecDepth 100000 in
set_option maxHeartbeats 4000000 in
theorem law_read {p : Program} {l : Launch} {e : Env} {s : State} {m : MethodId} {below : List Frame} {meth : Method} {c : Code} {D : va_G} {cA : Nat → ClassId} {ad : Nat → Nat} {b L : Nat} {xs : Nat → Int32} (hst : l.stackTraces = false) (C : Cx p s m #[Value.ref b] c cL_law RL 7 D cA shA ad zsC) (TH : Th (A0 shA ad s.heap.size) s s.heap) (NK : Nk s) (hX : va_X b L xs s s.heap) (hbl : b < s.heap.size) (hbA : ¬ A0 shA ad s.heap.size b) (hL : L ≤ 3072) {i nc ns : Nat} (hnc : nc ≤ 601024) (hns : ns ≤ 7293034) {σ : St} (hI : R (fun o => σ (0 + o)) (mM σ)) (K : ∀ σ' : St, R (fun o => σ' (0 + o)) (mM σ') → G p l e room_1 s m #[Value.ref b] below meth c nc ns 7 D cA shA ad (lw_Z below #[Value.ref b] s) σ' [(0, .ref b), (1, .ref (ad 0)), (2, .ref (ad 30)), (3, .ref (ad 60)), (4, vI (i : Int))] [] 737) : G p l e room_1 s m #[Value.ref b] below meth c nc ns 7 D cA shA ad (lw_Z below #[Value.ref b] s) σ [(0, .ref b), (1, .ref (ad 0)), (2, .ref (ad 30)), (3, .ref (ad 60)), (4, vI (i : Int))] [] 274 := by
  refine g_aload_n C 1 1 rfl rfl dL_law_274 ?_
  refine g_callIvN C (lift_I embC (fun _ h => h) (m_X8_read l D cA (fun k => ad (0 + k)) (R_read hI))) hv_X8_read tl_x73 (o := 0) (ci := 8) (As := []) (st := []) rfl rfl rfl rfl ⟨by show nc ≤ 601024; omega, by show ns ≤ 7293034; omega⟩ ⟨Nat.le_of_ble_eq_true rfl, Nat.le_of_ble_eq_true rfl⟩ rfl rfl (Nat.le_of_ble_eq_true rfl) dL_law_275 (fun r1 σ1 hq => ?_)
  obtain ⟨u, hq, e1⟩ := hq
  subst e1
  have eM : mM (put σ u 0 shC.length) = mM σ := mM_cg (fun o q h1 _ => put_M h1)
  rw [← eM] at hq
  refine g_aload_n C 2 2 rfl rfl dL_law_278 ?_
  refine g_callIvN C (lift_I embM zsM_in (CtI_cg (mM_ag (put σ u 0 shC.length)) (m_X9_read l D cA (fun k => ad (30 + k)) hq))) hv_X9_read tl_x76 (o := 30) (ci := 9) (As := []) (st := [vI r1]) rfl rfl rfl rfl ⟨by show nc ≤ 601024; omega, by show ns ≤ 7293034; omega⟩ ⟨Nat.le_of_ble_eq_true rfl, Nat.le_of_ble_eq_true rfl⟩ rfl rfl (Nat.le_of_ble_eq_true rfl) dL_law_279 (fun r2 σ2 hq2 => ?_)
  obtain ⟨uM, ⟨t1, t2⟩, e2⟩ := hq2
  subst e2
  exact g_icmp_eq C rfl rfl 737 (by decide) dL_law_282 (fun _ => K _ (Inv_2 (fun o q h => put_C h) t2)) (fun hc => absurd (by rw [t1]) hc)
set_option maxRecDepth 100000 in
set_option maxHeartbeats 4000000 in
theorem law_fault {p : Program} {l : Launch} {e : Env} {s : State} {m : MethodId} {below : List Frame} {meth : Method} {c : Code} {D : va_G} {cA : Nat → ClassId} {ad : Nat → Nat} {b L : Nat} {xs : Nat → Int32} (hst : l.stackTraces = false) (C : Cx p s m #[Value.ref b] c cL_law RL 7 D cA shA ad zsC) (TH : Th (A0 shA ad s.heap.size) s s.heap) (NK : Nk s) (hX : va_X b L xs s s.heap) (hbl : b < s.heap.size) (hbA : ¬ A0 shA ad s.heap.size b) (hL : L ≤ 3072) {i nc ns : Nat} (hnc : nc ≤ 601024) (hns : ns ≤ 7293034) {σ : St} (hI : R (fun o => σ (0 + o)) (mM σ)) (K : ∀ σ' : St, R (fun o => σ' (0 + o)) (mM σ') → G p l e room_1 s m #[Value.ref b] below meth c nc ns 7 D cA shA ad (lw_Z below #[Value.ref b] s) σ' [(0, .ref b), (1, .ref (ad 0)), (2, .ref (ad 30)), (3, .ref (ad 60)), (4, vI (i : Int))] [] 737) : G p l e room_1 s m #[Value.ref b] below meth c nc ns 7 D cA shA ad (lw_Z below #[Value.ref b] s) σ [(0, .ref b), (1, .ref (ad 0)), (2, .ref (ad 30)), (3, .ref (ad 60)), (4, vI (i : Int))] [] 287 := by
  refine g_aload_n C 1 1 rfl rfl dL_law_287 ?_
  refine g_callIvN C (lift_I embC (fun _ h => h) (m_X8_fault l D cA (fun k => ad (0 + k)) (R_fault hI))) hv_X8_fault tl_x77 (o := 0) (ci := 8) (As := []) (st := []) rfl rfl rfl rfl ⟨by show nc ≤ 601024; omega, by show ns ≤ 7293034; omega⟩ ⟨Nat.le_of_ble_eq_true rfl, Nat.le_of_ble_eq_true rfl⟩ rfl rfl (Nat.le_of_ble_eq_true rfl) dL_law_288 (fun r1 σ1 hq => ?_)
  obtain ⟨u, hq, e1⟩ := hq
  subst e1
  have eM : mM (put σ u 0 shC.length) = mM σ := mM_cg (fun o q h1 _ => put_M h1)
  rw [← eM] at hq
  refine g_aload_n C 2 2 rfl rfl dL_law_291 ?_
  refine g_callIvN C (lift_I embM zsM_in (CtI_cg (mM_ag (put σ u 0 shC.length)) (m_X9_fault l D cA (fun k => ad (30 + k)) hq))) hv_X9_fault tl_x80 (o := 30) (ci := 9) (As := []) (st := [vI r1]) rfl rfl rfl rfl ⟨by show nc ≤ 601024; omega, by show ns ≤ 7293034; omega⟩ ⟨Nat.le_of_ble_eq_true rfl, Nat.le_of_ble_eq_true rfl⟩ rfl rfl (Nat.le_of_ble_eq_true rfl) dL_law_292 (fun r2 σ2 hq2 => ?_)
  obtain ⟨uM, ⟨t1, t2⟩, e2⟩ := hq2
  subst e2
  exact g_icmp_eq C rfl rfl 737 (by decide) dL_law_295 (fun _ => K _ (Inv_2 (fun o q h => put_C h) t2)) (fun hc => absurd (by rw [t1]) hc)
set_option maxRecDepth 100000 in
set_option maxHeartbeats 4000000 in
theorem law_choose {p : Program} {l : Launch} {e : Env} {s : State} {m : MethodId} {below : List Frame} {meth : Method} {c : Code} {D : va_G} {cA : Nat → ClassId} {ad : Nat → Nat} {b L : Nat} {xs : Nat → Int32} (hst : l.stackTraces = false) (C : Cx p s m #[Value.ref b] c cL_law RL 7 D cA shA ad zsC) (TH : Th (A0 shA ad s.heap.size) s s.heap) (NK : Nk s) (hX : va_X b L xs s s.heap) (hbl : b < s.heap.size) (hbA : ¬ A0 shA ad s.heap.size b) (hL : L ≤ 3072) {i nc ns : Nat} (hi : i + 5 < L) (hnc : nc + 1 ≤ 601024) (hns : ns + 6 ≤ 7293034) {σ : St} (hI : R (fun o => σ (0 + o)) (mM σ)) (K : ∀ σ' : St, R (fun o => σ' (0 + o)) (mM σ') → G p l e room_1 s m #[Value.ref b] below meth c (nc + 1) (ns + 6) 7 D cA shA ad (lw_Z below #[Value.ref b] s) σ' [(0, .ref b), (1, .ref (ad 0)), (2, .ref (ad 30)), (3, .ref (ad 60)), (4, vI (i : Int))] [] 737) : G p l e room_1 s m #[Value.ref b] below meth c nc ns 7 D cA shA ad (lw_Z below #[Value.ref b] s) σ [(0, .ref b), (1, .ref (ad 0)), (2, .ref (ad 30)), (3, .ref (ad 60)), (4, vI (i : Int))] [] 300 := by
  have hw : ∀ k : Nat, k < 6 → w32 ((i : Int) + (k : Int)) = ((i + k : Nat) : Int) := fun k hk => by rw [w32_id (by omega) (by omega)]; omega
  refine g_aload_n C 1 1 rfl rfl dL_law_300 ?_
  refine g_aload_n C 0 0 rfl rfl dL_law_301 ?_
  refine g_iload C 4 4 rfl dL_law_302 ?_
  refine g_iconst C dL_law_304 ?_
  refine g_iadd C dL_law_305 ?_
  refine g_sld C hX hbl hbA (i + 1) (hw 1 (by omega)) (by omega) dL_law_306 ?_
  refine g_aload_n C 3 3 rfl rfl dL_law_307 ?_
  refine g_callH C TH NK (m_L_choose l hst D cA ad (R_choose2 hI (xs_w _))) hT_choose tl_s81 rfl rfl ⟨Nat.le_of_ble_eq_true rfl, Nat.le_of_ble_eq_true rfl⟩ ⟨by show nc + 1 ≤ 601024; omega, by show ns + 6 ≤ 7293034; omega⟩ (As := [.ref (ad 0), vI (xs (i + 1)).toInt, .ref (ad 60)]) (st := []) rfl rfl (Nat.le_of_ble_eq_true rfl) dL_law_308 (fun k1 σ1 hq => ?_)
  obtain ⟨k, z, u, hq, hk1, hk0, hc1, hm1, ho1⟩ := hq
  have eM : mM σ1 = mM σ := mM_cg hm1
  rw [← eM] at hq
  refine g_istore C 5 [(0, .ref b), (1, .ref (ad 0)), (2, .ref (ad 30)), (3, .ref (ad 60)), (4, vI (i : Int))] (by decide) rfl dL_law_311 ?_
  refine g_aload_n C 3 2 rfl rfl dL_law_313 ?_
  refine g_aload_n C 1 0 rfl rfl dL_law_314 ?_
  refine g_iload C 5 4 rfl dL_law_315 ?_
  refine g_iconst C dL_law_317 ?_
  refine g_iadd C dL_law_318 ?_
  refine g_sld C hX hbl hbA (i + 1) (hw 1 (by omega)) (by omega) dL_law_319 ?_
  refine g_callIvN C (lift_I embM zsM_in (CtI_cg (mM_ag σ1) (m_X9_choose l D cA (fun k => ad (30 + k)) hq))) hv_X9_choose tl_x84 (o := 30) (ci := 9) (As := [vI (xs (i + 1)).toInt]) (st := []) rfl rfl rfl rfl ⟨by show nc + 1 ≤ 601024; omega, by show ns + 6 ≤ 7293034; omega⟩ ⟨Nat.le_of_ble_eq_true rfl, Nat.le_of_ble_eq_true rfl⟩ rfl rfl (Nat.le_of_ble_eq_true rfl) dL_law_320 (fun r2 σ2 hq2 => ?_)
  obtain ⟨uM, ⟨t0, t1, t2⟩, e2⟩ := hq2
  subst e2
  refine g_istore C 6 [(5, vI k1), (0, .ref b), (1, .ref (ad 0)), (2, .ref (ad 30)), (3, .ref (ad 60)), (4, vI (i : Int))] (by decide) rfl dL_law_323 ?_
  have hth : wp_X9_thrown (fun r τ' => r = cdC k ∧ τ' = mM (put σ1 uM 30 shM.length)) (mM (put σ1 uM 30 shM.length)) := ⟨by rw [mM_in (by decide)]; exact (putM_in (o := 0) (by decide)).trans t0, rfl⟩
  refine g_aload_n C 4 2 rfl rfl dL_law_325 ?_
  refine g_callIvN C (lift_I embM zsM_in (CtI_cg (mM_ag (put σ1 uM 30 shM.length)) (m_X9_thrown l D cA (fun k => ad (30 + k)) hth))) hv_X9_thrown tl_x57 (o := 30) (ci := 9) (As := []) (st := []) rfl rfl rfl rfl ⟨by show nc + 1 ≤ 601024; omega, by show ns + 6 ≤ 7293034; omega⟩ ⟨Nat.le_of_ble_eq_true rfl, Nat.le_of_ble_eq_true rfl⟩ rfl rfl (Nat.le_of_ble_eq_true rfl) dL_law_326 (fun r3 σ3 hq3 => ?_)
  obtain ⟨u3, ⟨h3, h4⟩, e3⟩ := hq3
  subst h4
  rw [putM_self] at e3
  subst e3
  have inv := Inv_2 hc1 t2
  refine g_iload C 1 5 rfl dL_law_329 ?_
  refine g_icmp_eq C rfl rfl 336 (by decide) dL_law_331 (fun _ => ?_) (fun hc => absurd (by rw [h3, hk1]) hc)
  refine g_iload C 1 5 rfl dL_law_336 ?_
  refine g_if_ne C rfl 353 (by decide) dL_law_338 (fun _ => ?_) (fun h0 => ?_)
  · refine g_goto C 737 (by decide) dL_law_353 ?_
    exact g_pick [2, 3, 4, 5, 6] rfl (K _ inv)
  · have hk : k = 0 := hk0.elim id (fun q => absurd (by rw [hk1, w_cdC] at h0; exact h0) q)
    refine g_aload_n C 5 3 rfl rfl dL_law_341 ?_
    refine g_iconst C dL_law_342 ?_
    refine g_lald C (o := 60) (n := 1) (N := 1) (j := 0) rfl rfl (by decide) (by decide) dL_law_343 ?_
    refine g_iload C 0 6 rfl dL_law_344 ?_
    refine g_i2l C rfl dL_law_346 ?_
    refine g_lcmp C dL_law_347 ?_
    refine g_if_eq C rfl 353 (by decide) dL_law_348 (fun _ => ?_) (fun hc => absurd (by rw [putM_out (by decide), ho1 hk, t1 hk]; exact lCmp_self _) hc)
    refine g_goto C 737 (by decide) dL_law_353 ?_
    exact g_pick [2, 3, 4, 5, 6] rfl (K _ inv)
set_option maxRecDepth 100000 in
set_option maxHeartbeats 4000000 in
theorem law_use {p : Program} {l : Launch} {e : Env} {s : State} {m : MethodId} {below : List Frame} {meth : Method} {c : Code} {D : va_G} {cA : Nat → ClassId} {ad : Nat → Nat} {b L : Nat} {xs : Nat → Int32} (hst : l.stackTraces = false) (C : Cx p s m #[Value.ref b] c cL_law RL 7 D cA shA ad zsC) (TH : Th (A0 shA ad s.heap.size) s s.heap) (NK : Nk s) (hX : va_X b L xs s s.heap) (hbl : b < s.heap.size) (hbA : ¬ A0 shA ad s.heap.size b) (hL : L ≤ 3072) {i nc ns : Nat} (hi : i + 5 < L) (hnc : nc + 1 ≤ 601024) (hns : ns + 6 ≤ 7293034) {σ : St} (hI : R (fun o => σ (0 + o)) (mM σ)) (K : ∀ σ' : St, R (fun o => σ' (0 + o)) (mM σ') → G p l e room_1 s m #[Value.ref b] below meth c (nc + 1) (ns + 6) 7 D cA shA ad (lw_Z below #[Value.ref b] s) σ' [(0, .ref b), (1, .ref (ad 0)), (2, .ref (ad 30)), (3, .ref (ad 60)), (4, vI (i : Int))] [] 737) : G p l e room_1 s m #[Value.ref b] below meth c nc ns 7 D cA shA ad (lw_Z below #[Value.ref b] s) σ [(0, .ref b), (1, .ref (ad 0)), (2, .ref (ad 30)), (3, .ref (ad 60)), (4, vI (i : Int))] [] 356 := by
  have hw : ∀ k : Nat, k < 6 → w32 ((i : Int) + (k : Int)) = ((i + k : Nat) : Int) := fun k hk => by rw [w32_id (by omega) (by omega)]; omega
  refine g_aload_n C 1 1 rfl rfl dL_law_356 ?_
  refine g_aload_n C 0 0 rfl rfl dL_law_357 ?_
  refine g_iload C 4 4 rfl dL_law_358 ?_
  refine g_iconst C dL_law_360 ?_
  refine g_iadd C dL_law_361 ?_
  refine g_sld C hX hbl hbA (i + 1) (hw 1 (by omega)) (by omega) dL_law_362 ?_
  refine g_aload_n C 0 0 rfl rfl dL_law_363 ?_
  refine g_iload C 4 4 rfl dL_law_364 ?_
  refine g_iconst C dL_law_366 ?_
  refine g_iadd C dL_law_367 ?_
  refine g_sld C hX hbl hbA (i + 2) (hw 2 (by omega)) (by omega) dL_law_368 ?_
  refine g_aload_n C 3 3 rfl rfl dL_law_369 ?_
  refine g_callH C TH NK (m_L_use l hst D cA ad (R_use hI (xs_w _) (xs_w _))) hT_use tl_s85 rfl rfl ⟨Nat.le_of_ble_eq_true rfl, Nat.le_of_ble_eq_true rfl⟩ ⟨by show nc + 1 ≤ 601024; omega, by show ns + 6 ≤ 7293034; omega⟩ (As := [.ref (ad 0), vI (xs (i + 1)).toInt, vI (xs (i + 2)).toInt, .ref (ad 60)]) (st := []) rfl rfl (Nat.le_of_ble_eq_true rfl) dL_law_370 (fun k1 σ1 hq => ?_)
  obtain ⟨k, z, u, hq, hk1, hk0, hc1, hm1, ho1⟩ := hq
  have eM : mM σ1 = mM σ := mM_cg hm1
  rw [← eM] at hq
  refine g_istore C 5 [(0, .ref b), (1, .ref (ad 0)), (2, .ref (ad 30)), (3, .ref (ad 60)), (4, vI (i : Int))] (by decide) rfl dL_law_373 ?_
  refine g_aload_n C 3 2 rfl rfl dL_law_375 ?_
  refine g_aload_n C 1 0 rfl rfl dL_law_376 ?_
  refine g_iload C 5 4 rfl dL_law_377 ?_
  refine g_iconst C dL_law_379 ?_
  refine g_iadd C dL_law_380 ?_
  refine g_sld C hX hbl hbA (i + 1) (hw 1 (by omega)) (by omega) dL_law_381 ?_
  refine g_aload_n C 1 0 rfl rfl dL_law_382 ?_
  refine g_iload C 5 4 rfl dL_law_383 ?_
  refine g_iconst C dL_law_385 ?_
  refine g_iadd C dL_law_386 ?_
  refine g_sld C hX hbl hbA (i + 2) (hw 2 (by omega)) (by omega) dL_law_387 ?_
  refine g_callIvN C (lift_I embM zsM_in (CtI_cg (mM_ag σ1) (m_X9_use l D cA (fun k => ad (30 + k)) hq))) hv_X9_use tl_x88 (o := 30) (ci := 9) (As := [vI (xs (i + 1)).toInt, vI (xs (i + 2)).toInt]) (st := []) rfl rfl rfl rfl ⟨by show nc + 1 ≤ 601024; omega, by show ns + 6 ≤ 7293034; omega⟩ ⟨Nat.le_of_ble_eq_true rfl, Nat.le_of_ble_eq_true rfl⟩ rfl rfl (Nat.le_of_ble_eq_true rfl) dL_law_388 (fun r2 σ2 hq2 => ?_)
  obtain ⟨uM, ⟨t0, t1, t2⟩, e2⟩ := hq2
  subst e2
  refine g_istore C 6 [(5, vI k1), (0, .ref b), (1, .ref (ad 0)), (2, .ref (ad 30)), (3, .ref (ad 60)), (4, vI (i : Int))] (by decide) rfl dL_law_391 ?_
  have hth : wp_X9_thrown (fun r τ' => r = cdU k ∧ τ' = mM (put σ1 uM 30 shM.length)) (mM (put σ1 uM 30 shM.length)) := ⟨by rw [mM_in (by decide)]; exact (putM_in (o := 0) (by decide)).trans t0, rfl⟩
  refine g_aload_n C 4 2 rfl rfl dL_law_393 ?_
  refine g_callIvN C (lift_I embM zsM_in (CtI_cg (mM_ag (put σ1 uM 30 shM.length)) (m_X9_thrown l D cA (fun k => ad (30 + k)) hth))) hv_X9_thrown tl_x57 (o := 30) (ci := 9) (As := []) (st := []) rfl rfl rfl rfl ⟨by show nc + 1 ≤ 601024; omega, by show ns + 6 ≤ 7293034; omega⟩ ⟨Nat.le_of_ble_eq_true rfl, Nat.le_of_ble_eq_true rfl⟩ rfl rfl (Nat.le_of_ble_eq_true rfl) dL_law_394 (fun r3 σ3 hq3 => ?_)
  obtain ⟨u3, ⟨h3, h4⟩, e3⟩ := hq3
  subst h4
  rw [putM_self] at e3
  subst e3
  have inv := Inv_2 hc1 t2
  refine g_iload C 1 5 rfl dL_law_397 ?_
  refine g_icmp_eq C rfl rfl 404 (by decide) dL_law_399 (fun _ => ?_) (fun hc => absurd (by rw [h3, hk1]) hc)
  refine g_iload C 1 5 rfl dL_law_404 ?_
  refine g_if_ne C rfl 421 (by decide) dL_law_406 (fun _ => ?_) (fun h0 => ?_)
  · refine g_goto C 737 (by decide) dL_law_421 ?_
    exact g_pick [2, 3, 4, 5, 6] rfl (K _ inv)
  · have hk : k = 0 := hk0.elim id (fun q => absurd (by rw [hk1, w_cdU] at h0; exact h0) q)
    refine g_aload_n C 5 3 rfl rfl dL_law_409 ?_
    refine g_iconst C dL_law_410 ?_
    refine g_lald C (o := 60) (n := 1) (N := 1) (j := 0) rfl rfl (by decide) (by decide) dL_law_411 ?_
    refine g_iload C 0 6 rfl dL_law_412 ?_
    refine g_i2l C rfl dL_law_414 ?_
    refine g_lcmp C dL_law_415 ?_
    refine g_if_eq C rfl 421 (by decide) dL_law_416 (fun _ => ?_) (fun hc => absurd (by rw [putM_out (by decide), ho1 hk, t1 hk]; exact lCmp_self _) hc)
    refine g_goto C 737 (by decide) dL_law_421 ?_
    exact g_pick [2, 3, 4, 5, 6] rfl (K _ inv)
set_option maxRecDepth 100000 in
set_option maxHeartbeats 4000000 in
theorem law_whole {p : Program} {l : Launch} {e : Env} {s : State} {m : MethodId} {below : List Frame} {meth : Method} {c : Code} {D : va_G} {cA : Nat → ClassId} {ad : Nat → Nat} {b L : Nat} {xs : Nat → Int32} (hst : l.stackTraces = false) (C : Cx p s m #[Value.ref b] c cL_law RL 7 D cA shA ad zsC) (TH : Th (A0 shA ad s.heap.size) s s.heap) (NK : Nk s) (hX : va_X b L xs s s.heap) (hbl : b < s.heap.size) (hbA : ¬ A0 shA ad s.heap.size b) (hL : L ≤ 3072) {i nc ns : Nat} (hi : i + 5 < L) (hnc : nc + 1 ≤ 601024) (hns : ns + 6 ≤ 7293034) {σ : St} (hI : R (fun o => σ (0 + o)) (mM σ)) (K : ∀ σ' : St, R (fun o => σ' (0 + o)) (mM σ') → G p l e room_1 s m #[Value.ref b] below meth c (nc + 1) (ns + 6) 7 D cA shA ad (lw_Z below #[Value.ref b] s) σ' [(0, .ref b), (1, .ref (ad 0)), (2, .ref (ad 30)), (3, .ref (ad 60)), (4, vI (i : Int))] [] 737) : G p l e room_1 s m #[Value.ref b] below meth c nc ns 7 D cA shA ad (lw_Z below #[Value.ref b] s) σ [(0, .ref b), (1, .ref (ad 0)), (2, .ref (ad 30)), (3, .ref (ad 60)), (4, vI (i : Int))] [] 424 := by
  have hw : ∀ k : Nat, k < 6 → w32 ((i : Int) + (k : Int)) = ((i + k : Nat) : Int) := fun k hk => by rw [w32_id (by omega) (by omega)]; omega
  refine g_aload_n C 1 1 rfl rfl dL_law_424 ?_
  refine g_aload_n C 0 0 rfl rfl dL_law_425 ?_
  refine g_iload C 4 4 rfl dL_law_426 ?_
  refine g_iconst C dL_law_428 ?_
  refine g_iadd C dL_law_429 ?_
  refine g_sld C hX hbl hbA (i + 1) (hw 1 (by omega)) (by omega) dL_law_430 ?_
  refine g_aload_n C 0 0 rfl rfl dL_law_431 ?_
  refine g_iload C 4 4 rfl dL_law_432 ?_
  refine g_iconst C dL_law_434 ?_
  refine g_iadd C dL_law_435 ?_
  refine g_sld C hX hbl hbA (i + 2) (hw 2 (by omega)) (by omega) dL_law_436 ?_
  refine g_aload_n C 3 3 rfl rfl dL_law_437 ?_
  refine g_callH C TH NK (m_L_whole l hst D cA ad (R_whole hI (xs_w _) (xs_w _))) hT_whole tl_s89 rfl rfl ⟨Nat.le_of_ble_eq_true rfl, Nat.le_of_ble_eq_true rfl⟩ ⟨by show nc + 1 ≤ 601024; omega, by show ns + 6 ≤ 7293034; omega⟩ (As := [.ref (ad 0), vI (xs (i + 1)).toInt, vI (xs (i + 2)).toInt, .ref (ad 60)]) (st := []) rfl rfl (Nat.le_of_ble_eq_true rfl) dL_law_438 (fun k1 σ1 hq => ?_)
  obtain ⟨k, z, u, hq, hk1, hk0, hc1, hm1, ho1⟩ := hq
  have eM : mM σ1 = mM σ := mM_cg hm1
  rw [← eM] at hq
  refine g_istore C 5 [(0, .ref b), (1, .ref (ad 0)), (2, .ref (ad 30)), (3, .ref (ad 60)), (4, vI (i : Int))] (by decide) rfl dL_law_441 ?_
  refine g_aload_n C 3 2 rfl rfl dL_law_443 ?_
  refine g_aload_n C 1 0 rfl rfl dL_law_444 ?_
  refine g_iload C 5 4 rfl dL_law_445 ?_
  refine g_iconst C dL_law_447 ?_
  refine g_iadd C dL_law_448 ?_
  refine g_sld C hX hbl hbA (i + 1) (hw 1 (by omega)) (by omega) dL_law_449 ?_
  refine g_aload_n C 1 0 rfl rfl dL_law_450 ?_
  refine g_iload C 5 4 rfl dL_law_451 ?_
  refine g_iconst C dL_law_453 ?_
  refine g_iadd C dL_law_454 ?_
  refine g_sld C hX hbl hbA (i + 2) (hw 2 (by omega)) (by omega) dL_law_455 ?_
  refine g_callIvN C (lift_I embM zsM_in (CtI_cg (mM_ag σ1) (m_X9_whole l D cA (fun k => ad (30 + k)) hq))) hv_X9_whole tl_x91 (o := 30) (ci := 9) (As := [vI (xs (i + 1)).toInt, vI (xs (i + 2)).toInt]) (st := []) rfl rfl rfl rfl ⟨by show nc + 1 ≤ 601024; omega, by show ns + 6 ≤ 7293034; omega⟩ ⟨Nat.le_of_ble_eq_true rfl, Nat.le_of_ble_eq_true rfl⟩ rfl rfl (Nat.le_of_ble_eq_true rfl) dL_law_456 (fun r2 σ2 hq2 => ?_)
  obtain ⟨uM, ⟨t0, t1, t2⟩, e2⟩ := hq2
  subst e2
  refine g_istore C 6 [(5, vI k1), (0, .ref b), (1, .ref (ad 0)), (2, .ref (ad 30)), (3, .ref (ad 60)), (4, vI (i : Int))] (by decide) rfl dL_law_459 ?_
  have hth : wp_X9_thrown (fun r τ' => r = cdU k ∧ τ' = mM (put σ1 uM 30 shM.length)) (mM (put σ1 uM 30 shM.length)) := ⟨by rw [mM_in (by decide)]; exact (putM_in (o := 0) (by decide)).trans t0, rfl⟩
  refine g_aload_n C 4 2 rfl rfl dL_law_461 ?_
  refine g_callIvN C (lift_I embM zsM_in (CtI_cg (mM_ag (put σ1 uM 30 shM.length)) (m_X9_thrown l D cA (fun k => ad (30 + k)) hth))) hv_X9_thrown tl_x57 (o := 30) (ci := 9) (As := []) (st := []) rfl rfl rfl rfl ⟨by show nc + 1 ≤ 601024; omega, by show ns + 6 ≤ 7293034; omega⟩ ⟨Nat.le_of_ble_eq_true rfl, Nat.le_of_ble_eq_true rfl⟩ rfl rfl (Nat.le_of_ble_eq_true rfl) dL_law_462 (fun r3 σ3 hq3 => ?_)
  obtain ⟨u3, ⟨h3, h4⟩, e3⟩ := hq3
  subst h4
  rw [putM_self] at e3
  subst e3
  have inv := Inv_2 hc1 t2
  refine g_iload C 1 5 rfl dL_law_465 ?_
  refine g_icmp_eq C rfl rfl 472 (by decide) dL_law_467 (fun _ => ?_) (fun hc => absurd (by rw [h3, hk1]) hc)
  refine g_iload C 1 5 rfl dL_law_472 ?_
  refine g_if_ne C rfl 489 (by decide) dL_law_474 (fun _ => ?_) (fun h0 => ?_)
  · refine g_goto C 737 (by decide) dL_law_489 ?_
    exact g_pick [2, 3, 4, 5, 6] rfl (K _ inv)
  · have hk : k = 0 := hk0.elim id (fun q => absurd (by rw [hk1, w_cdU] at h0; exact h0) q)
    refine g_aload_n C 5 3 rfl rfl dL_law_477 ?_
    refine g_iconst C dL_law_478 ?_
    refine g_lald C (o := 60) (n := 1) (N := 1) (j := 0) rfl rfl (by decide) (by decide) dL_law_479 ?_
    refine g_iload C 0 6 rfl dL_law_480 ?_
    refine g_i2l C rfl dL_law_482 ?_
    refine g_lcmp C dL_law_483 ?_
    refine g_if_eq C rfl 489 (by decide) dL_law_484 (fun _ => ?_) (fun hc => absurd (by rw [putM_out (by decide), ho1 hk, t1 hk]; exact lCmp_self _) hc)
    refine g_goto C 737 (by decide) dL_law_489 ?_
    exact g_pick [2, 3, 4, 5, 6] rfl (K _ inv)
set_option maxRecDepth 100000 in
set_option maxHeartbeats 4000000 in
theorem law_node {p : Program} {l : Launch} {e : Env} {s : State} {m : MethodId} {below : List Frame} {meth : Method} {c : Code} {D : va_G} {cA : Nat → ClassId} {ad : Nat → Nat} {b L : Nat} {xs : Nat → Int32} (hst : l.stackTraces = false) (C : Cx p s m #[Value.ref b] c cL_law RL 7 D cA shA ad zsC) (TH : Th (A0 shA ad s.heap.size) s s.heap) (NK : Nk s) (hX : va_X b L xs s s.heap) (hbl : b < s.heap.size) (hbA : ¬ A0 shA ad s.heap.size b) (hL : L ≤ 3072) {i nc ns : Nat} (hi : i + 5 < L) (hnc : nc + 1 ≤ 601024) (hns : ns + 6 ≤ 7293034) {σ : St} (hI : R (fun o => σ (0 + o)) (mM σ)) (K : ∀ σ' : St, R (fun o => σ' (0 + o)) (mM σ') → G p l e room_1 s m #[Value.ref b] below meth c (nc + 1) (ns + 6) 7 D cA shA ad (lw_Z below #[Value.ref b] s) σ' [(0, .ref b), (1, .ref (ad 0)), (2, .ref (ad 30)), (3, .ref (ad 60)), (4, vI (i : Int))] [] 737) : G p l e room_1 s m #[Value.ref b] below meth c nc ns 7 D cA shA ad (lw_Z below #[Value.ref b] s) σ [(0, .ref b), (1, .ref (ad 0)), (2, .ref (ad 30)), (3, .ref (ad 60)), (4, vI (i : Int))] [] 492 := by
  have hw : ∀ k : Nat, k < 6 → w32 ((i : Int) + (k : Int)) = ((i + k : Nat) : Int) := fun k hk => by rw [w32_id (by omega) (by omega)]; omega
  refine g_aload_n C 1 1 rfl rfl dL_law_492 ?_
  refine g_aload_n C 0 0 rfl rfl dL_law_493 ?_
  refine g_iload C 4 4 rfl dL_law_494 ?_
  refine g_iconst C dL_law_496 ?_
  refine g_iadd C dL_law_497 ?_
  refine g_sld C hX hbl hbA (i + 1) (hw 1 (by omega)) (by omega) dL_law_498 ?_
  refine g_aload_n C 0 0 rfl rfl dL_law_499 ?_
  refine g_iload C 4 4 rfl dL_law_500 ?_
  refine g_iconst C dL_law_502 ?_
  refine g_iadd C dL_law_503 ?_
  refine g_sld C hX hbl hbA (i + 2) (hw 2 (by omega)) (by omega) dL_law_504 ?_
  refine g_aload_n C 0 0 rfl rfl dL_law_505 ?_
  refine g_iload C 4 4 rfl dL_law_506 ?_
  refine g_iconst C dL_law_508 ?_
  refine g_iadd C dL_law_509 ?_
  refine g_sld C hX hbl hbA (i + 3) (hw 3 (by omega)) (by omega) dL_law_510 ?_
  refine g_aload_n C 3 3 rfl rfl dL_law_511 ?_
  refine g_callH C TH NK (m_L_node l hst D cA ad (R_node hI (xs_w _) (xs_w _) (xs_w _))) hT_node tl_s92 rfl rfl ⟨Nat.le_of_ble_eq_true rfl, Nat.le_of_ble_eq_true rfl⟩ ⟨by show nc + 1 ≤ 601024; omega, by show ns + 6 ≤ 7293034; omega⟩ (As := [.ref (ad 0), vI (xs (i + 1)).toInt, vI (xs (i + 2)).toInt, vI (xs (i + 3)).toInt, .ref (ad 60)]) (st := []) rfl rfl (Nat.le_of_ble_eq_true rfl) dL_law_512 (fun k1 σ1 hq => ?_)
  obtain ⟨k, z, u, hq, hk1, hk0, hc1, hm1, ho1⟩ := hq
  have eM : mM σ1 = mM σ := mM_cg hm1
  rw [← eM] at hq
  refine g_istore C 5 [(0, .ref b), (1, .ref (ad 0)), (2, .ref (ad 30)), (3, .ref (ad 60)), (4, vI (i : Int))] (by decide) rfl dL_law_515 ?_
  refine g_aload_n C 3 2 rfl rfl dL_law_517 ?_
  refine g_aload_n C 1 0 rfl rfl dL_law_518 ?_
  refine g_iload C 5 4 rfl dL_law_519 ?_
  refine g_iconst C dL_law_521 ?_
  refine g_iadd C dL_law_522 ?_
  refine g_sld C hX hbl hbA (i + 1) (hw 1 (by omega)) (by omega) dL_law_523 ?_
  refine g_aload_n C 1 0 rfl rfl dL_law_524 ?_
  refine g_iload C 5 4 rfl dL_law_525 ?_
  refine g_iconst C dL_law_527 ?_
  refine g_iadd C dL_law_528 ?_
  refine g_sld C hX hbl hbA (i + 2) (hw 2 (by omega)) (by omega) dL_law_529 ?_
  refine g_aload_n C 1 0 rfl rfl dL_law_530 ?_
  refine g_iload C 5 4 rfl dL_law_531 ?_
  refine g_iconst C dL_law_533 ?_
  refine g_iadd C dL_law_534 ?_
  refine g_sld C hX hbl hbA (i + 3) (hw 3 (by omega)) (by omega) dL_law_535 ?_
  refine g_callIvN C (lift_I embM zsM_in (CtI_cg (mM_ag σ1) (m_X9_node l D cA (fun k => ad (30 + k)) hq))) hv_X9_node tl_x95 (o := 30) (ci := 9) (As := [vI (xs (i + 1)).toInt, vI (xs (i + 2)).toInt, vI (xs (i + 3)).toInt]) (st := []) rfl rfl rfl rfl ⟨by show nc + 1 ≤ 601024; omega, by show ns + 6 ≤ 7293034; omega⟩ ⟨Nat.le_of_ble_eq_true rfl, Nat.le_of_ble_eq_true rfl⟩ rfl rfl (Nat.le_of_ble_eq_true rfl) dL_law_536 (fun r2 σ2 hq2 => ?_)
  obtain ⟨uM, ⟨t0, t1, t2⟩, e2⟩ := hq2
  subst e2
  refine g_istore C 6 [(5, vI k1), (0, .ref b), (1, .ref (ad 0)), (2, .ref (ad 30)), (3, .ref (ad 60)), (4, vI (i : Int))] (by decide) rfl dL_law_539 ?_
  have hth : wp_X9_thrown (fun r τ' => r = cdU k ∧ τ' = mM (put σ1 uM 30 shM.length)) (mM (put σ1 uM 30 shM.length)) := ⟨by rw [mM_in (by decide)]; exact (putM_in (o := 0) (by decide)).trans t0, rfl⟩
  refine g_aload_n C 4 2 rfl rfl dL_law_541 ?_
  refine g_callIvN C (lift_I embM zsM_in (CtI_cg (mM_ag (put σ1 uM 30 shM.length)) (m_X9_thrown l D cA (fun k => ad (30 + k)) hth))) hv_X9_thrown tl_x57 (o := 30) (ci := 9) (As := []) (st := []) rfl rfl rfl rfl ⟨by show nc + 1 ≤ 601024; omega, by show ns + 6 ≤ 7293034; omega⟩ ⟨Nat.le_of_ble_eq_true rfl, Nat.le_of_ble_eq_true rfl⟩ rfl rfl (Nat.le_of_ble_eq_true rfl) dL_law_542 (fun r3 σ3 hq3 => ?_)
  obtain ⟨u3, ⟨h3, h4⟩, e3⟩ := hq3
  subst h4
  rw [putM_self] at e3
  subst e3
  have inv := Inv_2 hc1 t2
  refine g_iload C 1 5 rfl dL_law_545 ?_
  refine g_icmp_eq C rfl rfl 552 (by decide) dL_law_547 (fun _ => ?_) (fun hc => absurd (by rw [h3, hk1]) hc)
  refine g_iload C 1 5 rfl dL_law_552 ?_
  refine g_if_ne C rfl 569 (by decide) dL_law_554 (fun _ => ?_) (fun h0 => ?_)
  · refine g_goto C 737 (by decide) dL_law_569 ?_
    exact g_pick [2, 3, 4, 5, 6] rfl (K _ inv)
  · have hk : k = 0 := hk0.elim id (fun q => absurd (by rw [hk1, w_cdU] at h0; exact h0) q)
    refine g_aload_n C 5 3 rfl rfl dL_law_557 ?_
    refine g_iconst C dL_law_558 ?_
    refine g_lald C (o := 60) (n := 1) (N := 1) (j := 0) rfl rfl (by decide) (by decide) dL_law_559 ?_
    refine g_iload C 0 6 rfl dL_law_560 ?_
    refine g_i2l C rfl dL_law_562 ?_
    refine g_lcmp C dL_law_563 ?_
    refine g_if_eq C rfl 569 (by decide) dL_law_564 (fun _ => ?_) (fun hc => absurd (by rw [putM_out (by decide), ho1 hk, t1 hk]; exact lCmp_self _) hc)
    refine g_goto C 737 (by decide) dL_law_569 ?_
    exact g_pick [2, 3, 4, 5, 6] rfl (K _ inv)
set_option maxRecDepth 100000 in
set_option maxHeartbeats 4000000 in
theorem law_letter0 {p : Program} {l : Launch} {e : Env} {s : State} {m : MethodId} {below : List Frame} {meth : Method} {c : Code} {D : va_G} {cA : Nat → ClassId} {ad : Nat → Nat} {b L : Nat} {xs : Nat → Int32} (hst : l.stackTraces = false) (C : Cx p s m #[Value.ref b] c cL_law RL 7 D cA shA ad zsC) (TH : Th (A0 shA ad s.heap.size) s s.heap) (NK : Nk s) (hX : va_X b L xs s s.heap) (hbl : b < s.heap.size) (hbA : ¬ A0 shA ad s.heap.size b) (hL : L ≤ 3072) {i nc ns : Nat} (hi : i + 5 < L) (hnc : nc + 1 ≤ 601024) (hns : ns + 6 ≤ 7293034) {σ : St} (hI : R (fun o => σ (0 + o)) (mM σ)) (hb1 : (xs (i + 1)).toInt = 0) (K : ∀ σ' : St, R (fun o => σ' (0 + o)) (mM σ') → G p l e room_1 s m #[Value.ref b] below meth c (nc + 1) (ns + 6) 7 D cA shA ad (lw_Z below #[Value.ref b] s) σ' [(0, .ref b), (1, .ref (ad 0)), (2, .ref (ad 30)), (3, .ref (ad 60)), (4, vI (i : Int))] [] 737) : G p l e room_1 s m #[Value.ref b] below meth c nc ns 7 D cA shA ad (lw_Z below #[Value.ref b] s) σ [(0, .ref b), (1, .ref (ad 0)), (2, .ref (ad 30)), (3, .ref (ad 60)), (4, vI (i : Int))] [] 572 := by
  have hw : ∀ k : Nat, k < 6 → w32 ((i : Int) + (k : Int)) = ((i + k : Nat) : Int) := fun k hk => by rw [w32_id (by omega) (by omega)]; omega
  refine g_aload_n C 1 1 rfl rfl dL_law_572 ?_
  refine g_aload_n C 0 0 rfl rfl dL_law_573 ?_
  refine g_iload C 4 4 rfl dL_law_574 ?_
  refine g_iconst C dL_law_576 ?_
  refine g_iadd C dL_law_577 ?_
  refine g_sld C hX hbl hbA (i + 1) (hw 1 (by omega)) (by omega) dL_law_578 ?_
  refine g_if_eq C (xs_w _) 586 (by decide) dL_law_579 (fun _ => ?_) (fun hc => absurd hb1 hc)
  refine g_iconst C dL_law_586 ?_
  refine g_aload_n C 0 0 rfl rfl dL_law_587 ?_
  refine g_iload C 4 4 rfl dL_law_588 ?_
  refine g_iconst C dL_law_590 ?_
  refine g_iadd C dL_law_591 ?_
  refine g_sld C hX hbl hbA (i + 2) (hw 2 (by omega)) (by omega) dL_law_592 ?_
  refine g_aload_n C 0 0 rfl rfl dL_law_593 ?_
  refine g_iload C 4 4 rfl dL_law_594 ?_
  refine g_iconst C dL_law_596 ?_
  refine g_iadd C dL_law_597 ?_
  refine g_sld C hX hbl hbA (i + 3) (hw 3 (by omega)) (by omega) dL_law_598 ?_
  refine g_aload_n C 3 3 rfl rfl dL_law_599 ?_
  refine g_callH C TH NK (m_L_letter l hst D cA ad (R_letter hI (by decide) (xs_w _) (xs_w _))) hT_letter tl_s96 rfl rfl ⟨Nat.le_of_ble_eq_true rfl, Nat.le_of_ble_eq_true rfl⟩ ⟨by show nc + 1 ≤ 601024; omega, by show ns + 6 ≤ 7293034; omega⟩ (As := [.ref (ad 0), vI 0, vI (xs (i + 2)).toInt, vI (xs (i + 3)).toInt, .ref (ad 60)]) (st := []) rfl rfl (Nat.le_of_ble_eq_true rfl) dL_law_600 (fun k1 σ1 hq => ?_)
  obtain ⟨k, z, u, hq, hk1, hk0, hc1, hm1, ho1⟩ := hq
  have eM : mM σ1 = mM σ := mM_cg hm1
  rw [← eM] at hq
  refine g_istore C 5 [(0, .ref b), (1, .ref (ad 0)), (2, .ref (ad 30)), (3, .ref (ad 60)), (4, vI (i : Int))] (by decide) rfl dL_law_603 ?_
  refine g_aload_n C 3 2 rfl rfl dL_law_605 ?_
  refine g_aload_n C 1 0 rfl rfl dL_law_606 ?_
  refine g_iload C 5 4 rfl dL_law_607 ?_
  refine g_iconst C dL_law_609 ?_
  refine g_iadd C dL_law_610 ?_
  refine g_sld C hX hbl hbA (i + 1) (hw 1 (by omega)) (by omega) dL_law_611 ?_
  refine g_if_eq C (xs_w _) 619 (by decide) dL_law_612 (fun _ => ?_) (fun hc => absurd hb1 hc)
  refine g_iconst C dL_law_619 ?_
  refine g_aload_n C 1 0 rfl rfl dL_law_620 ?_
  refine g_iload C 5 4 rfl dL_law_621 ?_
  refine g_iconst C dL_law_623 ?_
  refine g_iadd C dL_law_624 ?_
  refine g_sld C hX hbl hbA (i + 2) (hw 2 (by omega)) (by omega) dL_law_625 ?_
  refine g_aload_n C 1 0 rfl rfl dL_law_626 ?_
  refine g_iload C 5 4 rfl dL_law_627 ?_
  refine g_iconst C dL_law_629 ?_
  refine g_iadd C dL_law_630 ?_
  refine g_sld C hX hbl hbA (i + 3) (hw 3 (by omega)) (by omega) dL_law_631 ?_
  refine g_callIvN C (lift_I embM zsM_in (CtI_cg (mM_ag σ1) (m_X9_letter l D cA (fun k => ad (30 + k)) hq))) hv_X9_letter tl_x99 (o := 30) (ci := 9) (As := [vI 0, vI (xs (i + 2)).toInt, vI (xs (i + 3)).toInt]) (st := []) rfl rfl rfl rfl ⟨by show nc + 1 ≤ 601024; omega, by show ns + 6 ≤ 7293034; omega⟩ ⟨Nat.le_of_ble_eq_true rfl, Nat.le_of_ble_eq_true rfl⟩ rfl rfl (Nat.le_of_ble_eq_true rfl) dL_law_632 (fun r2 σ2 hq2 => ?_)
  obtain ⟨uM, ⟨t0, t1, t2⟩, e2⟩ := hq2
  subst e2
  refine g_istore C 6 [(5, vI k1), (0, .ref b), (1, .ref (ad 0)), (2, .ref (ad 30)), (3, .ref (ad 60)), (4, vI (i : Int))] (by decide) rfl dL_law_635 ?_
  have hth : wp_X9_thrown (fun r τ' => r = cd1 k ∧ τ' = mM (put σ1 uM 30 shM.length)) (mM (put σ1 uM 30 shM.length)) := ⟨by rw [mM_in (by decide)]; exact (putM_in (o := 0) (by decide)).trans t0, rfl⟩
  refine g_aload_n C 4 2 rfl rfl dL_law_637 ?_
  refine g_callIvN C (lift_I embM zsM_in (CtI_cg (mM_ag (put σ1 uM 30 shM.length)) (m_X9_thrown l D cA (fun k => ad (30 + k)) hth))) hv_X9_thrown tl_x57 (o := 30) (ci := 9) (As := []) (st := []) rfl rfl rfl rfl ⟨by show nc + 1 ≤ 601024; omega, by show ns + 6 ≤ 7293034; omega⟩ ⟨Nat.le_of_ble_eq_true rfl, Nat.le_of_ble_eq_true rfl⟩ rfl rfl (Nat.le_of_ble_eq_true rfl) dL_law_638 (fun r3 σ3 hq3 => ?_)
  obtain ⟨u3, ⟨h3, h4⟩, e3⟩ := hq3
  subst h4
  rw [putM_self] at e3
  subst e3
  have inv := Inv_2 hc1 t2
  refine g_iload C 1 5 rfl dL_law_641 ?_
  refine g_icmp_eq C rfl rfl 648 (by decide) dL_law_643 (fun _ => ?_) (fun hc => absurd (by rw [h3, hk1]) hc)
  refine g_iload C 1 5 rfl dL_law_648 ?_
  refine g_if_ne C rfl 665 (by decide) dL_law_650 (fun _ => ?_) (fun h0 => ?_)
  · refine g_goto C 737 (by decide) dL_law_665 ?_
    exact g_pick [2, 3, 4, 5, 6] rfl (K _ inv)
  · have hk : k = 0 := hk0.elim id (fun q => absurd (by rw [hk1, w_cd1] at h0; exact h0) q)
    refine g_aload_n C 5 3 rfl rfl dL_law_653 ?_
    refine g_iconst C dL_law_654 ?_
    refine g_lald C (o := 60) (n := 1) (N := 1) (j := 0) rfl rfl (by decide) (by decide) dL_law_655 ?_
    refine g_iload C 0 6 rfl dL_law_656 ?_
    refine g_i2l C rfl dL_law_658 ?_
    refine g_lcmp C dL_law_659 ?_
    refine g_if_eq C rfl 665 (by decide) dL_law_660 (fun _ => ?_) (fun hc => absurd (by rw [putM_out (by decide), ho1 hk, t1 hk]; exact lCmp_self _) hc)
    refine g_goto C 737 (by decide) dL_law_665 ?_
    exact g_pick [2, 3, 4, 5, 6] rfl (K _ inv)
set_option maxRecDepth 100000 in
set_option maxHeartbeats 4000000 in
theorem law_letter1 {p : Program} {l : Launch} {e : Env} {s : State} {m : MethodId} {below : List Frame} {meth : Method} {c : Code} {D : va_G} {cA : Nat → ClassId} {ad : Nat → Nat} {b L : Nat} {xs : Nat → Int32} (hst : l.stackTraces = false) (C : Cx p s m #[Value.ref b] c cL_law RL 7 D cA shA ad zsC) (TH : Th (A0 shA ad s.heap.size) s s.heap) (NK : Nk s) (hX : va_X b L xs s s.heap) (hbl : b < s.heap.size) (hbA : ¬ A0 shA ad s.heap.size b) (hL : L ≤ 3072) {i nc ns : Nat} (hi : i + 5 < L) (hnc : nc + 1 ≤ 601024) (hns : ns + 6 ≤ 7293034) {σ : St} (hI : R (fun o => σ (0 + o)) (mM σ)) (hb1 : ¬ (xs (i + 1)).toInt = 0) (K : ∀ σ' : St, R (fun o => σ' (0 + o)) (mM σ') → G p l e room_1 s m #[Value.ref b] below meth c (nc + 1) (ns + 6) 7 D cA shA ad (lw_Z below #[Value.ref b] s) σ' [(0, .ref b), (1, .ref (ad 0)), (2, .ref (ad 30)), (3, .ref (ad 60)), (4, vI (i : Int))] [] 737) : G p l e room_1 s m #[Value.ref b] below meth c nc ns 7 D cA shA ad (lw_Z below #[Value.ref b] s) σ [(0, .ref b), (1, .ref (ad 0)), (2, .ref (ad 30)), (3, .ref (ad 60)), (4, vI (i : Int))] [] 572 := by
  have hw : ∀ k : Nat, k < 6 → w32 ((i : Int) + (k : Int)) = ((i + k : Nat) : Int) := fun k hk => by rw [w32_id (by omega) (by omega)]; omega
  refine g_aload_n C 1 1 rfl rfl dL_law_572 ?_
  refine g_aload_n C 0 0 rfl rfl dL_law_573 ?_
  refine g_iload C 4 4 rfl dL_law_574 ?_
  refine g_iconst C dL_law_576 ?_
  refine g_iadd C dL_law_577 ?_
  refine g_sld C hX hbl hbA (i + 1) (hw 1 (by omega)) (by omega) dL_law_578 ?_
  refine g_if_eq C (xs_w _) 586 (by decide) dL_law_579 (fun hc => absurd hc hb1) (fun _ => ?_)
  refine g_iconst C dL_law_582 ?_
  refine g_goto C 587 (by decide) dL_law_583 ?_
  refine g_aload_n C 0 0 rfl rfl dL_law_587 ?_
  refine g_iload C 4 4 rfl dL_law_588 ?_
  refine g_iconst C dL_law_590 ?_
  refine g_iadd C dL_law_591 ?_
  refine g_sld C hX hbl hbA (i + 2) (hw 2 (by omega)) (by omega) dL_law_592 ?_
  refine g_aload_n C 0 0 rfl rfl dL_law_593 ?_
  refine g_iload C 4 4 rfl dL_law_594 ?_
  refine g_iconst C dL_law_596 ?_
  refine g_iadd C dL_law_597 ?_
  refine g_sld C hX hbl hbA (i + 3) (hw 3 (by omega)) (by omega) dL_law_598 ?_
  refine g_aload_n C 3 3 rfl rfl dL_law_599 ?_
  refine g_callH C TH NK (m_L_letter l hst D cA ad (R_letter hI (by decide) (xs_w _) (xs_w _))) hT_letter tl_s96 rfl rfl ⟨Nat.le_of_ble_eq_true rfl, Nat.le_of_ble_eq_true rfl⟩ ⟨by show nc + 1 ≤ 601024; omega, by show ns + 6 ≤ 7293034; omega⟩ (As := [.ref (ad 0), vI 1, vI (xs (i + 2)).toInt, vI (xs (i + 3)).toInt, .ref (ad 60)]) (st := []) rfl rfl (Nat.le_of_ble_eq_true rfl) dL_law_600 (fun k1 σ1 hq => ?_)
  obtain ⟨k, z, u, hq, hk1, hk0, hc1, hm1, ho1⟩ := hq
  have eM : mM σ1 = mM σ := mM_cg hm1
  rw [← eM] at hq
  refine g_istore C 5 [(0, .ref b), (1, .ref (ad 0)), (2, .ref (ad 30)), (3, .ref (ad 60)), (4, vI (i : Int))] (by decide) rfl dL_law_603 ?_
  refine g_aload_n C 3 2 rfl rfl dL_law_605 ?_
  refine g_aload_n C 1 0 rfl rfl dL_law_606 ?_
  refine g_iload C 5 4 rfl dL_law_607 ?_
  refine g_iconst C dL_law_609 ?_
  refine g_iadd C dL_law_610 ?_
  refine g_sld C hX hbl hbA (i + 1) (hw 1 (by omega)) (by omega) dL_law_611 ?_
  refine g_if_eq C (xs_w _) 619 (by decide) dL_law_612 (fun hc => absurd hc hb1) (fun _ => ?_)
  refine g_iconst C dL_law_615 ?_
  refine g_goto C 620 (by decide) dL_law_616 ?_
  refine g_aload_n C 1 0 rfl rfl dL_law_620 ?_
  refine g_iload C 5 4 rfl dL_law_621 ?_
  refine g_iconst C dL_law_623 ?_
  refine g_iadd C dL_law_624 ?_
  refine g_sld C hX hbl hbA (i + 2) (hw 2 (by omega)) (by omega) dL_law_625 ?_
  refine g_aload_n C 1 0 rfl rfl dL_law_626 ?_
  refine g_iload C 5 4 rfl dL_law_627 ?_
  refine g_iconst C dL_law_629 ?_
  refine g_iadd C dL_law_630 ?_
  refine g_sld C hX hbl hbA (i + 3) (hw 3 (by omega)) (by omega) dL_law_631 ?_
  refine g_callIvN C (lift_I embM zsM_in (CtI_cg (mM_ag σ1) (m_X9_letter l D cA (fun k => ad (30 + k)) hq))) hv_X9_letter tl_x99 (o := 30) (ci := 9) (As := [vI 1, vI (xs (i + 2)).toInt, vI (xs (i + 3)).toInt]) (st := []) rfl rfl rfl rfl ⟨by show nc + 1 ≤ 601024; omega, by show ns + 6 ≤ 7293034; omega⟩ ⟨Nat.le_of_ble_eq_true rfl, Nat.le_of_ble_eq_true rfl⟩ rfl rfl (Nat.le_of_ble_eq_true rfl) dL_law_632 (fun r2 σ2 hq2 => ?_)
  obtain ⟨uM, ⟨t0, t1, t2⟩, e2⟩ := hq2
  subst e2
  refine g_istore C 6 [(5, vI k1), (0, .ref b), (1, .ref (ad 0)), (2, .ref (ad 30)), (3, .ref (ad 60)), (4, vI (i : Int))] (by decide) rfl dL_law_635 ?_
  have hth : wp_X9_thrown (fun r τ' => r = cd1 k ∧ τ' = mM (put σ1 uM 30 shM.length)) (mM (put σ1 uM 30 shM.length)) := ⟨by rw [mM_in (by decide)]; exact (putM_in (o := 0) (by decide)).trans t0, rfl⟩
  refine g_aload_n C 4 2 rfl rfl dL_law_637 ?_
  refine g_callIvN C (lift_I embM zsM_in (CtI_cg (mM_ag (put σ1 uM 30 shM.length)) (m_X9_thrown l D cA (fun k => ad (30 + k)) hth))) hv_X9_thrown tl_x57 (o := 30) (ci := 9) (As := []) (st := []) rfl rfl rfl rfl ⟨by show nc + 1 ≤ 601024; omega, by show ns + 6 ≤ 7293034; omega⟩ ⟨Nat.le_of_ble_eq_true rfl, Nat.le_of_ble_eq_true rfl⟩ rfl rfl (Nat.le_of_ble_eq_true rfl) dL_law_638 (fun r3 σ3 hq3 => ?_)
  obtain ⟨u3, ⟨h3, h4⟩, e3⟩ := hq3
  subst h4
  rw [putM_self] at e3
  subst e3
  have inv := Inv_2 hc1 t2
  refine g_iload C 1 5 rfl dL_law_641 ?_
  refine g_icmp_eq C rfl rfl 648 (by decide) dL_law_643 (fun _ => ?_) (fun hc => absurd (by rw [h3, hk1]) hc)
  refine g_iload C 1 5 rfl dL_law_648 ?_
  refine g_if_ne C rfl 665 (by decide) dL_law_650 (fun _ => ?_) (fun h0 => ?_)
  · refine g_goto C 737 (by decide) dL_law_665 ?_
    exact g_pick [2, 3, 4, 5, 6] rfl (K _ inv)
  · have hk : k = 0 := hk0.elim id (fun q => absurd (by rw [hk1, w_cd1] at h0; exact h0) q)
    refine g_aload_n C 5 3 rfl rfl dL_law_653 ?_
    refine g_iconst C dL_law_654 ?_
    refine g_lald C (o := 60) (n := 1) (N := 1) (j := 0) rfl rfl (by decide) (by decide) dL_law_655 ?_
    refine g_iload C 0 6 rfl dL_law_656 ?_
    refine g_i2l C rfl dL_law_658 ?_
    refine g_lcmp C dL_law_659 ?_
    refine g_if_eq C rfl 665 (by decide) dL_law_660 (fun _ => ?_) (fun hc => absurd (by rw [putM_out (by decide), ho1 hk, t1 hk]; exact lCmp_self _) hc)
    refine g_goto C 737 (by decide) dL_law_665 ?_
    exact g_pick [2, 3, 4, 5, 6] rfl (K _ inv)
set_option maxRecDepth 100000 in
set_option maxHeartbeats 4000000 in
theorem law_clear {p : Program} {l : Launch} {e : Env} {s : State} {m : MethodId} {below : List Frame} {meth : Method} {c : Code} {D : va_G} {cA : Nat → ClassId} {ad : Nat → Nat} {b L : Nat} {xs : Nat → Int32} (hst : l.stackTraces = false) (C : Cx p s m #[Value.ref b] c cL_law RL 7 D cA shA ad zsC) (TH : Th (A0 shA ad s.heap.size) s s.heap) (NK : Nk s) (hX : va_X b L xs s s.heap) (hbl : b < s.heap.size) (hbA : ¬ A0 shA ad s.heap.size b) (hL : L ≤ 3072) {i nc ns : Nat} (hnc : nc ≤ 601024) (hns : ns ≤ 7293034) {σ : St} (hI : R (fun o => σ (0 + o)) (mM σ)) (K : ∀ σ' : St, R (fun o => σ' (0 + o)) (mM σ') → G p l e room_1 s m #[Value.ref b] below meth c nc ns 7 D cA shA ad (lw_Z below #[Value.ref b] s) σ' [(0, .ref b), (1, .ref (ad 0)), (2, .ref (ad 30)), (3, .ref (ad 60)), (4, vI (i : Int))] [] 737) : G p l e room_1 s m #[Value.ref b] below meth c nc ns 7 D cA shA ad (lw_Z below #[Value.ref b] s) σ [(0, .ref b), (1, .ref (ad 0)), (2, .ref (ad 30)), (3, .ref (ad 60)), (4, vI (i : Int))] [] 668 := by
  refine g_aload_n C 1 1 rfl rfl dL_law_668 ?_
  refine g_callIvN C (lift_I embC (fun _ h => h) (m_X8_clear l D cA (fun k => ad (0 + k)) (R_clear hI))) hv_X8_clear tl_x100 (o := 0) (ci := 8) (As := []) (st := []) rfl rfl rfl rfl ⟨by show nc ≤ 601024; omega, by show ns ≤ 7293034; omega⟩ ⟨Nat.le_of_ble_eq_true rfl, Nat.le_of_ble_eq_true rfl⟩ rfl rfl (Nat.le_of_ble_eq_true rfl) dL_law_669 (fun r1 σ1 hq => ?_)
  obtain ⟨u, hq, e1⟩ := hq
  subst e1
  have eM : mM (put σ u 0 shC.length) = mM σ := mM_cg (fun o q h1 _ => put_M h1)
  rw [← eM] at hq
  refine g_aload_n C 2 2 rfl rfl dL_law_672 ?_
  refine g_callIvN C (lift_I embM zsM_in (CtI_cg (mM_ag (put σ u 0 shC.length)) (m_X9_clear l D cA (fun k => ad (30 + k)) hq))) hv_X9_clear tl_x103 (o := 30) (ci := 9) (As := []) (st := [vI r1]) rfl rfl rfl rfl ⟨by show nc ≤ 601024; omega, by show ns ≤ 7293034; omega⟩ ⟨Nat.le_of_ble_eq_true rfl, Nat.le_of_ble_eq_true rfl⟩ rfl rfl (Nat.le_of_ble_eq_true rfl) dL_law_673 (fun r2 σ2 hq2 => ?_)
  obtain ⟨uM, ⟨t1, t2⟩, e2⟩ := hq2
  subst e2
  exact g_icmp_eq C rfl rfl 737 (by decide) dL_law_676 (fun _ => K _ (Inv_2 (fun o q h => put_C h) t2)) (fun hc => absurd (by rw [t1]) hc)
set_option maxRecDepth 100000 in
set_option maxHeartbeats 4000000 in
theorem law_count {p : Program} {l : Launch} {e : Env} {s : State} {m : MethodId} {below : List Frame} {meth : Method} {c : Code} {D : va_G} {cA : Nat → ClassId} {ad : Nat → Nat} {b L : Nat} {xs : Nat → Int32} (hst : l.stackTraces = false) (C : Cx p s m #[Value.ref b] c cL_law RL 7 D cA shA ad zsC) (TH : Th (A0 shA ad s.heap.size) s s.heap) (NK : Nk s) (hX : va_X b L xs s s.heap) (hbl : b < s.heap.size) (hbA : ¬ A0 shA ad s.heap.size b) (hL : L ≤ 3072) {i nc ns : Nat} (hi : i + 5 < L) (hnc : nc + 1 ≤ 601024) (hns : ns + 6 ≤ 7293034) {σ : St} (hI : R (fun o => σ (0 + o)) (mM σ)) (K : ∀ σ' : St, R (fun o => σ' (0 + o)) (mM σ') → G p l e room_1 s m #[Value.ref b] below meth c (nc + 1) (ns + 6) 7 D cA shA ad (lw_Z below #[Value.ref b] s) σ' [(0, .ref b), (1, .ref (ad 0)), (2, .ref (ad 30)), (3, .ref (ad 60)), (4, vI (i : Int))] [] 737) : G p l e room_1 s m #[Value.ref b] below meth c nc ns 7 D cA shA ad (lw_Z below #[Value.ref b] s) σ [(0, .ref b), (1, .ref (ad 0)), (2, .ref (ad 30)), (3, .ref (ad 60)), (4, vI (i : Int))] [] 681 := by
  have hw : ∀ k : Nat, k < 6 → w32 ((i : Int) + (k : Int)) = ((i + k : Nat) : Int) := fun k hk => by rw [w32_id (by omega) (by omega)]; omega
  refine g_aload_n C 1 1 rfl rfl dL_law_681 ?_
  refine g_aload_n C 0 0 rfl rfl dL_law_682 ?_
  refine g_iload C 4 4 rfl dL_law_683 ?_
  refine g_iconst C dL_law_685 ?_
  refine g_iadd C dL_law_686 ?_
  refine g_sld C hX hbl hbA (i + 1) (hw 1 (by omega)) (by omega) dL_law_687 ?_
  refine g_aload_n C 3 3 rfl rfl dL_law_688 ?_
  refine g_callH C TH NK (m_L_count l hst D cA ad (R_count hI (xs_w _))) hT_count tl_s104 rfl rfl ⟨Nat.le_of_ble_eq_true rfl, Nat.le_of_ble_eq_true rfl⟩ ⟨by show nc + 1 ≤ 601024; omega, by show ns + 6 ≤ 7293034; omega⟩ (As := [.ref (ad 0), vI (xs (i + 1)).toInt, .ref (ad 60)]) (st := []) rfl rfl (Nat.le_of_ble_eq_true rfl) dL_law_689 (fun k1 σ1 hq => ?_)
  obtain ⟨k, z, u, hq, hk1, hk0, hc1, hm1, ho1⟩ := hq
  have eM : mM σ1 = mM σ := mM_cg hm1
  rw [← eM] at hq
  refine g_istore C 5 [(0, .ref b), (1, .ref (ad 0)), (2, .ref (ad 30)), (3, .ref (ad 60)), (4, vI (i : Int))] (by decide) rfl dL_law_692 ?_
  refine g_aload_n C 3 2 rfl rfl dL_law_694 ?_
  refine g_aload_n C 1 0 rfl rfl dL_law_695 ?_
  refine g_iload C 5 4 rfl dL_law_696 ?_
  refine g_iconst C dL_law_698 ?_
  refine g_iadd C dL_law_699 ?_
  refine g_sld C hX hbl hbA (i + 1) (hw 1 (by omega)) (by omega) dL_law_700 ?_
  refine g_callIvN C (lift_I embM zsM_in (CtI_cg (mM_ag σ1) (m_X9_count l D cA (fun k => ad (30 + k)) hq))) hv_X9_count tl_x106 (o := 30) (ci := 9) (As := [vI (xs (i + 1)).toInt]) (st := []) rfl rfl rfl rfl ⟨by show nc + 1 ≤ 601024; omega, by show ns + 6 ≤ 7293034; omega⟩ ⟨Nat.le_of_ble_eq_true rfl, Nat.le_of_ble_eq_true rfl⟩ rfl rfl (Nat.le_of_ble_eq_true rfl) dL_law_701 (fun r2 σ2 hq2 => ?_)
  obtain ⟨uM, ⟨t0, t1, t2⟩, e2⟩ := hq2
  subst e2
  refine g_istore C 6 [(5, vI k1), (0, .ref b), (1, .ref (ad 0)), (2, .ref (ad 30)), (3, .ref (ad 60)), (4, vI (i : Int))] (by decide) rfl dL_law_704 ?_
  have hth : wp_X9_thrown (fun r τ' => r = cd1 k ∧ τ' = mM (put σ1 uM 30 shM.length)) (mM (put σ1 uM 30 shM.length)) := ⟨by rw [mM_in (by decide)]; exact (putM_in (o := 0) (by decide)).trans t0, rfl⟩
  refine g_aload_n C 4 2 rfl rfl dL_law_706 ?_
  refine g_callIvN C (lift_I embM zsM_in (CtI_cg (mM_ag (put σ1 uM 30 shM.length)) (m_X9_thrown l D cA (fun k => ad (30 + k)) hth))) hv_X9_thrown tl_x57 (o := 30) (ci := 9) (As := []) (st := []) rfl rfl rfl rfl ⟨by show nc + 1 ≤ 601024; omega, by show ns + 6 ≤ 7293034; omega⟩ ⟨Nat.le_of_ble_eq_true rfl, Nat.le_of_ble_eq_true rfl⟩ rfl rfl (Nat.le_of_ble_eq_true rfl) dL_law_707 (fun r3 σ3 hq3 => ?_)
  obtain ⟨u3, ⟨h3, h4⟩, e3⟩ := hq3
  subst h4
  rw [putM_self] at e3
  subst e3
  have inv := Inv_2 hc1 t2
  refine g_iload C 1 5 rfl dL_law_710 ?_
  refine g_icmp_eq C rfl rfl 717 (by decide) dL_law_712 (fun _ => ?_) (fun hc => absurd (by rw [h3, hk1]) hc)
  refine g_iload C 1 5 rfl dL_law_717 ?_
  refine g_if_ne C rfl 734 (by decide) dL_law_719 (fun _ => ?_) (fun h0 => ?_)
  · refine g_goto C 737 (by decide) dL_law_734 ?_
    exact g_pick [2, 3, 4, 5, 6] rfl (K _ inv)
  · have hk : k = 0 := hk0.elim id (fun q => absurd (by rw [hk1, w_cd1] at h0; exact h0) q)
    refine g_aload_n C 5 3 rfl rfl dL_law_722 ?_
    refine g_iconst C dL_law_723 ?_
    refine g_lald C (o := 60) (n := 1) (N := 1) (j := 0) rfl rfl (by decide) (by decide) dL_law_724 ?_
    refine g_iload C 0 6 rfl dL_law_725 ?_
    refine g_i2l C rfl dL_law_727 ?_
    refine g_lcmp C dL_law_728 ?_
    refine g_if_eq C rfl 734 (by decide) dL_law_729 (fun _ => ?_) (fun hc => absurd (by rw [putM_out (by decide), ho1 hk, t1 hk]; exact lCmp_self _) hc)
    refine g_goto C 737 (by decide) dL_law_734 ?_
    exact g_pick [2, 3, 4, 5, 6] rfl (K _ inv)
set_option maxRecDepth 100000 in
set_option maxHeartbeats 4000000 in
theorem law_loop {p : Program} {l : Launch} {e : Env} {s : State} {m : MethodId} {below : List Frame} {meth : Method} {c : Code} {D : va_G} {cA : Nat → ClassId} {ad : Nat → Nat} {b L : Nat} {xs : Nat → Int32} (hst : l.stackTraces = false) (C : Cx p s m #[Value.ref b] c cL_law RL 7 D cA shA ad zsC) (TH : Th (A0 shA ad s.heap.size) s s.heap) (NK : Nk s) (hX : va_X b L xs s s.heap) (hbl : b < s.heap.size) (hbA : ¬ A0 shA ad s.heap.size b) (hL : L ≤ 3072) (hA : ∀ o, o < 61 → s.heap.size ≤ ad o) (hr : meth.sig.returnType = ret) (hlocks : meth.locks = false) : ∀ (n i nc ns : Nat) (σ : St), i ≤ 3078 → L < i + 6 * n → nc + n ≤ 601024 → ns + 6 * n ≤ 7293034 → R (fun o => σ (0 + o)) (mM σ) → G p l e room_1 s m #[Value.ref b] below meth c nc ns 7 D cA shA ad (lw_Z below #[Value.ref b] s) σ [(0, .ref b), (1, .ref (ad 0)), (2, .ref (ad 30)), (3, .ref (ad 60)), (4, vI (i : Int))] [] 23 := by
  have stop : ∀ (i nc ns : Nat) (σ : St), nc ≤ 601024 → ns ≤ 7293034 → G p l e room_1 s m #[Value.ref b] below meth c nc ns 7 D cA shA ad (lw_Z below #[Value.ref b] s) σ [(0, .ref b), (1, .ref (ad 0)), (2, .ref (ad 30)), (3, .ref (ad 60)), (4, vI (i : Int))] [] 743 := by
    intro i nc ns σ h1 h2
    refine g_iconst C dL_law_743 ?_
    intro H locs ls hP hS hl
    refine va_forget (fun q hq => ?_) ?_
    · rcases hS.2.2 q hq with ⟨o, ho, e⟩ | h
      · rw [e]; exact hA o ho
      · exact h
    · refine W.widen (k := 601024) (n := 7293034) h1 h2 ?_
      exact lw_ret C.1 C.2.1 hr hlocks dL_law_744
  have head : ∀ (i nc ns : Nat) (σ : St), i ≤ 3078 → nc ≤ 601024 → ns ≤ 7293034 → (i + 5 < L → G p l e room_1 s m #[Value.ref b] below meth c nc ns 7 D cA shA ad (lw_Z below #[Value.ref b] s) σ [(0, .ref b), (1, .ref (ad 0)), (2, .ref (ad 30)), (3, .ref (ad 60)), (4, vI (i : Int))] [] 33) → G p l e room_1 s m #[Value.ref b] below meth c nc ns 7 D cA shA ad (lw_Z below #[Value.ref b] s) σ [(0, .ref b), (1, .ref (ad 0)), (2, .ref (ad 30)), (3, .ref (ad 60)), (4, vI (i : Int))] [] 23 := by
    intro i nc ns σ h0 h1 h2 k
    refine g_iload C 4 4 rfl dL_law_23 ?_
    refine g_aload_n C 0 0 rfl rfl dL_law_25 ?_
    refine g_slen C hX hbl hbA (by omega) dL_law_26 ?_
    refine g_bipush C dL_law_27 (by decide) ?_
    refine g_isub C dL_law_29 ?_
    have e1 : w32 (i : Int) = (i : Int) := w32_id (by omega) (by omega)
    have e2 : w32 ((L : Int) - 6) = (L : Int) - 6 := w32_id (by omega) (by omega)
    exact g_icmp_gt C e1 e2 743 (by decide) dL_law_30 (fun _ => stop i nc ns σ h1 h2) (fun hc => k (by omega))
  intro n
  induction n with
  | zero =>
    intro i nc ns σ h0 h1 h2 h3 _
    exact head i nc ns σ h0 (by omega) (by omega) (fun hi => absurd hi (by omega))
  | succ n ih =>
    intro i nc ns σ h0 h1 h2 h3 hI
    refine head i nc ns σ h0 (by omega) (by omega) (fun hi => ?_)
    have K : ∀ (nc' ns' : Nat) (σ' : St), nc' ≤ nc + 1 → ns' ≤ ns + 6 → R (fun o => σ' (0 + o)) (mM σ') → G p l e room_1 s m #[Value.ref b] below meth c nc' ns' 7 D cA shA ad (lw_Z below #[Value.ref b] s) σ' [(0, .ref b), (1, .ref (ad 0)), (2, .ref (ad 30)), (3, .ref (ad 60)), (4, vI (i : Int))] [] 737 := by
      intro nc' ns' σ' q1 q2 hI'
      refine g_iinc C 4 4 [(0, .ref b), (1, .ref (ad 0)), (2, .ref (ad 30)), (3, .ref (ad 60))] rfl (by decide) rfl dL_law_737 (fun i' ei => ?_)
      refine g_goto C 23 (by decide) dL_law_740 ?_
      have e : i' = ((i + 6 : Nat) : Int) := by omega
      subst e
      exact g_pick [1, 2, 3, 4, 0] rfl (ih (i + 6) nc' ns' σ' (by omega) (by omega) (by omega) (by omega) hI')
    have w0 : w32 (i : Int) = (i : Int) := w32_id (by omega) (by omega)
    refine g_aload_n C 0 0 rfl rfl dL_law_33 ?_
    refine g_iload C 4 4 rfl dL_law_34 ?_
    refine g_sld C hX hbl hbA i w0 (by omega) dL_law_36 ?_
    refine g_bipush C dL_law_37 (by decide) ?_
    refine g_iand C dL_law_39 ?_
    rcases (show w32 (iAnd (xs i).toInt 15) = 0 ∨ w32 (iAnd (xs i).toInt 15) = 1 ∨ w32 (iAnd (xs i).toInt 15) = 2 ∨ w32 (iAnd (xs i).toInt 15) = 3 ∨ w32 (iAnd (xs i).toInt 15) = 4 ∨ w32 (iAnd (xs i).toInt 15) = 5 ∨ w32 (iAnd (xs i).toInt 15) = 6 ∨ w32 (iAnd (xs i).toInt 15) = 7 ∨ w32 (iAnd (xs i).toInt 15) = 8 ∨ w32 (iAnd (xs i).toInt 15) = 9 ∨ w32 (iAnd (xs i).toInt 15) = 10 ∨ w32 (iAnd (xs i).toInt 15) = 11 ∨ w32 (iAnd (xs i).toInt 15) = 12 ∨ (w32 (iAnd (xs i).toInt 15) < 0 ∨ 12 < w32 (iAnd (xs i).toInt 15)) by omega) with hc | hc | hc | hc | hc | hc | hc | hc | hc | hc | hc | hc | hc | hc
    · exact g_tabIn C 108 0 hc (by decide) (by decide) rfl (by decide) dL_law_40 (law_feed hst C TH NK hX hbl hbA hL hi (by omega) (by omega) hI (fun σ' h => K _ _ σ' (by omega) (by omega) h))
    · exact g_tabIn C 212 1 hc (by decide) (by decide) rfl (by decide) dL_law_40 (law_end hst C TH NK hX hbl hbA hL hi (by omega) (by omega) hI (fun σ' h => K _ _ σ' (by omega) (by omega) h))
    · exact g_tabIn C 248 2 hc (by decide) (by decide) rfl (by decide) dL_law_40 (law_tree hst C TH NK hX hbl hbA hL (by omega) (by omega) hI (fun σ' h => K _ _ σ' (by omega) (by omega) h))
    · exact g_tabIn C 261 3 hc (by decide) (by decide) rfl (by decide) dL_law_40 (law_sentence hst C TH NK hX hbl hbA hL (by omega) (by omega) hI (fun σ' h => K _ _ σ' (by omega) (by omega) h))
    · exact g_tabIn C 274 4 hc (by decide) (by decide) rfl (by decide) dL_law_40 (law_read hst C TH NK hX hbl hbA hL (by omega) (by omega) hI (fun σ' h => K _ _ σ' (by omega) (by omega) h))
    · exact g_tabIn C 287 5 hc (by decide) (by decide) rfl (by decide) dL_law_40 (law_fault hst C TH NK hX hbl hbA hL (by omega) (by omega) hI (fun σ' h => K _ _ σ' (by omega) (by omega) h))
    · exact g_tabIn C 300 6 hc (by decide) (by decide) rfl (by decide) dL_law_40 (law_choose hst C TH NK hX hbl hbA hL hi (by omega) (by omega) hI (fun σ' h => K _ _ σ' (by omega) (by omega) h))
    · exact g_tabIn C 356 7 hc (by decide) (by decide) rfl (by decide) dL_law_40 (law_use hst C TH NK hX hbl hbA hL hi (by omega) (by omega) hI (fun σ' h => K _ _ σ' (by omega) (by omega) h))
    · exact g_tabIn C 424 8 hc (by decide) (by decide) rfl (by decide) dL_law_40 (law_whole hst C TH NK hX hbl hbA hL hi (by omega) (by omega) hI (fun σ' h => K _ _ σ' (by omega) (by omega) h))
    · exact g_tabIn C 492 9 hc (by decide) (by decide) rfl (by decide) dL_law_40 (law_node hst C TH NK hX hbl hbA hL hi (by omega) (by omega) hI (fun σ' h => K _ _ σ' (by omega) (by omega) h))
    · refine g_tabIn C 572 10 hc (by decide) (by decide) rfl (by decide) dL_law_40 ?_
      by_cases hb1 : (xs (i + 1)).toInt = 0
      · exact law_letter0 hst C TH NK hX hbl hbA hL hi (by omega) (by omega) hI hb1 (fun σ' h => K _ _ σ' (by omega) (by omega) h)
      · exact law_letter1 hst C TH NK hX hbl hbA hL hi (by omega) (by omega) hI hb1 (fun σ' h => K _ _ σ' (by omega) (by omega) h)
    · exact g_tabIn C 668 11 hc (by decide) (by decide) rfl (by decide) dL_law_40 (law_clear hst C TH NK hX hbl hbA hL (by omega) (by omega) hI (fun σ' h => K _ _ σ' (by omega) (by omega) h))
    · exact g_tabIn C 681 12 hc (by decide) (by decide) rfl (by decide) dL_law_40 (law_count hst C TH NK hX hbl hbA hL hi (by omega) (by omega) hI (fun σ' h => K _ _ σ' (by omega) (by omega) h))
    · exact g_tabOut C 737 hc (by decide) dL_law_40 (K nc ns σ (by omega) (by omega) hI)
