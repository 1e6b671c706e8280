/-! the words of the methods that may throw -/
set_option maxRecDepth 100000 in
theorem hv_X4_append : MV RX4 yX4_append cX4_append 3 none 1 := ⟨⟨(tbl_at 691 (by decide +kernel) (by decide +kernel)), (tbl_at 692 (by decide +kernel) (by decide +kernel))⟩, (tbl_at 2 (by decide +kernel) (by decide +kernel)), (tbl_at 693 rfl rfl), by decide, by decide, by decide +kernel⟩
set_option maxRecDepth 100000 in
theorem hv_X6_unfold : MV RX6 yX6_unfold cX6_unfold 4 none 2 := ⟨⟨(tbl_at 760 (by decide +kernel) (by decide +kernel)), (tbl_at 761 (by decide +kernel) (by decide +kernel))⟩, (tbl_at 8 (by decide +kernel) (by decide +kernel)), (tbl_at 762 rfl rfl), by decide, by decide, by decide +kernel⟩
set_option maxRecDepth 100000 in
theorem hv_X7_cell : MV RX7 yX7_cell cX7_cell 3 (some .int) 2 := ⟨⟨(tbl_at 862 (by decide +kernel) (by decide +kernel)), (tbl_at 863 (by decide +kernel) (by decide +kernel))⟩, (tbl_at 9 (by decide +kernel) (by decide +kernel)), (tbl_at 864 rfl rfl), by decide, by decide, by decide +kernel⟩
set_option maxRecDepth 100000 in
theorem hv_X7_grow : MV RX7 yX7_grow cX7_grow 2 none 0 := ⟨⟨(tbl_at 823 (by decide +kernel) (by decide +kernel)), (tbl_at 824 (by decide +kernel) (by decide +kernel))⟩, (tbl_at 9 (by decide +kernel) (by decide +kernel)), (tbl_at 825 rfl rfl), by decide, by decide, by decide +kernel⟩
theorem tw_X8_149 : Cond.methodLink RX8 149 yX6_unfold ∈ TBL := (tbl_at 759 (by decide +kernel) (by decide +kernel))
theorem tw_X8_153 : Cond.methodLink RX8 153 yX7_grow ∈ TBL := (tbl_at 822 (by decide +kernel) (by decide +kernel))
theorem tw_X8_163 : Cond.methodLink RX8 163 yX6_useCell ∈ TBL := (tbl_at 851 (by decide +kernel) (by decide +kernel))
theorem tw_X8_172 : Cond.methodLink RX8 172 yX7_cell ∈ TBL := (tbl_at 861 (by decide +kernel) (by decide +kernel))
theorem tw_X8_175 : Cond.fieldLink RX8 175 "TreeJoiner$Forest" "sizes" "[I" ∈ TBL := (tbl_at 109 (by decide +kernel) (by decide +kernel))
theorem tw_X8_183 : Cond.methodLink RX8 183 yX1_row ∈ TBL := (tbl_at 874 (by decide +kernel) (by decide +kernel))
theorem tw_X8_186 : Cond.methodLink RX8 186 yX1_cell ∈ TBL := (tbl_at 875 (by decide +kernel) (by decide +kernel))
theorem tw_X8_191 : Cond.fieldLink RX8 191 "TreeJoiner$Names" "lengths" "[I" ∈ TBL := (tbl_at 82 (by decide +kernel) (by decide +kernel))
theorem tw_X8_196 : Cond.fieldLink RX8 196 "TreeJoiner$Names" "letters" "[I" ∈ TBL := (tbl_at 79 (by decide +kernel) (by decide +kernel))
theorem tw_X8_199 : Cond.methodLink RX8 199 yX2_begin ∈ TBL := (tbl_at 884 (by decide +kernel) (by decide +kernel))
theorem tw_X8_88 : Cond.methodLink RX8 88 yX4_append ∈ TBL := (tbl_at 690 (by decide +kernel) (by decide +kernel))
theorem tx_83 : (83, "the tape has at most 1000 bytes") ∈ strX := by decide +kernel
theorem tx_94 : (94, "the tape has not so many bytes") ∈ strX := by decide +kernel
theorem tx_141 : (141, "the sentence was not read") ∈ strX := by decide +kernel
theorem tx_146 : (146, "there are not so many ways") ∈ strX := by decide +kernel
theorem tx_159 : (159, "there is no such use") ∈ strX := by decide +kernel
theorem tx_161 : (161, "of a use there are 0 to 6") ∈ strX := by decide +kernel
theorem tx_168 : (168, "the whole tree has no such node") ∈ strX := by decide +kernel
theorem tx_170 : (170, "of a node of the whole tree there are 0 to 5") ∈ strX := by decide +kernel
theorem tx_179 : (179, "there is no such node") ∈ strX := by decide +kernel
theorem tx_181 : (181, "of a node there are 0 to 4") ∈ strX := by decide +kernel
theorem tx_194 : (194, "there is no such byte") ∈ strX := by decide +kernel
theorem tx_203 : (203, "there are counts 0 to 6") ∈ strX := by decide +kernel
abbrev rm_X8_feed : Room := { frames := 6, cells := 1, slots := 6, locals := 100 }
set_option maxRecDepth 100000 in
set_option maxHeartbeats 4000000 in
theorem m_X8_feed_E {p : Program} {l : Launch} {e : Env} {s : State} {m : MethodId} {args : Array Value} {below : List Frame} {meth : Method} {c : Code} {D : va_G} {cA : Nat → ClassId} {ad : Nat → Nat} (C : Cx p s m args c cX8_feed RX8 6 D cA shC ad zsC) (hlocks : meth.locks = false) (hr : meth.sig.returnType = (some .int)) (TH : Th (A0 shC ad s.heap.size) s s.heap) (hst : l.stackTraces = false) (hx : ∀ x ∈ c.exceptionTable.toList, False) {Q : Nat → Int → St → Prop} {a1 a2 a3 a4 a5 : Int} {σ : St} (h : wp_X8_feed a1 a2 a3 a4 a5 Q σ) : G p l e rm_X8_feed s m args below meth c 0 0 6 D cA shC ad (QX D cA shC ad zsC below args s [1] Q) σ [(0, .ref (ad 0)), (1, vI a1), (2, vI a2), (3, vI a3), (4, vI a4), (5, vI a5)] [] 0 := by
  unfold wp_X8_feed at h
  refine g_aload_n C 0 0 rfl rfl dX8_feed_0 ?_
  refine g_get C iX8 (ci := 8) (o := 0) (v := .ref (ad 1)) rfl rfl 0 (by decide) rfl tw_X8_12 dX8_feed_1 ?_
  refine g_get C iX4 (ci := 4) (o := 1) (v := vI (σ 1 1)) rfl rfl 1 (by decide) rfl tw_X8_78 dX8_feed_4 ?_
  refine g_bipush C dX8_feed_7 (by decide) ?_
  refine g_iadd C dX8_feed_9 ?_
  refine g_sipush C dX8_feed_10 (by decide) ?_
  refine g_icmp_le C (y' := 1000) rfl (by decide) 26 (by decide) dX8_feed_13 (fun hc => ?_) (fun hc => ?_)
  · have h := h.1 hc
    refine g_aload_n C 0 0 rfl rfl dX8_feed_26 ?_
    refine g_get C iX8 (ci := 8) (o := 0) (v := .ref (ad 1)) rfl rfl 0 (by decide) rfl tw_X8_12 dX8_feed_27 ?_
    refine g_iload_n C 1 1 rfl rfl dX8_feed_30 ?_
    refine g_callVv C (m_X4_append l D cA ad h) hv_X4_append tw_X8_88 (o := 1) (ci := 4) (As := [vI a1]) (st := []) rfl rfl rfl rfl ⟨Nat.le_of_ble_eq_true rfl, Nat.le_of_ble_eq_true rfl⟩ rfl rfl (Nat.le_of_ble_eq_true rfl) dX8_feed_31 (fun σ1 h => ?_)
    try dsimp only at h
    refine g_aload_n C 0 0 rfl rfl dX8_feed_34 ?_
    refine g_get C iX8 (ci := 8) (o := 0) (v := .ref (ad 1)) rfl rfl 0 (by decide) rfl tw_X8_12 dX8_feed_35 ?_
    refine g_iload_n C 2 2 rfl rfl dX8_feed_38 ?_
    refine g_callVv C (m_X4_append l D cA ad h) hv_X4_append tw_X8_88 (o := 1) (ci := 4) (As := [vI a2]) (st := []) rfl rfl rfl rfl ⟨Nat.le_of_ble_eq_true rfl, Nat.le_of_ble_eq_true rfl⟩ rfl rfl (Nat.le_of_ble_eq_true rfl) dX8_feed_39 (fun σ2 h => ?_)
    try dsimp only at h
    refine g_aload_n C 0 0 rfl rfl dX8_feed_42 ?_
    refine g_get C iX8 (ci := 8) (o := 0) (v := .ref (ad 1)) rfl rfl 0 (by decide) rfl tw_X8_12 dX8_feed_43 ?_
    refine g_iload_n C 3 3 rfl rfl dX8_feed_46 ?_
    refine g_callVv C (m_X4_append l D cA ad h) hv_X4_append tw_X8_88 (o := 1) (ci := 4) (As := [vI a3]) (st := []) rfl rfl rfl rfl ⟨Nat.le_of_ble_eq_true rfl, Nat.le_of_ble_eq_true rfl⟩ rfl rfl (Nat.le_of_ble_eq_true rfl) dX8_feed_47 (fun σ3 h => ?_)
    try dsimp only at h
    refine g_aload_n C 0 0 rfl rfl dX8_feed_50 ?_
    refine g_get C iX8 (ci := 8) (o := 0) (v := .ref (ad 1)) rfl rfl 0 (by decide) rfl tw_X8_12 dX8_feed_51 ?_
    refine g_iload C 4 4 rfl dX8_feed_54 ?_
    refine g_callVv C (m_X4_append l D cA ad h) hv_X4_append tw_X8_88 (o := 1) (ci := 4) (As := [vI a4]) (st := []) rfl rfl rfl rfl ⟨Nat.le_of_ble_eq_true rfl, Nat.le_of_ble_eq_true rfl⟩ rfl rfl (Nat.le_of_ble_eq_true rfl) dX8_feed_56 (fun σ4 h => ?_)
    try dsimp only at h
    refine g_aload_n C 0 0 rfl rfl dX8_feed_59 ?_
    refine g_get C iX8 (ci := 8) (o := 0) (v := .ref (ad 1)) rfl rfl 0 (by decide) rfl tw_X8_12 dX8_feed_60 ?_
    refine g_iload C 5 5 rfl dX8_feed_63 ?_
    refine g_callVv C (m_X4_append l D cA ad h) hv_X4_append tw_X8_88 (o := 1) (ci := 4) (As := [vI a5]) (st := []) rfl rfl rfl rfl ⟨Nat.le_of_ble_eq_true rfl, Nat.le_of_ble_eq_true rfl⟩ rfl rfl (Nat.le_of_ble_eq_true rfl) dX8_feed_65 (fun σ5 h => ?_)
    try dsimp only at h
    refine g_aload_n C 0 0 rfl rfl dX8_feed_68 ?_
    refine g_get C iX8 (ci := 8) (o := 0) (v := .ref (ad 1)) rfl rfl 0 (by decide) rfl tw_X8_12 dX8_feed_69 ?_
    refine g_get C iX4 (ci := 4) (o := 1) (v := vI (σ5 1 1)) rfl rfl 1 (by decide) rfl tw_X8_78 dX8_feed_72 ?_
    exact g_iretX C hlocks hr h dX8_feed_75
  · have h := h.2 hc
    exact g_thrX C TH hst hlocks hx 1 81 83 85 rfl (by decide) h tx_83 tc_1 (by decide) dX8_feed_16 dX8_feed_19 dX8_feed_20 dX8_feed_22 dX8_feed_25
set_option maxRecDepth 100000 in
set_option maxHeartbeats 4000000 in
theorem m_X8_feed (l : Launch) (D : va_G) (cA : Nat → ClassId) (ad : Nat → Nat) {a1 a2 a3 a4 a5 : Int} (hst : l.stackTraces = false) {Q : Nat → Int → St → Prop} {σ : St} (h : wp_X8_feed a1 a2 a3 a4 a5 Q σ) : CtX l yX8_feed (.code yX8_feed cX8_feed 6 (some .int)) rm_X8_feed D cA shC ad zsC [.ref (ad 0), vI a1, vI a2, vI a3, vI a4, vI a5] σ [1] Q :=
  ct_X RX8 (by decide +kernel) rfl (Nat.le_of_ble_eq_true rfl) (fun p e s m args below meth c C TH hlocks hr hx => m_X8_feed_E C hlocks hr TH hst hx h)
abbrev rm_X8_end : Room := { frames := 6, cells := 1, slots := 6, locals := 100 }
set_option maxRecDepth 100000 in
set_option maxHeartbeats 4000000 in
theorem m_X8_end_B15 {p : Program} {l : Launch} {e : Env} {s : State} {m : MethodId} {args : Array Value} {below : List Frame} {meth : Method} {c : Code} {D : va_G} {cA : Nat → ClassId} {ad : Nat → Nat} (C : Cx p s m args c cX8_end RX8 2 D cA shC ad zsC) (hlocks : meth.locks = false) (hr : meth.sig.returnType = none) (TH : Th (A0 shC ad s.heap.size) s s.heap) (hst : l.stackTraces = false) (hx : ∀ x ∈ c.exceptionTable.toList, False) {Q : Nat → Int → St → Prop} {σ : St} (h : wp_X8_end_B15 Q σ) : G p l e rm_X8_end s m args below meth c 0 0 2 D cA shC ad (QY D cA shC ad zsC below args s [2] Q) σ [] [] 15 := by
  unfold wp_X8_end_B15 at h
  exact g_thrY C TH hst hlocks hx 2 92 94 96 rfl (by decide) h tx_94 tc_2 (by decide) dX8_end_15 dX8_end_18 dX8_end_19 dX8_end_21 dX8_end_24
set_option maxRecDepth 100000 in
set_option maxHeartbeats 4000000 in
theorem m_X8_end_E {p : Program} {l : Launch} {e : Env} {s : State} {m : MethodId} {args : Array Value} {below : List Frame} {meth : Method} {c : Code} {D : va_G} {cA : Nat → ClassId} {ad : Nat → Nat} (C : Cx p s m args c cX8_end RX8 2 D cA shC ad zsC) (hlocks : meth.locks = false) (hr : meth.sig.returnType = none) (TH : Th (A0 shC ad s.heap.size) s s.heap) (hst : l.stackTraces = false) (hx : ∀ x ∈ c.exceptionTable.toList, False) {Q : Nat → Int → St → Prop} {a1 : Int} {σ : St} (h : wp_X8_end a1 Q σ) : G p l e rm_X8_end s m args below meth c 0 0 2 D cA shC ad (QY D cA shC ad zsC below args s [2] Q) σ [(0, .ref (ad 0)), (1, vI a1)] [] 0 := by
  unfold wp_X8_end at h
  refine g_iload_n C 1 1 rfl rfl dX8_end_0 ?_
  refine g_if_lt C rfl 15 (by decide) dX8_end_1 (fun hc => ?_) (fun hc => ?_)
  · have h := h.1 hc
    exact g_pick [] rfl (m_X8_end_B15 C hlocks hr TH hst hx h)
  · have h := h.2 hc
    refine g_iload_n C 1 1 rfl rfl dX8_end_4 ?_
    refine g_aload_n C 0 0 rfl rfl dX8_end_5 ?_
    refine g_get C iX8 (ci := 8) (o := 0) (v := .ref (ad 1)) rfl rfl 0 (by decide) rfl tw_X8_12 dX8_end_6 ?_
    refine g_get C iX4 (ci := 4) (o := 1) (v := vI (σ 1 1)) rfl rfl 1 (by decide) rfl tw_X8_78 dX8_end_9 ?_
    refine g_icmp_le C rfl rfl 25 (by decide) dX8_end_12 (fun hc => ?_) (fun hc => ?_)
    · have h := h.1 hc
      refine g_aload_n C 0 0 rfl rfl dX8_end_25 ?_
      refine g_get C iX8 (ci := 8) (o := 0) (v := .ref (ad 1)) rfl rfl 0 (by decide) rfl tw_X8_12 dX8_end_26 ?_
      refine g_iload_n C 1 1 rfl rfl dX8_end_29 ?_
      refine g_put C iX4 (ci := 4) (o := 1) (z := a1) (ty := .int) rfl tyX4_ok nmX4 rfl 1 (by decide) rfl rfl tw_X8_78 rfl (by decide +kernel) rfl rfl dX8_end_30 (fun σ1 eσ1 => ?_)
      have h := h σ1 eσ1
      exact g_vretX C hlocks hr h dX8_end_33
    · have h := h.2 hc
      exact g_pick [] rfl (m_X8_end_B15 C hlocks hr TH hst hx h)
set_option maxRecDepth 100000 in
set_option maxHeartbeats 4000000 in
theorem m_X8_end (l : Launch) (D : va_G) (cA : Nat → ClassId) (ad : Nat → Nat) {a1 : Int} (hst : l.stackTraces = false) {Q : Nat → Int → St → Prop} {σ : St} (h : wp_X8_end a1 Q σ) : CtY l yX8_end (.code yX8_end cX8_end 2 none) rm_X8_end D cA shC ad zsC [.ref (ad 0), vI a1] σ [2] Q :=
  ct_Y RX8 (by decide +kernel) rfl (Nat.le_of_ble_eq_true rfl) (fun p e s m args below meth c C TH hlocks hr hx => m_X8_end_E C hlocks hr TH hst hx h)
abbrev rm_X8_choose : Room := { frames := 17, cells := 1, slots := 6, locals := 426 }
set_option maxRecDepth 100000 in
set_option maxHeartbeats 4000000 in
theorem m_X8_choose_B30 {p : Program} {l : Launch} {e : Env} {s : State} {m : MethodId} {args : Array Value} {below : List Frame} {meth : Method} {c : Code} {D : va_G} {cA : Nat → ClassId} {ad : Nat → Nat} (C : Cx p s m args c cX8_choose RX8 2 D cA shC ad zsC) (hlocks : meth.locks = false) (hr : meth.sig.returnType = (some .int)) (TH : Th (A0 shC ad s.heap.size) s s.heap) (hst : l.stackTraces = false) (hx : ∀ x ∈ c.exceptionTable.toList, False) {Q : Nat → Int → St → Prop} {σ : St} (h : wp_X8_choose_B30 Q σ) : G p l e rm_X8_choose s m args below meth c 0 0 2 D cA shC ad (QX D cA shC ad zsC below args s [3, 4] Q) σ [] [] 30 := by
  unfold wp_X8_choose_B30 at h
  exact g_thrX C TH hst hlocks hx 4 144 146 148 rfl (by decide) h tx_146 tc_4 (by decide) dX8_choose_30 dX8_choose_33 dX8_choose_34 dX8_choose_36 dX8_choose_39
set_option maxRecDepth 100000 in
set_option maxHeartbeats 4000000 in
theorem m_X8_choose_E {p : Program} {l : Launch} {e : Env} {s : State} {m : MethodId} {args : Array Value} {below : List Frame} {meth : Method} {c : Code} {D : va_G} {cA : Nat → ClassId} {ad : Nat → Nat} (C : Cx p s m args c cX8_choose RX8 2 D cA shC ad zsC) (hlocks : meth.locks = false) (hr : meth.sig.returnType = (some .int)) (TH : Th (A0 shC ad s.heap.size) s s.heap) (hst : l.stackTraces = false) (hx : ∀ x ∈ c.exceptionTable.toList, False) {Q : Nat → Int → St → Prop} {a1 : Int} {σ : St} (h : wp_X8_choose a1 Q σ) : G p l e rm_X8_choose s m args below meth c 0 0 2 D cA shC ad (QX D cA shC ad zsC below args s [3, 4] Q) σ [(0, .ref (ad 0)), (1, vI a1)] [] 0 := by
  unfold wp_X8_choose at h
  refine g_aload_n C 0 0 rfl rfl dX8_choose_0 ?_
  refine g_get C iX8 (ci := 8) (o := 0) (v := vI (σ 0 9)) rfl rfl 9 (by decide) rfl tw_X8_75 dX8_choose_1 ?_
  refine g_iconst C dX8_choose_4 ?_
  refine g_icmp_ne C (y' := (-1)) rfl (by decide) 18 (by decide) dX8_choose_5 (fun hc => ?_) (fun hc => ?_)
  · have h := h.1 hc
    refine g_iload_n C 1 1 rfl rfl dX8_choose_18 ?_
    refine g_if_lt C rfl 30 (by decide) dX8_choose_19 (fun hc => ?_) (fun hc => ?_)
    · have h := h.1 hc
      exact g_pick [] rfl (m_X8_choose_B30 C hlocks hr TH hst hx h)
    · have h := h.2 hc
      refine g_iload_n C 1 1 rfl rfl dX8_choose_22 ?_
      refine g_aload_n C 0 0 rfl rfl dX8_choose_23 ?_
      refine g_get C iX8 (ci := 8) (o := 0) (v := vI (σ 0 9)) rfl rfl 9 (by decide) rfl tw_X8_75 dX8_choose_24 ?_
      refine g_icmp_lt C rfl rfl 40 (by decide) dX8_choose_27 (fun hc => ?_) (fun hc => ?_)
      · have h := h.1 hc
        refine g_aload_n C 0 0 rfl rfl dX8_choose_40 ?_
        refine g_get C iX8 (ci := 8) (o := 0) (v := .ref (ad 23)) rfl rfl 5 (by decide) rfl tw_X8_55 dX8_choose_41 ?_
        refine g_aload_n C 0 0 rfl rfl dX8_choose_44 ?_
        refine g_get C iX8 (ci := 8) (o := 0) (v := vI (σ 0 8)) rfl rfl 8 (by decide) rfl tw_X8_72 dX8_choose_45 ?_
        refine g_iload_n C 1 1 rfl rfl dX8_choose_48 ?_
        refine g_callVv C (m_X6_unfold l D cA ad h) hv_X6_unfold tw_X8_149 (o := 23) (ci := 6) (As := [vI (σ 0 8), vI a1]) (st := []) rfl rfl rfl rfl ⟨Nat.le_of_ble_eq_true rfl, Nat.le_of_ble_eq_true rfl⟩ rfl rfl (Nat.le_of_ble_eq_true rfl) dX8_choose_49 (fun σ1 h => ?_)
        try dsimp only at h
        refine g_aload_n C 0 0 rfl rfl dX8_choose_52 ?_
        refine g_get C iX8 (ci := 8) (o := 0) (v := .ref (ad 26)) rfl rfl 6 (by decide) rfl tw_X8_64 dX8_choose_53 ?_
        refine g_callVv C (m_X7_grow l D cA ad h) hv_X7_grow tw_X8_153 (o := 26) (ci := 7) (As := []) (st := []) rfl rfl rfl rfl ⟨Nat.le_of_ble_eq_true rfl, Nat.le_of_ble_eq_true rfl⟩ rfl rfl (Nat.le_of_ble_eq_true rfl) dX8_choose_56 (fun σ2 h => ?_)
        try dsimp only at h
        refine g_aload_n C 0 0 rfl rfl dX8_choose_59 ?_
        refine g_get C iX8 (ci := 8) (o := 0) (v := .ref (ad 23)) rfl rfl 5 (by decide) rfl tw_X8_55 dX8_choose_60 ?_
        refine g_get C iX6 (ci := 6) (o := 23) (v := vI (σ2 23 0)) rfl rfl 0 (by decide) rfl tw_X8_156 dX8_choose_63 ?_
        exact g_iretX C hlocks hr h dX8_choose_66
      · have h := h.2 hc
        exact g_pick [] rfl (m_X8_choose_B30 C hlocks hr TH hst hx h)
  · have h := h.2 hc
    exact g_thrX C TH hst hlocks hx 3 139 141 143 rfl (by decide) h tx_141 tc_3 (by decide) dX8_choose_8 dX8_choose_11 dX8_choose_12 dX8_choose_14 dX8_choose_17
set_option maxRecDepth 100000 in
set_option maxHeartbeats 4000000 in
theorem m_X8_choose (l : Launch) (D : va_G) (cA : Nat → ClassId) (ad : Nat → Nat) {a1 : Int} (hst : l.stackTraces = false) {Q : Nat → Int → St → Prop} {σ : St} (h : wp_X8_choose a1 Q σ) : CtX l yX8_choose (.code yX8_choose cX8_choose 2 (some .int)) rm_X8_choose D cA shC ad zsC [.ref (ad 0), vI a1] σ [3, 4] Q :=
  ct_X RX8 (by decide +kernel) rfl (Nat.le_of_ble_eq_true rfl) (fun p e s m args below meth c C TH hlocks hr hx => m_X8_choose_E C hlocks hr TH hst hx h)
abbrev rm_X8_use : Room := { frames := 6, cells := 1, slots := 6, locals := 100 }
set_option maxRecDepth 100000 in
set_option maxHeartbeats 4000000 in
theorem m_X8_use_B15 {p : Program} {l : Launch} {e : Env} {s : State} {m : MethodId} {args : Array Value} {below : List Frame} {meth : Method} {c : Code} {D : va_G} {cA : Nat → ClassId} {ad : Nat → Nat} (C : Cx p s m args c cX8_use RX8 3 D cA shC ad zsC) (hlocks : meth.locks = false) (hr : meth.sig.returnType = (some .int)) (TH : Th (A0 shC ad s.heap.size) s s.heap) (hst : l.stackTraces = false) (hx : ∀ x ∈ c.exceptionTable.toList, False) {Q : Nat → Int → St → Prop} {σ : St} (h : wp_X8_use_B15 Q σ) : G p l e rm_X8_use s m args below meth c 0 0 3 D cA shC ad (QX D cA shC ad zsC below args s [2, 4] Q) σ [] [] 15 := by
  unfold wp_X8_use_B15 at h
  exact g_thrX C TH hst hlocks hx 4 144 159 148 rfl (by decide) h tx_159 tc_4 (by decide) dX8_use_15 dX8_use_18 dX8_use_19 dX8_use_21 dX8_use_24
set_option maxRecDepth 100000 in
set_option maxHeartbeats 4000000 in
theorem m_X8_use_B35 {p : Program} {l : Launch} {e : Env} {s : State} {m : MethodId} {args : Array Value} {below : List Frame} {meth : Method} {c : Code} {D : va_G} {cA : Nat → ClassId} {ad : Nat → Nat} (C : Cx p s m args c cX8_use RX8 3 D cA shC ad zsC) (hlocks : meth.locks = false) (hr : meth.sig.returnType = (some .int)) (TH : Th (A0 shC ad s.heap.size) s s.heap) (hst : l.stackTraces = false) (hx : ∀ x ∈ c.exceptionTable.toList, False) {Q : Nat → Int → St → Prop} {σ : St} (h : wp_X8_use_B35 Q σ) : G p l e rm_X8_use s m args below meth c 0 0 3 D cA shC ad (QX D cA shC ad zsC below args s [2, 4] Q) σ [] [] 35 := by
  unfold wp_X8_use_B35 at h
  exact g_thrX C TH hst hlocks hx 2 92 161 96 rfl (by decide) h tx_161 tc_2 (by decide) dX8_use_35 dX8_use_38 dX8_use_39 dX8_use_41 dX8_use_44
set_option maxRecDepth 100000 in
set_option maxHeartbeats 4000000 in
theorem m_X8_use_E {p : Program} {l : Launch} {e : Env} {s : State} {m : MethodId} {args : Array Value} {below : List Frame} {meth : Method} {c : Code} {D : va_G} {cA : Nat → ClassId} {ad : Nat → Nat} (C : Cx p s m args c cX8_use RX8 3 D cA shC ad zsC) (hlocks : meth.locks = false) (hr : meth.sig.returnType = (some .int)) (TH : Th (A0 shC ad s.heap.size) s s.heap) (hst : l.stackTraces = false) (hx : ∀ x ∈ c.exceptionTable.toList, False) {Q : Nat → Int → St → Prop} {a1 a2 : Int} {σ : St} (h : wp_X8_use a1 a2 Q σ) : G p l e rm_X8_use s m args below meth c 0 0 3 D cA shC ad (QX D cA shC ad zsC below args s [2, 4] Q) σ [(0, .ref (ad 0)), (1, vI a1), (2, vI a2)] [] 0 := by
  unfold wp_X8_use at h
  refine g_iload_n C 1 1 rfl rfl dX8_use_0 ?_
  refine g_if_lt C rfl 15 (by decide) dX8_use_1 (fun hc => ?_) (fun hc => ?_)
  · have h := h.1 hc
    exact g_pick [] rfl (m_X8_use_B15 C hlocks hr TH hst hx h)
  · have h := h.2 hc
    refine g_iload_n C 1 1 rfl rfl dX8_use_4 ?_
    refine g_aload_n C 0 0 rfl rfl dX8_use_5 ?_
    refine g_get C iX8 (ci := 8) (o := 0) (v := .ref (ad 23)) rfl rfl 5 (by decide) rfl tw_X8_55 dX8_use_6 ?_
    refine g_get C iX6 (ci := 6) (o := 23) (v := vI (σ 23 0)) rfl rfl 0 (by decide) rfl tw_X8_156 dX8_use_9 ?_
    refine g_icmp_lt C rfl rfl 25 (by decide) dX8_use_12 (fun hc => ?_) (fun hc => ?_)
    · have h := h.1 hc
      refine g_iload_n C 2 2 rfl rfl dX8_use_25 ?_
      refine g_if_lt C rfl 35 (by decide) dX8_use_26 (fun hc => ?_) (fun hc => ?_)
      · have h := h.1 hc
        exact g_pick [] rfl (m_X8_use_B35 C hlocks hr TH hst hx h)
      · have h := h.2 hc
        refine g_iload_n C 2 2 rfl rfl dX8_use_29 ?_
        refine g_bipush C dX8_use_30 (by decide) ?_
        refine g_icmp_lt C (y' := 7) rfl (by decide) 45 (by decide) dX8_use_32 (fun hc => ?_) (fun hc => ?_)
        · have h := h.1 hc
          refine g_aload_n C 0 0 rfl rfl dX8_use_45 ?_
          refine g_get C iX8 (ci := 8) (o := 0) (v := .ref (ad 23)) rfl rfl 5 (by decide) rfl tw_X8_55 dX8_use_46 ?_
          refine g_iload_n C 1 1 rfl rfl dX8_use_49 ?_
          refine g_iload_n C 2 2 rfl rfl dX8_use_50 ?_
          refine g_callIv C (m_X6_useCell l D cA ad h) hv_X6_useCell tw_X8_163 (o := 23) (ci := 6) (As := [vI a1, vI a2]) (st := []) rfl rfl rfl rfl ⟨Nat.le_of_ble_eq_true rfl, Nat.le_of_ble_eq_true rfl⟩ rfl rfl (Nat.le_of_ble_eq_true rfl) dX8_use_51 (fun r2 σ1 h => ?_)
          try dsimp only at h
          exact g_iretX C hlocks hr h dX8_use_54
        · have h := h.2 hc
          exact g_pick [] rfl (m_X8_use_B35 C hlocks hr TH hst hx h)
    · have h := h.2 hc
      exact g_pick [] rfl (m_X8_use_B15 C hlocks hr TH hst hx h)
set_option maxRecDepth 100000 in
set_option maxHeartbeats 4000000 in
theorem m_X8_use (l : Launch) (D : va_G) (cA : Nat → ClassId) (ad : Nat → Nat) {a1 a2 : Int} (hst : l.stackTraces = false) {Q : Nat → Int → St → Prop} {σ : St} (h : wp_X8_use a1 a2 Q σ) : CtX l yX8_use (.code yX8_use cX8_use 3 (some .int)) rm_X8_use D cA shC ad zsC [.ref (ad 0), vI a1, vI a2] σ [2, 4] Q :=
  ct_X RX8 (by decide +kernel) rfl (Nat.le_of_ble_eq_true rfl) (fun p e s m args below meth c C TH hlocks hr hx => m_X8_use_E C hlocks hr TH hst hx h)
abbrev rm_X8_whole : Room := { frames := 6, cells := 1, slots := 6, locals := 100 }
set_option maxRecDepth 100000 in
set_option maxHeartbeats 4000000 in
theorem m_X8_whole_B15 {p : Program} {l : Launch} {e : Env} {s : State} {m : MethodId} {args : Array Value} {below : List Frame} {meth : Method} {c : Code} {D : va_G} {cA : Nat → ClassId} {ad : Nat → Nat} (C : Cx p s m args c cX8_whole RX8 3 D cA shC ad zsC) (hlocks : meth.locks = false) (hr : meth.sig.returnType = (some .int)) (TH : Th (A0 shC ad s.heap.size) s s.heap) (hst : l.stackTraces = false) (hx : ∀ x ∈ c.exceptionTable.toList, False) {Q : Nat → Int → St → Prop} {σ : St} (h : wp_X8_whole_B15 Q σ) : G p l e rm_X8_whole s m args below meth c 0 0 3 D cA shC ad (QX D cA shC ad zsC below args s [2, 4] Q) σ [] [] 15 := by
  unfold wp_X8_whole_B15 at h
  exact g_thrX C TH hst hlocks hx 4 144 168 148 rfl (by decide) h tx_168 tc_4 (by decide) dX8_whole_15 dX8_whole_18 dX8_whole_19 dX8_whole_21 dX8_whole_24
set_option maxRecDepth 100000 in
set_option maxHeartbeats 4000000 in
theorem m_X8_whole_B35 {p : Program} {l : Launch} {e : Env} {s : State} {m : MethodId} {args : Array Value} {below : List Frame} {meth : Method} {c : Code} {D : va_G} {cA : Nat → ClassId} {ad : Nat → Nat} (C : Cx p s m args c cX8_whole RX8 3 D cA shC ad zsC) (hlocks : meth.locks = false) (hr : meth.sig.returnType = (some .int)) (TH : Th (A0 shC ad s.heap.size) s s.heap) (hst : l.stackTraces = false) (hx : ∀ x ∈ c.exceptionTable.toList, False) {Q : Nat → Int → St → Prop} {σ : St} (h : wp_X8_whole_B35 Q σ) : G p l e rm_X8_whole s m args below meth c 0 0 3 D cA shC ad (QX D cA shC ad zsC below args s [2, 4] Q) σ [] [] 35 := by
  unfold wp_X8_whole_B35 at h
  exact g_thrX C TH hst hlocks hx 2 92 170 96 rfl (by decide) h tx_170 tc_2 (by decide) dX8_whole_35 dX8_whole_38 dX8_whole_39 dX8_whole_41 dX8_whole_44
set_option maxRecDepth 100000 in
set_option maxHeartbeats 4000000 in
theorem m_X8_whole_E {p : Program} {l : Launch} {e : Env} {s : State} {m : MethodId} {args : Array Value} {below : List Frame} {meth : Method} {c : Code} {D : va_G} {cA : Nat → ClassId} {ad : Nat → Nat} (C : Cx p s m args c cX8_whole RX8 3 D cA shC ad zsC) (hlocks : meth.locks = false) (hr : meth.sig.returnType = (some .int)) (TH : Th (A0 shC ad s.heap.size) s s.heap) (hst : l.stackTraces = false) (hx : ∀ x ∈ c.exceptionTable.toList, False) {Q : Nat → Int → St → Prop} {a1 a2 : Int} {σ : St} (h : wp_X8_whole a1 a2 Q σ) : G p l e rm_X8_whole s m args below meth c 0 0 3 D cA shC ad (QX D cA shC ad zsC below args s [2, 4] Q) σ [(0, .ref (ad 0)), (1, vI a1), (2, vI a2)] [] 0 := by
  unfold wp_X8_whole at h
  refine g_iload_n C 1 1 rfl rfl dX8_whole_0 ?_
  refine g_if_lt C rfl 15 (by decide) dX8_whole_1 (fun hc => ?_) (fun hc => ?_)
  · have h := h.1 hc
    exact g_pick [] rfl (m_X8_whole_B15 C hlocks hr TH hst hx h)
  · have h := h.2 hc
    refine g_iload_n C 1 1 rfl rfl dX8_whole_4 ?_
    refine g_aload_n C 0 0 rfl rfl dX8_whole_5 ?_
    refine g_get C iX8 (ci := 8) (o := 0) (v := .ref (ad 26)) rfl rfl 6 (by decide) rfl tw_X8_64 dX8_whole_6 ?_
    refine g_get C iX7 (ci := 7) (o := 26) (v := vI (σ 26 0)) rfl rfl 0 (by decide) rfl tw_X8_167 dX8_whole_9 ?_
    refine g_icmp_lt C rfl rfl 25 (by decide) dX8_whole_12 (fun hc => ?_) (fun hc => ?_)
    · have h := h.1 hc
      refine g_iload_n C 2 2 rfl rfl dX8_whole_25 ?_
      refine g_if_lt C rfl 35 (by decide) dX8_whole_26 (fun hc => ?_) (fun hc => ?_)
      · have h := h.1 hc
        exact g_pick [] rfl (m_X8_whole_B35 C hlocks hr TH hst hx h)
      · have h := h.2 hc
        refine g_iload_n C 2 2 rfl rfl dX8_whole_29 ?_
        refine g_bipush C dX8_whole_30 (by decide) ?_
        refine g_icmp_lt C (y' := 6) rfl (by decide) 45 (by decide) dX8_whole_32 (fun hc => ?_) (fun hc => ?_)
        · have h := h.1 hc
          refine g_aload_n C 0 0 rfl rfl dX8_whole_45 ?_
          refine g_get C iX8 (ci := 8) (o := 0) (v := .ref (ad 26)) rfl rfl 6 (by decide) rfl tw_X8_64 dX8_whole_46 ?_
          refine g_iload_n C 1 1 rfl rfl dX8_whole_49 ?_
          refine g_iload_n C 2 2 rfl rfl dX8_whole_50 ?_
          refine g_callIv C (m_X7_cell l D cA ad h) hv_X7_cell tw_X8_172 (o := 26) (ci := 7) (As := [vI a1, vI a2]) (st := []) rfl rfl rfl rfl ⟨Nat.le_of_ble_eq_true rfl, Nat.le_of_ble_eq_true rfl⟩ rfl rfl (Nat.le_of_ble_eq_true rfl) dX8_whole_51 (fun r2 σ1 h => ?_)
          try dsimp only at h
          exact g_iretX C hlocks hr h dX8_whole_54
        · have h := h.2 hc
          exact g_pick [] rfl (m_X8_whole_B35 C hlocks hr TH hst hx h)
    · have h := h.2 hc
      exact g_pick [] rfl (m_X8_whole_B15 C hlocks hr TH hst hx h)
set_option maxRecDepth 100000 in
set_option maxHeartbeats 4000000 in
theorem m_X8_whole (l : Launch) (D : va_G) (cA : Nat → ClassId) (ad : Nat → Nat) {a1 a2 : Int} (hst : l.stackTraces = false) {Q : Nat → Int → St → Prop} {σ : St} (h : wp_X8_whole a1 a2 Q σ) : CtX l yX8_whole (.code yX8_whole cX8_whole 3 (some .int)) rm_X8_whole D cA shC ad zsC [.ref (ad 0), vI a1, vI a2] σ [2, 4] Q :=
  ct_X RX8 (by decide +kernel) rfl (Nat.le_of_ble_eq_true rfl) (fun p e s m args below meth c C TH hlocks hr hx => m_X8_whole_E C hlocks hr TH hst hx h)
abbrev rm_X8_node : Room := { frames := 6, cells := 1, slots := 6, locals := 100 }
set_option maxRecDepth 100000 in
set_option maxHeartbeats 4000000 in
theorem m_X8_node_B32 {p : Program} {l : Launch} {e : Env} {s : State} {m : MethodId} {args : Array Value} {below : List Frame} {meth : Method} {c : Code} {D : va_G} {cA : Nat → ClassId} {ad : Nat → Nat} (C : Cx p s m args c cX8_node RX8 4 D cA shC ad zsC) (hlocks : meth.locks = false) (hr : meth.sig.returnType = (some .int)) (TH : Th (A0 shC ad s.heap.size) s s.heap) (hst : l.stackTraces = false) (hx : ∀ x ∈ c.exceptionTable.toList, False) {Q : Nat → Int → St → Prop} {σ : St} (h : wp_X8_node_B32 Q σ) : G p l e rm_X8_node s m args below meth c 0 0 4 D cA shC ad (QX D cA shC ad zsC below args s [2, 4] Q) σ [] [] 32 := by
  unfold wp_X8_node_B32 at h
  exact g_thrX C TH hst hlocks hx 4 144 179 148 rfl (by decide) h tx_179 tc_4 (by decide) dX8_node_32 dX8_node_35 dX8_node_36 dX8_node_38 dX8_node_41
set_option maxRecDepth 100000 in
set_option maxHeartbeats 4000000 in
theorem m_X8_node_B51 {p : Program} {l : Launch} {e : Env} {s : State} {m : MethodId} {args : Array Value} {below : List Frame} {meth : Method} {c : Code} {D : va_G} {cA : Nat → ClassId} {ad : Nat → Nat} (C : Cx p s m args c cX8_node RX8 4 D cA shC ad zsC) (hlocks : meth.locks = false) (hr : meth.sig.returnType = (some .int)) (TH : Th (A0 shC ad s.heap.size) s s.heap) (hst : l.stackTraces = false) (hx : ∀ x ∈ c.exceptionTable.toList, False) {Q : Nat → Int → St → Prop} {σ : St} (h : wp_X8_node_B51 Q σ) : G p l e rm_X8_node s m args below meth c 0 0 4 D cA shC ad (QX D cA shC ad zsC below args s [2, 4] Q) σ [] [] 51 := by
  unfold wp_X8_node_B51 at h
  exact g_thrX C TH hst hlocks hx 2 92 181 96 rfl (by decide) h tx_181 tc_2 (by decide) dX8_node_51 dX8_node_54 dX8_node_55 dX8_node_57 dX8_node_60
set_option maxRecDepth 100000 in
set_option maxHeartbeats 4000000 in
theorem m_X8_node_E {p : Program} {l : Launch} {e : Env} {s : State} {m : MethodId} {args : Array Value} {below : List Frame} {meth : Method} {c : Code} {D : va_G} {cA : Nat → ClassId} {ad : Nat → Nat} (C : Cx p s m args c cX8_node RX8 4 D cA shC ad zsC) (hlocks : meth.locks = false) (hr : meth.sig.returnType = (some .int)) (TH : Th (A0 shC ad s.heap.size) s s.heap) (hst : l.stackTraces = false) (hx : ∀ x ∈ c.exceptionTable.toList, False) {Q : Nat → Int → St → Prop} {a1 a2 a3 : Int} {σ : St} (h : wp_X8_node a1 a2 a3 Q σ) : G p l e rm_X8_node s m args below meth c 0 0 4 D cA shC ad (QX D cA shC ad zsC below args s [2, 4] Q) σ [(0, .ref (ad 0)), (1, vI a1), (2, vI a2), (3, vI a3)] [] 0 := by
  unfold wp_X8_node at h
  refine g_iload_n C 1 1 rfl rfl dX8_node_0 ?_
  refine g_if_lt C rfl 32 (by decide) dX8_node_1 (fun hc => ?_) (fun hc => ?_)
  · have h := h.1 hc
    exact g_pick [] rfl (m_X8_node_B32 C hlocks hr TH hst hx h)
  · have h := h.2 hc
    refine g_iload_n C 1 1 rfl rfl dX8_node_4 ?_
    refine g_aload_n C 0 0 rfl rfl dX8_node_5 ?_
    refine g_get C iX8 (ci := 8) (o := 0) (v := .ref (ad 3)) rfl rfl 1 (by decide) rfl tw_X8_19 dX8_node_6 ?_
    refine g_get C iX1 (ci := 1) (o := 3) (v := vI (σ 3 4)) rfl rfl 4 (by decide) rfl tw_X8_109 dX8_node_9 ?_
    refine g_icmp_ge C rfl rfl 32 (by decide) dX8_node_12 (fun hc => ?_) (fun hc => ?_)
    · have h := h.1 hc
      exact g_pick [] rfl (m_X8_node_B32 C hlocks hr TH hst hx h)
    · have h := h.2 hc
      refine g_iload_n C 2 2 rfl rfl dX8_node_15 ?_
      refine g_if_lt C rfl 32 (by decide) dX8_node_16 (fun hc => ?_) (fun hc => ?_)
      · have h := h.1 hc
        exact g_pick [] rfl (m_X8_node_B32 C hlocks hr TH hst hx h)
      · have h := h.2 hc
        refine g_iload_n C 2 2 rfl rfl dX8_node_19 ?_
        refine g_aload_n C 0 0 rfl rfl dX8_node_20 ?_
        refine g_get C iX8 (ci := 8) (o := 0) (v := .ref (ad 3)) rfl rfl 1 (by decide) rfl tw_X8_19 dX8_node_21 ?_
        refine g_get C iX1 (ci := 1) (o := 3) (v := .ref (ad 10)) rfl rfl 2 (by decide) rfl tw_X8_175 dX8_node_24 ?_
        refine g_iload_n C 1 1 rfl rfl dX8_node_27 ?_
        obtain ⟨hi, h⟩ := h
        refine g_iald C (o := 10) (N := 17) rfl rfl hi rfl dX8_node_28 ?_
        refine g_icmp_lt C rfl rfl 42 (by decide) dX8_node_29 (fun hc => ?_) (fun hc => ?_)
        · have h := h.1 hc
          refine g_iload_n C 3 3 rfl rfl dX8_node_42 ?_
          refine g_if_lt C rfl 51 (by decide) dX8_node_43 (fun hc => ?_) (fun hc => ?_)
          · have h := h.1 hc
            exact g_pick [] rfl (m_X8_node_B51 C hlocks hr TH hst hx h)
          · have h := h.2 hc
            refine g_iload_n C 3 3 rfl rfl dX8_node_46 ?_
            refine g_iconst C dX8_node_47 ?_
            refine g_icmp_le C (y' := 4) rfl (by decide) 61 (by decide) dX8_node_48 (fun hc => ?_) (fun hc => ?_)
            · have h := h.1 hc
              refine g_aload_n C 0 0 rfl rfl dX8_node_61 ?_
              refine g_get C iX8 (ci := 8) (o := 0) (v := .ref (ad 3)) rfl rfl 1 (by decide) rfl tw_X8_19 dX8_node_62 ?_
              refine g_iload_n C 1 1 rfl rfl dX8_node_65 ?_
              refine g_iload_n C 2 2 rfl rfl dX8_node_66 ?_
              refine g_callIs C (m_X1_row l D cA ad h) hv_X1_row tw_X8_183 (As := [vI a1, vI a2]) (st := [.ref (ad 3)]) rfl rfl ⟨Nat.le_of_ble_eq_true rfl, Nat.le_of_ble_eq_true rfl⟩ rfl rfl (Nat.le_of_ble_eq_true rfl) dX8_node_67 (fun r2 σ1 h => ?_)
              try dsimp only at h
              refine g_iload_n C 3 3 rfl rfl dX8_node_70 ?_
              refine g_callIv C (m_X1_cell l D cA ad h) hv_X1_cell tw_X8_186 (o := 3) (ci := 1) (As := [vI r2, vI a3]) (st := []) rfl rfl rfl rfl ⟨Nat.le_of_ble_eq_true rfl, Nat.le_of_ble_eq_true rfl⟩ rfl rfl (Nat.le_of_ble_eq_true rfl) dX8_node_71 (fun r4 σ3 h => ?_)
              try dsimp only at h
              exact g_iretX C hlocks hr h dX8_node_74
            · have h := h.2 hc
              exact g_pick [] rfl (m_X8_node_B51 C hlocks hr TH hst hx h)
        · have h := h.2 hc
          exact g_pick [] rfl (m_X8_node_B32 C hlocks hr TH hst hx h)
set_option maxRecDepth 100000 in
set_option maxHeartbeats 4000000 in
theorem m_X8_node (l : Launch) (D : va_G) (cA : Nat → ClassId) (ad : Nat → Nat) {a1 a2 a3 : Int} (hst : l.stackTraces = false) {Q : Nat → Int → St → Prop} {σ : St} (h : wp_X8_node a1 a2 a3 Q σ) : CtX l yX8_node (.code yX8_node cX8_node 4 (some .int)) rm_X8_node D cA shC ad zsC [.ref (ad 0), vI a1, vI a2, vI a3] σ [2, 4] Q :=
  ct_X RX8 (by decide +kernel) rfl (Nat.le_of_ble_eq_true rfl) (fun p e s m args below meth c C TH hlocks hr hx => m_X8_node_E C hlocks hr TH hst hx h)
abbrev rm_X8_letter : Room := { frames := 6, cells := 1, slots := 6, locals := 100 }
set_option maxRecDepth 100000 in
set_option maxHeartbeats 4000000 in
theorem m_X8_letter_B51 {p : Program} {l : Launch} {e : Env} {s : State} {m : MethodId} {args : Array Value} {below : List Frame} {meth : Method} {c : Code} {D : va_G} {cA : Nat → ClassId} {ad : Nat → Nat} (C : Cx p s m args c cX8_letter RX8 5 D cA shC ad zsC) (hlocks : meth.locks = false) (hr : meth.sig.returnType = (some .int)) (TH : Th (A0 shC ad s.heap.size) s s.heap) (hst : l.stackTraces = false) (hx : ∀ x ∈ c.exceptionTable.toList, False) {Q : Nat → Int → St → Prop} {σ : St} (h : wp_X8_letter_B51 Q σ) : G p l e rm_X8_letter s m args below meth c 0 0 5 D cA shC ad (QX D cA shC ad zsC below args s [4] Q) σ [] [] 51 := by
  unfold wp_X8_letter_B51 at h
  exact g_thrX C TH hst hlocks hx 4 144 194 148 rfl (by decide) h tx_194 tc_4 (by decide) dX8_letter_51 dX8_letter_54 dX8_letter_55 dX8_letter_57 dX8_letter_60
set_option maxRecDepth 100000 in
set_option maxHeartbeats 4000000 in
theorem m_X8_letter_B21 {p : Program} {l : Launch} {e : Env} {s : State} {m : MethodId} {args : Array Value} {below : List Frame} {meth : Method} {c : Code} {D : va_G} {cA : Nat → ClassId} {ad : Nat → Nat} (C : Cx p s m args c cX8_letter RX8 5 D cA shC ad zsC) (hlocks : meth.locks = false) (hr : meth.sig.returnType = (some .int)) (TH : Th (A0 shC ad s.heap.size) s s.heap) (hst : l.stackTraces = false) (hx : ∀ x ∈ c.exceptionTable.toList, False) {Q : Nat → Int → St → Prop} {x2 x3 : Int} {σ : St} (h : wp_X8_letter_B21 x2 x3 Q σ) : G p l e rm_X8_letter s m args below meth c 0 0 5 D cA shC ad (QX D cA shC ad zsC below args s [4] Q) σ [(2, vI x2), (3, vI x3)] [.ref (ad 4)] 21 := by
  unfold wp_X8_letter_B21 at h
  refine g_astore C 4 [(2, vI x2), (3, vI x3)] (by decide) rfl dX8_letter_21 ?_
  refine g_iload_n C 1 2 rfl rfl dX8_letter_23 ?_
  refine g_if_lt C rfl 51 (by decide) dX8_letter_24 (fun hc => ?_) (fun hc => ?_)
  · have h := h.1 hc
    exact g_pick [] rfl (m_X8_letter_B51 C hlocks hr TH hst hx h)
  · have h := h.2 hc
    refine g_iload_n C 1 2 rfl rfl dX8_letter_27 ?_
    refine g_aload C 0 4 rfl dX8_letter_28 ?_
    refine g_get C iX2 (ci := 2) (o := 4) (v := vI (σ 4 3)) rfl rfl 3 (by decide) rfl tw_X8_122 dX8_letter_30 ?_
    refine g_icmp_ge C rfl rfl 51 (by decide) dX8_letter_33 (fun hc => ?_) (fun hc => ?_)
    · have h := h.1 hc
      exact g_pick [] rfl (m_X8_letter_B51 C hlocks hr TH hst hx h)
    · have h := h.2 hc
      refine g_iload_n C 2 3 rfl rfl dX8_letter_36 ?_
      refine g_if_lt C rfl 51 (by decide) dX8_letter_37 (fun hc => ?_) (fun hc => ?_)
      · have h := h.1 hc
        exact g_pick [] rfl (m_X8_letter_B51 C hlocks hr TH hst hx h)
      · have h := h.2 hc
        refine g_iload_n C 2 3 rfl rfl dX8_letter_40 ?_
        refine g_aload C 0 4 rfl dX8_letter_41 ?_
        refine g_get C iX2 (ci := 2) (o := 4) (v := .ref (ad 6)) rfl rfl 2 (by decide) rfl tw_X8_191 dX8_letter_43 ?_
        refine g_iload_n C 1 2 rfl rfl dX8_letter_46 ?_
        obtain ⟨hi, h⟩ := h
        refine g_iald C (o := 6) (N := 16) rfl rfl hi rfl dX8_letter_47 ?_
        refine g_icmp_lt C rfl rfl 61 (by decide) dX8_letter_48 (fun hc => ?_) (fun hc => ?_)
        · have h := h.1 hc
          refine g_aload C 0 4 rfl dX8_letter_61 ?_
          refine g_get C iX2 (ci := 2) (o := 4) (v := .ref (ad 5)) rfl rfl 1 (by decide) rfl tw_X8_196 dX8_letter_63 ?_
          refine g_aload C 0 4 rfl dX8_letter_66 ?_
          refine g_iload_n C 1 2 rfl rfl dX8_letter_68 ?_
          refine g_callIv C (m_X2_begin_4 l D cA ad h) hv_X2_begin tw_X8_199 (o := 4) (ci := 2) (As := [vI x2]) (st := [.ref (ad 5)]) rfl rfl rfl rfl ⟨Nat.le_of_ble_eq_true rfl, Nat.le_of_ble_eq_true rfl⟩ rfl rfl (Nat.le_of_ble_eq_true rfl) dX8_letter_69 (fun r2 σ1 h => ?_)
          try dsimp only at h
          refine g_iload_n C 2 3 rfl rfl dX8_letter_72 ?_
          refine g_iadd C dX8_letter_73 ?_
          obtain ⟨hi, h⟩ := h
          refine g_iald C (o := 5) (N := 128) rfl rfl hi rfl dX8_letter_74 ?_
          exact g_iretX C hlocks hr h dX8_letter_75
        · have h := h.2 hc
          exact g_pick [] rfl (m_X8_letter_B51 C hlocks hr TH hst hx h)
set_option maxRecDepth 100000 in
set_option maxHeartbeats 4000000 in
theorem m_X8_letter_B21_1 {p : Program} {l : Launch} {e : Env} {s : State} {m : MethodId} {args : Array Value} {below : List Frame} {meth : Method} {c : Code} {D : va_G} {cA : Nat → ClassId} {ad : Nat → Nat} (C : Cx p s m args c cX8_letter RX8 5 D cA shC ad zsC) (hlocks : meth.locks = false) (hr : meth.sig.returnType = (some .int)) (TH : Th (A0 shC ad s.heap.size) s s.heap) (hst : l.stackTraces = false) (hx : ∀ x ∈ c.exceptionTable.toList, False) {Q : Nat → Int → St → Prop} {x2 x3 : Int} {σ : St} (h : wp_X8_letter_B21_1 x2 x3 Q σ) : G p l e rm_X8_letter s m args below meth c 0 0 5 D cA shC ad (QX D cA shC ad zsC below args s [4] Q) σ [(2, vI x2), (3, vI x3)] [.ref (ad 7)] 21 := by
  unfold wp_X8_letter_B21_1 at h
  refine g_astore C 4 [(2, vI x2), (3, vI x3)] (by decide) rfl dX8_letter_21 ?_
  refine g_iload_n C 1 2 rfl rfl dX8_letter_23 ?_
  refine g_if_lt C rfl 51 (by decide) dX8_letter_24 (fun hc => ?_) (fun hc => ?_)
  · have h := h.1 hc
    exact g_pick [] rfl (m_X8_letter_B51 C hlocks hr TH hst hx h)
  · have h := h.2 hc
    refine g_iload_n C 1 2 rfl rfl dX8_letter_27 ?_
    refine g_aload C 0 4 rfl dX8_letter_28 ?_
    refine g_get C iX2 (ci := 2) (o := 7) (v := vI (σ 7 3)) rfl rfl 3 (by decide) rfl tw_X8_122 dX8_letter_30 ?_
    refine g_icmp_ge C rfl rfl 51 (by decide) dX8_letter_33 (fun hc => ?_) (fun hc => ?_)
    · have h := h.1 hc
      exact g_pick [] rfl (m_X8_letter_B51 C hlocks hr TH hst hx h)
    · have h := h.2 hc
      refine g_iload_n C 2 3 rfl rfl dX8_letter_36 ?_
      refine g_if_lt C rfl 51 (by decide) dX8_letter_37 (fun hc => ?_) (fun hc => ?_)
      · have h := h.1 hc
        exact g_pick [] rfl (m_X8_letter_B51 C hlocks hr TH hst hx h)
      · have h := h.2 hc
        refine g_iload_n C 2 3 rfl rfl dX8_letter_40 ?_
        refine g_aload C 0 4 rfl dX8_letter_41 ?_
        refine g_get C iX2 (ci := 2) (o := 7) (v := .ref (ad 9)) rfl rfl 2 (by decide) rfl tw_X8_191 dX8_letter_43 ?_
        refine g_iload_n C 1 2 rfl rfl dX8_letter_46 ?_
        obtain ⟨hi, h⟩ := h
        refine g_iald C (o := 9) (N := 32) rfl rfl hi rfl dX8_letter_47 ?_
        refine g_icmp_lt C rfl rfl 61 (by decide) dX8_letter_48 (fun hc => ?_) (fun hc => ?_)
        · have h := h.1 hc
          refine g_aload C 0 4 rfl dX8_letter_61 ?_
          refine g_get C iX2 (ci := 2) (o := 7) (v := .ref (ad 8)) rfl rfl 1 (by decide) rfl tw_X8_196 dX8_letter_63 ?_
          refine g_aload C 0 4 rfl dX8_letter_66 ?_
          refine g_iload_n C 1 2 rfl rfl dX8_letter_68 ?_
          refine g_callIv C (m_X2_begin_7 l D cA ad h) hv_X2_begin tw_X8_199 (o := 7) (ci := 2) (As := [vI x2]) (st := [.ref (ad 8)]) rfl rfl rfl rfl ⟨Nat.le_of_ble_eq_true rfl, Nat.le_of_ble_eq_true rfl⟩ rfl rfl (Nat.le_of_ble_eq_true rfl) dX8_letter_69 (fun r2 σ1 h => ?_)
          try dsimp only at h
          refine g_iload_n C 2 3 rfl rfl dX8_letter_72 ?_
          refine g_iadd C dX8_letter_73 ?_
          obtain ⟨hi, h⟩ := h
          refine g_iald C (o := 8) (N := 384) rfl rfl hi rfl dX8_letter_74 ?_
          exact g_iretX C hlocks hr h dX8_letter_75
        · have h := h.2 hc
          exact g_pick [] rfl (m_X8_letter_B51 C hlocks hr TH hst hx h)
set_option maxRecDepth 100000 in
set_option maxHeartbeats 4000000 in
theorem m_X8_letter_E {p : Program} {l : Launch} {e : Env} {s : State} {m : MethodId} {args : Array Value} {below : List Frame} {meth : Method} {c : Code} {D : va_G} {cA : Nat → ClassId} {ad : Nat → Nat} (C : Cx p s m args c cX8_letter RX8 5 D cA shC ad zsC) (hlocks : meth.locks = false) (hr : meth.sig.returnType = (some .int)) (TH : Th (A0 shC ad s.heap.size) s s.heap) (hst : l.stackTraces = false) (hx : ∀ x ∈ c.exceptionTable.toList, False) {Q : Nat → Int → St → Prop} {a1 a2 a3 : Int} {σ : St} (h : wp_X8_letter a1 a2 a3 Q σ) : G p l e rm_X8_letter s m args below meth c 0 0 5 D cA shC ad (QX D cA shC ad zsC below args s [4] Q) σ [(0, .ref (ad 0)), (1, vI a1), (2, vI a2), (3, vI a3)] [] 0 := by
  unfold wp_X8_letter at h
  refine g_iload_n C 1 1 rfl rfl dX8_letter_0 ?_
  refine g_if_eq C rfl 14 (by decide) dX8_letter_1 (fun hc => ?_) (fun hc => ?_)
  · have h := h.1 hc
    refine g_aload_n C 0 0 rfl rfl dX8_letter_14 ?_
    refine g_get C iX8 (ci := 8) (o := 0) (v := .ref (ad 3)) rfl rfl 1 (by decide) rfl tw_X8_19 dX8_letter_15 ?_
    refine g_get C iX1 (ci := 1) (o := 3) (v := .ref (ad 4)) rfl rfl 0 (by decide) rfl tw_X8_188 dX8_letter_18 ?_
    exact g_pick [2, 3] rfl (m_X8_letter_B21 C hlocks hr TH hst hx h)
  · have h := h.2 hc
    refine g_aload_n C 0 0 rfl rfl dX8_letter_4 ?_
    refine g_get C iX8 (ci := 8) (o := 0) (v := .ref (ad 3)) rfl rfl 1 (by decide) rfl tw_X8_19 dX8_letter_5 ?_
    refine g_get C iX1 (ci := 1) (o := 3) (v := .ref (ad 7)) rfl rfl 1 (by decide) rfl tw_X8_187 dX8_letter_8 ?_
    refine g_goto C 21 (by decide) dX8_letter_11 ?_
    exact g_pick [2, 3] rfl (m_X8_letter_B21_1 C hlocks hr TH hst hx h)
set_option maxRecDepth 100000 in
set_option maxHeartbeats 4000000 in
theorem m_X8_letter (l : Launch) (D : va_G) (cA : Nat → ClassId) (ad : Nat → Nat) {a1 a2 a3 : Int} (hst : l.stackTraces = false) {Q : Nat → Int → St → Prop} {σ : St} (h : wp_X8_letter a1 a2 a3 Q σ) : CtX l yX8_letter (.code yX8_letter cX8_letter 5 (some .int)) rm_X8_letter D cA shC ad zsC [.ref (ad 0), vI a1, vI a2, vI a3] σ [4] Q :=
  ct_X RX8 (by decide +kernel) rfl (Nat.le_of_ble_eq_true rfl) (fun p e s m args below meth c C TH hlocks hr hx => m_X8_letter_E C hlocks hr TH hst hx h)
abbrev rm_X8_count : Room := { frames := 6, cells := 1, slots := 6, locals := 100 }
set_option maxRecDepth 100000 in
set_option maxHeartbeats 4000000 in
theorem m_X8_count_E {p : Program} {l : Launch} {e : Env} {s : State} {m : MethodId} {args : Array Value} {below : List Frame} {meth : Method} {c : Code} {D : va_G} {cA : Nat → ClassId} {ad : Nat → Nat} (C : Cx p s m args c cX8_count RX8 2 D cA shC ad zsC) (hlocks : meth.locks = false) (hr : meth.sig.returnType = (some .int)) (TH : Th (A0 shC ad s.heap.size) s s.heap) (hst : l.stackTraces = false) (hx : ∀ x ∈ c.exceptionTable.toList, False) {Q : Nat → Int → St → Prop} {a1 : Int} {σ : St} (h : wp_X8_count a1 Q σ) : G p l e rm_X8_count s m args below meth c 0 0 2 D cA shC ad (QX D cA shC ad zsC below args s [2] Q) σ [(0, .ref (ad 0)), (1, vI a1)] [] 0 := by
  unfold wp_X8_count at h
  refine g_iload_n C 1 1 rfl rfl dX8_count_0 ?_
  rcases (show w32 a1 = 0 ∨ w32 a1 = 1 ∨ w32 a1 = 2 ∨ w32 a1 = 3 ∨ w32 a1 = 4 ∨ w32 a1 = 5 ∨ w32 a1 = 6 ∨ (w32 a1 < 0 ∨ 6 < w32 a1) by omega) with hc | hc | hc | hc | hc | hc | hc | hc
  · have h := h.1 hc
    refine g_tabIn C 44 0 hc (by decide) (by decide) rfl (by decide) dX8_count_1 ?_
    refine g_aload_n C 0 0 rfl rfl dX8_count_44 ?_
    refine g_get C iX8 (ci := 8) (o := 0) (v := .ref (ad 3)) rfl rfl 1 (by decide) rfl tw_X8_19 dX8_count_45 ?_
    refine g_get C iX1 (ci := 1) (o := 3) (v := vI (σ 3 4)) rfl rfl 4 (by decide) rfl tw_X8_109 dX8_count_48 ?_
    exact g_iretX C hlocks hr h dX8_count_51
  · have h := h.2.1 hc
    refine g_tabIn C 52 1 hc (by decide) (by decide) rfl (by decide) dX8_count_1 ?_
    refine g_aload_n C 0 0 rfl rfl dX8_count_52 ?_
    refine g_get C iX8 (ci := 8) (o := 0) (v := .ref (ad 3)) rfl rfl 1 (by decide) rfl tw_X8_19 dX8_count_53 ?_
    refine g_get C iX1 (ci := 1) (o := 3) (v := .ref (ad 4)) rfl rfl 0 (by decide) rfl tw_X8_188 dX8_count_56 ?_
    refine g_get C iX2 (ci := 2) (o := 4) (v := vI (σ 4 3)) rfl rfl 3 (by decide) rfl tw_X8_122 dX8_count_59 ?_
    exact g_iretX C hlocks hr h dX8_count_62
  · have h := h.2.2.1 hc
    refine g_tabIn C 63 2 hc (by decide) (by decide) rfl (by decide) dX8_count_1 ?_
    refine g_aload_n C 0 0 rfl rfl dX8_count_63 ?_
    refine g_get C iX8 (ci := 8) (o := 0) (v := .ref (ad 3)) rfl rfl 1 (by decide) rfl tw_X8_19 dX8_count_64 ?_
    refine g_get C iX1 (ci := 1) (o := 3) (v := .ref (ad 7)) rfl rfl 1 (by decide) rfl tw_X8_187 dX8_count_67 ?_
    refine g_get C iX2 (ci := 2) (o := 7) (v := vI (σ 7 3)) rfl rfl 3 (by decide) rfl tw_X8_122 dX8_count_70 ?_
    exact g_iretX C hlocks hr h dX8_count_73
  · have h := h.2.2.2.1 hc
    refine g_tabIn C 74 3 hc (by decide) (by decide) rfl (by decide) dX8_count_1 ?_
    refine g_aload_n C 0 0 rfl rfl dX8_count_74 ?_
    refine g_get C iX8 (ci := 8) (o := 0) (v := .ref (ad 13)) rfl rfl 3 (by decide) rfl tw_X8_37 dX8_count_75 ?_
    refine g_get C iX3 (ci := 3) (o := 13) (v := .ref (ad 14)) rfl rfl 0 (by decide) rfl tw_X8_118 dX8_count_78 ?_
    refine g_get C iX2 (ci := 2) (o := 14) (v := vI (σ 14 3)) rfl rfl 3 (by decide) rfl tw_X8_122 dX8_count_81 ?_
    exact g_iretX C hlocks hr h dX8_count_84
  · have h := h.2.2.2.2.1 hc
    refine g_tabIn C 85 4 hc (by decide) (by decide) rfl (by decide) dX8_count_1 ?_
    refine g_aload_n C 0 0 rfl rfl dX8_count_85 ?_
    refine g_get C iX8 (ci := 8) (o := 0) (v := vI (σ 0 9)) rfl rfl 9 (by decide) rfl tw_X8_75 dX8_count_86 ?_
    exact g_iretX C hlocks hr h dX8_count_89
  · have h := h.2.2.2.2.2.1 hc
    refine g_tabIn C 90 5 hc (by decide) (by decide) rfl (by decide) dX8_count_1 ?_
    refine g_aload_n C 0 0 rfl rfl dX8_count_90 ?_
    refine g_get C iX8 (ci := 8) (o := 0) (v := .ref (ad 23)) rfl rfl 5 (by decide) rfl tw_X8_55 dX8_count_91 ?_
    refine g_get C iX6 (ci := 6) (o := 23) (v := vI (σ 23 0)) rfl rfl 0 (by decide) rfl tw_X8_156 dX8_count_94 ?_
    exact g_iretX C hlocks hr h dX8_count_97
  · have h := h.2.2.2.2.2.2.1 hc
    refine g_tabIn C 98 6 hc (by decide) (by decide) rfl (by decide) dX8_count_1 ?_
    refine g_aload_n C 0 0 rfl rfl dX8_count_98 ?_
    refine g_get C iX8 (ci := 8) (o := 0) (v := .ref (ad 26)) rfl rfl 6 (by decide) rfl tw_X8_64 dX8_count_99 ?_
    refine g_get C iX7 (ci := 7) (o := 26) (v := vI (σ 26 0)) rfl rfl 0 (by decide) rfl tw_X8_167 dX8_count_102 ?_
    exact g_iretX C hlocks hr h dX8_count_105
  · have h := h.2.2.2.2.2.2.2 hc
    refine g_tabOut C 106 hc (by decide) dX8_count_1 ?_
    exact g_thrX C TH hst hlocks hx 2 92 203 96 rfl (by decide) h tx_203 tc_2 (by decide) dX8_count_106 dX8_count_109 dX8_count_110 dX8_count_112 dX8_count_115
set_option maxRecDepth 100000 in
set_option maxHeartbeats 4000000 in
theorem m_X8_count (l : Launch) (D : va_G) (cA : Nat → ClassId) (ad : Nat → Nat) {a1 : Int} (hst : l.stackTraces = false) {Q : Nat → Int → St → Prop} {σ : St} (h : wp_X8_count a1 Q σ) : CtX l yX8_count (.code yX8_count cX8_count 2 (some .int)) rm_X8_count D cA shC ad zsC [.ref (ad 0), vI a1] σ [2] Q :=
  ct_X RX8 (by decide +kernel) rfl (Nat.le_of_ble_eq_true rfl) (fun p e s m args below meth c C TH hlocks hr hx => m_X8_count_E C hlocks hr TH hst hx h)
