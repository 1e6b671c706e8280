set_option maxRecDepth 100000 in
set_option maxHeartbeats 4000000 in
theorem m_X5_takeNode_B24 {p : Program} {l : Launch} {e : Env} {s : State} {m : MethodId} {args : Array Value} {below : List Frame} {meth : Method} {c : Code} {D : va_G} {cA : Nat → ClassId} {ad : Nat → Nat} (C : Cx p s m args c cX5_takeNode RX5 3 D cA shC ad zsC) (hlocks : meth.locks = false) (hr : meth.sig.returnType = (some .int)) {Q : Int → St → Prop} {σ : St} (h : wp_X5_takeNode_B24 Q σ) : G p l e rm_X5_takeNode s m args below meth c 0 0 3 D cA shC ad (QI D cA shC ad zsC below args s Q) σ [(0, .ref (ad 12))] [] 24 := by
  unfold wp_X5_takeNode_B24 at h
  refine g_aload_n C 0 0 rfl rfl dX5_takeNode_24 ?_
  refine g_get C iX5 (ci := 5) (o := 12) (v := .ref (ad 3)) rfl rfl 3 (by decide) rfl tw_X5_15 dX5_takeNode_25 ?_
  refine g_get C iX1 (ci := 1) (o := 3) (v := .ref (ad 10)) rfl rfl 2 (by decide) rfl tw_X5_69 dX5_takeNode_28 ?_
  refine g_aload_n C 0 0 rfl rfl dX5_takeNode_31 ?_
  refine g_get C iX5 (ci := 5) (o := 12) (v := .ref (ad 3)) rfl rfl 3 (by decide) rfl tw_X5_15 dX5_takeNode_32 ?_
  refine g_get C iX1 (ci := 1) (o := 3) (v := vI (σ 3 4)) rfl rfl 4 (by decide) rfl tw_X5_46 dX5_takeNode_35 ?_
  obtain ⟨hi, h⟩ := h
  refine g_iald C (o := 10) (N := 17) rfl rfl hi rfl dX5_takeNode_38 ?_
  refine g_bipush C dX5_takeNode_39 (by decide) ?_
  refine g_icmp_lt C (y' := 12) rfl (by decide) 46 (by decide) dX5_takeNode_41 (fun hc => ?_) (fun hc => ?_)
  · have h := h.1 hc
    refine g_aload_n C 0 0 rfl rfl dX5_takeNode_46 ?_
    refine g_get C iX5 (ci := 5) (o := 12) (v := .ref (ad 1)) rfl rfl 2 (by decide) rfl tw_X5_9 dX5_takeNode_47 ?_
    refine g_get C iX4 (ci := 4) (o := 1) (v := vI (σ 1 2)) rfl rfl 2 (by decide) rfl tw_X5_81 dX5_takeNode_50 ?_
    refine g_iconst C dX5_takeNode_53 ?_
    refine g_icmp_ne C (y' := 3) rfl (by decide) 61 (by decide) dX5_takeNode_54 (fun hc => ?_) (fun hc => ?_)
    · have h := h.1 hc
      refine g_iconst C dX5_takeNode_61 ?_
      exact g_pick [0] rfl (m_X5_takeNode_B62 C hlocks hr h)
    · have h := h.2 hc
      refine g_iconst C dX5_takeNode_57 ?_
      refine g_goto C 62 (by decide) dX5_takeNode_58 ?_
      exact g_pick [0] rfl (m_X5_takeNode_B62 C hlocks hr h)
  · have h := h.2 hc
    refine g_iconst C dX5_takeNode_44 ?_
    exact g_iret C hlocks hr h dX5_takeNode_45
set_option maxRecDepth 100000 in
set_option maxHeartbeats 4000000 in
theorem m_X5_takeNode_E {p : Program} {l : Launch} {e : Env} {s : State} {m : MethodId} {args : Array Value} {below : List Frame} {meth : Method} {c : Code} {D : va_G} {cA : Nat → ClassId} {ad : Nat → Nat} (C : Cx p s m args c cX5_takeNode RX5 3 D cA shC ad zsC) (hlocks : meth.locks = false) (hr : meth.sig.returnType = (some .int)) {Q : Int → St → Prop} {σ : St} (h : wp_X5_takeNode Q σ) : G p l e rm_X5_takeNode s m args below meth c 0 0 3 D cA shC ad (QI D cA shC ad zsC below args s Q) σ [(0, .ref (ad 12))] [] 0 := by
  unfold wp_X5_takeNode at h
  refine g_aload_n C 0 0 rfl rfl dX5_takeNode_0 ?_
  refine g_get C iX5 (ci := 5) (o := 12) (v := .ref (ad 1)) rfl rfl 2 (by decide) rfl tw_X5_9 dX5_takeNode_1 ?_
  refine g_get C iX4 (ci := 4) (o := 1) (v := vI (σ 1 2)) rfl rfl 2 (by decide) rfl tw_X5_81 dX5_takeNode_4 ?_
  refine g_iconst C dX5_takeNode_7 ?_
  refine g_icmp_eq C (y' := 2) rfl (by decide) 24 (by decide) dX5_takeNode_8 (fun hc => ?_) (fun hc => ?_)
  · have h := h.1 hc
    exact g_pick [0] rfl (m_X5_takeNode_B24 C hlocks hr h)
  · have h := h.2 hc
    refine g_aload_n C 0 0 rfl rfl dX5_takeNode_11 ?_
    refine g_get C iX5 (ci := 5) (o := 12) (v := .ref (ad 1)) rfl rfl 2 (by decide) rfl tw_X5_9 dX5_takeNode_12 ?_
    refine g_get C iX4 (ci := 4) (o := 1) (v := vI (σ 1 2)) rfl rfl 2 (by decide) rfl tw_X5_81 dX5_takeNode_15 ?_
    refine g_iconst C dX5_takeNode_18 ?_
    refine g_icmp_eq C (y' := 3) rfl (by decide) 24 (by decide) dX5_takeNode_19 (fun hc => ?_) (fun hc => ?_)
    · have h := h.1 hc
      exact g_pick [0] rfl (m_X5_takeNode_B24 C hlocks hr h)
    · have h := h.2 hc
      refine g_iconst C dX5_takeNode_22 ?_
      exact g_iret C hlocks hr h dX5_takeNode_23
set_option maxRecDepth 100000 in
set_option maxHeartbeats 4000000 in
theorem m_X5_takeNode (l : Launch) (D : va_G) (cA : Nat → ClassId) (ad : Nat → Nat) {Q : Int → St → Prop} {σ : St} (h : wp_X5_takeNode Q σ) : CtI l yX5_takeNode (.code yX5_takeNode cX5_takeNode 3 (some .int)) rm_X5_takeNode D cA shC ad zsC [.ref (ad 12)] σ Q :=
  ct_I RX5 (by decide +kernel) rfl (Nat.le_of_ble_eq_true rfl) (fun p e s m args below meth c C hlocks hr => m_X5_takeNode_E C hlocks hr h)
abbrev rm_X4_isAt : Room := { frames := 1, cells := 0, slots := 0, locals := 0 }
set_option maxRecDepth 100000 in
set_option maxHeartbeats 4000000 in
theorem m_X4_isAt_E {p : Program} {l : Launch} {e : Env} {s : State} {m : MethodId} {args : Array Value} {below : List Frame} {meth : Method} {c : Code} {D : va_G} {cA : Nat → ClassId} {ad : Nat → Nat} (C : Cx p s m args c cX4_isAt RX4 2 D cA shC ad zsC) (hlocks : meth.locks = false) (hr : meth.sig.returnType = (some .boolean)) {Q : Int → St → Prop} {a1 : Int} {σ : St} (h : wp_X4_isAt a1 Q σ) : G p l e rm_X4_isAt s m args below meth c 0 0 2 D cA shC ad (QI D cA shC ad zsC below args s Q) σ [(0, .ref (ad 1)), (1, vI a1)] [] 0 := by
  unfold wp_X4_isAt at h
  refine g_aload_n C 0 0 rfl rfl dX4_isAt_0 ?_
  refine g_get C iX4 (ci := 4) (o := 1) (v := vI (σ 1 2)) rfl rfl 2 (by decide) rfl tw_X4_28 dX4_isAt_1 ?_
  refine g_iconst C dX4_isAt_4 ?_
  refine g_icmp_ne C (y' := 4) rfl (by decide) 25 (by decide) dX4_isAt_5 (fun hc => ?_) (fun hc => ?_)
  · have h := h.1 hc
    refine g_iconst C dX4_isAt_25 ?_
    exact g_zret C hlocks hr (by decide) h dX4_isAt_26
  · have h := h.2 hc
    refine g_aload_n C 0 0 rfl rfl dX4_isAt_8 ?_
    refine g_get C iX4 (ci := 4) (o := 1) (v := .ref (ad 2)) rfl rfl 0 (by decide) rfl tw_X4_9 dX4_isAt_9 ?_
    refine g_aload_n C 0 0 rfl rfl dX4_isAt_12 ?_
    refine g_get C iX4 (ci := 4) (o := 1) (v := vI (σ 1 3)) rfl rfl 3 (by decide) rfl tw_X4_25 dX4_isAt_13 ?_
    obtain ⟨hi, h⟩ := h
    refine g_iald C (o := 2) (N := 1000) rfl rfl hi rfl dX4_isAt_16 ?_
    refine g_iload_n C 1 1 rfl rfl dX4_isAt_17 ?_
    refine g_icmp_ne C rfl rfl 25 (by decide) dX4_isAt_18 (fun hc => ?_) (fun hc => ?_)
    · have h := h.1 hc
      refine g_iconst C dX4_isAt_25 ?_
      exact g_zret C hlocks hr (by decide) h dX4_isAt_26
    · have h := h.2 hc
      refine g_iconst C dX4_isAt_21 ?_
      refine g_goto C 26 (by decide) dX4_isAt_22 ?_
      exact g_zret C hlocks hr (by decide) h dX4_isAt_26
set_option maxRecDepth 100000 in
set_option maxHeartbeats 4000000 in
theorem m_X4_isAt (l : Launch) (D : va_G) (cA : Nat → ClassId) (ad : Nat → Nat) {a1 : Int} {Q : Int → St → Prop} {σ : St} (h : wp_X4_isAt a1 Q σ) : CtI l yX4_isAt (.code yX4_isAt cX4_isAt 2 (some .boolean)) rm_X4_isAt D cA shC ad zsC [.ref (ad 1), vI a1] σ Q :=
  ct_I RX4 (by decide +kernel) rfl (Nat.le_of_ble_eq_true rfl) (fun p e s m args below meth c C hlocks hr => m_X4_isAt_E C hlocks hr h)
abbrev rm_X5_noteFoot : Room := { frames := 1, cells := 0, slots := 0, locals := 0 }
set_option maxRecDepth 100000 in
set_option maxHeartbeats 4000000 in
theorem m_X5_noteFoot_E {p : Program} {l : Launch} {e : Env} {s : State} {m : MethodId} {args : Array Value} {below : List Frame} {meth : Method} {c : Code} {D : va_G} {cA : Nat → ClassId} {ad : Nat → Nat} (C : Cx p s m args c cX5_noteFoot RX5 1 D cA shC ad zsC) (hlocks : meth.locks = false) (hr : meth.sig.returnType = none) {Q : St → Prop} {σ : St} (h : wp_X5_noteFoot Q σ) : G p l e rm_X5_noteFoot s m args below meth c 0 0 1 D cA shC ad (QV D cA shC ad zsC below args s Q) σ [(0, .ref (ad 12))] [] 0 := by
  unfold wp_X5_noteFoot at h
  refine g_aload_n C 0 0 rfl rfl dX5_noteFoot_0 ?_
  refine g_dup C rfl dX5_noteFoot_1 ?_
  refine g_get C iX5 (ci := 5) (o := 12) (v := vI (σ 12 9)) rfl rfl 9 (by decide) rfl tw_X5_62 dX5_noteFoot_2 ?_
  refine g_iconst C dX5_noteFoot_5 ?_
  refine g_iadd C dX5_noteFoot_6 ?_
  refine g_put C iX5 (ci := 5) (o := 12) (z := ((σ 12 9) + 1)) (ty := .int) rfl tyX5_ok nmX5 rfl 9 (by decide) rfl rfl tw_X5_62 rfl (by decide +kernel) rfl rfl dX5_noteFoot_7 (fun σ1 eσ1 => ?_)
  have h := h σ1 eσ1
  refine g_aload_n C 0 0 rfl rfl dX5_noteFoot_10 ?_
  refine g_get C iX5 (ci := 5) (o := 12) (v := vI (σ1 12 9)) rfl rfl 9 (by decide) rfl tw_X5_62 dX5_noteFoot_11 ?_
  refine g_iconst C dX5_noteFoot_14 ?_
  refine g_icmp_gt C (y' := 2) rfl (by decide) 34 (by decide) dX5_noteFoot_15 (fun hc => ?_) (fun hc => ?_)
  · have h := h.1 hc
    exact g_vret C hlocks hr h dX5_noteFoot_34
  · have h := h.2 hc
    refine g_aload_n C 0 0 rfl rfl dX5_noteFoot_18 ?_
    refine g_aload_n C 0 0 rfl rfl dX5_noteFoot_19 ?_
    refine g_get C iX5 (ci := 5) (o := 12) (v := vI (σ1 12 7)) rfl rfl 7 (by decide) rfl tw_X5_118 dX5_noteFoot_20 ?_
    refine g_put C iX5 (ci := 5) (o := 12) (z := (σ1 12 7)) (ty := .int) rfl tyX5_ok nmX5 rfl 10 (by decide) rfl rfl tw_X5_145 rfl (by decide +kernel) rfl rfl dX5_noteFoot_23 (fun σ2 eσ2 => ?_)
    have h := h σ2 eσ2
    refine g_aload_n C 0 0 rfl rfl dX5_noteFoot_26 ?_
    refine g_aload_n C 0 0 rfl rfl dX5_noteFoot_27 ?_
    refine g_get C iX5 (ci := 5) (o := 12) (v := vI (σ2 12 6)) rfl rfl 6 (by decide) rfl tw_X5_115 dX5_noteFoot_28 ?_
    refine g_put C iX5 (ci := 5) (o := 12) (z := (σ2 12 6)) (ty := .int) rfl tyX5_ok nmX5 rfl 11 (by decide) rfl rfl tw_X5_148 rfl (by decide +kernel) rfl rfl dX5_noteFoot_31 (fun σ3 eσ3 => ?_)
    have h := h σ3 eσ3
    exact g_vret C hlocks hr h dX5_noteFoot_34
set_option maxRecDepth 100000 in
set_option maxHeartbeats 4000000 in
theorem m_X5_noteFoot (l : Launch) (D : va_G) (cA : Nat → ClassId) (ad : Nat → Nat) {Q : St → Prop} {σ : St} (h : wp_X5_noteFoot Q σ) : CtV l yX5_noteFoot (.code yX5_noteFoot cX5_noteFoot 1 none) rm_X5_noteFoot D cA shC ad zsC [.ref (ad 12)] σ Q :=
  ct_V RX5 (by decide +kernel) rfl (Nat.le_of_ble_eq_true rfl) (fun p e s m args below meth c C hlocks hr => m_X5_noteFoot_E C hlocks hr h)
abbrev rm_X5_openParts : Room := { frames := 3, cells := 0, slots := 0, locals := 49 }
set_option maxRecDepth 100000 in
set_option maxHeartbeats 4000000 in
theorem m_X5_openParts_E {p : Program} {l : Launch} {e : Env} {s : State} {m : MethodId} {args : Array Value} {below : List Frame} {meth : Method} {c : Code} {D : va_G} {cA : Nat → ClassId} {ad : Nat → Nat} (C : Cx p s m args c cX5_openParts RX5 1 D cA shC ad zsC) (hlocks : meth.locks = false) (hr : meth.sig.returnType = (some .int)) {Q : Int → St → Prop} {σ : St} (h : wp_X5_openParts Q σ) : G p l e rm_X5_openParts s m args below meth c 0 0 1 D cA shC ad (QI D cA shC ad zsC below args s Q) σ [(0, .ref (ad 12))] [] 0 := by
  unfold wp_X5_openParts at h
  refine g_aload_n C 0 0 rfl rfl dX5_openParts_0 ?_
  refine g_get C iX5 (ci := 5) (o := 12) (v := .ref (ad 3)) rfl rfl 3 (by decide) rfl tw_X5_15 dX5_openParts_1 ?_
  refine g_aload_n C 0 0 rfl rfl dX5_openParts_4 ?_
  refine g_get C iX5 (ci := 5) (o := 12) (v := .ref (ad 3)) rfl rfl 3 (by decide) rfl tw_X5_15 dX5_openParts_5 ?_
  refine g_get C iX1 (ci := 1) (o := 3) (v := vI (σ 3 4)) rfl rfl 4 (by decide) rfl tw_X5_46 dX5_openParts_8 ?_
  refine g_iconst C dX5_openParts_11 ?_
  refine g_aload_n C 0 0 rfl rfl dX5_openParts_12 ?_
  refine g_get C iX5 (ci := 5) (o := 12) (v := vI (σ 12 6)) rfl rfl 6 (by decide) rfl tw_X5_115 dX5_openParts_13 ?_
  refine g_aload_n C 0 0 rfl rfl dX5_openParts_16 ?_
  refine g_get C iX5 (ci := 5) (o := 12) (v := vI (σ 12 5)) rfl rfl 5 (by decide) rfl tw_X5_59 dX5_openParts_17 ?_
  refine g_callVv C (m_X1_addRow l D cA ad h) hv_X1_addRow tw_X5_151 (o := 3) (ci := 1) (As := [vI (σ 3 4), vI 0, vI (σ 12 6), vI (σ 12 5)]) (st := []) rfl rfl rfl rfl ⟨Nat.le_of_ble_eq_true rfl, Nat.le_of_ble_eq_true rfl⟩ rfl rfl (Nat.le_of_ble_eq_true rfl) dX5_openParts_20 (fun σ1 h => ?_)
  try dsimp only at h
  refine g_aload_n C 0 0 rfl rfl dX5_openParts_23 ?_
  refine g_aload_n C 0 0 rfl rfl dX5_openParts_24 ?_
  refine g_get C iX5 (ci := 5) (o := 12) (v := .ref (ad 3)) rfl rfl 3 (by decide) rfl tw_X5_15 dX5_openParts_25 ?_
  refine g_get C iX1 (ci := 1) (o := 3) (v := .ref (ad 10)) rfl rfl 2 (by decide) rfl tw_X5_69 dX5_openParts_28 ?_
  refine g_aload_n C 0 0 rfl rfl dX5_openParts_31 ?_
  refine g_get C iX5 (ci := 5) (o := 12) (v := .ref (ad 3)) rfl rfl 3 (by decide) rfl tw_X5_15 dX5_openParts_32 ?_
  refine g_get C iX1 (ci := 1) (o := 3) (v := vI (σ1 3 4)) rfl rfl 4 (by decide) rfl tw_X5_46 dX5_openParts_35 ?_
  obtain ⟨hi, h⟩ := h
  refine g_iald C (o := 10) (N := 17) rfl rfl hi rfl dX5_openParts_38 ?_
  refine g_iconst C dX5_openParts_39 ?_
  refine g_isub C dX5_openParts_40 ?_
  refine g_put C iX5 (ci := 5) (o := 12) (z := ((σ1 10 (w32 (σ1 3 4)).toNat) - 1)) (ty := .int) rfl tyX5_ok nmX5 rfl 5 (by decide) rfl rfl tw_X5_59 rfl (by decide +kernel) rfl rfl dX5_openParts_41 (fun σ2 eσ2 => ?_)
  have h := h σ2 eσ2
  refine g_aload_n C 0 0 rfl rfl dX5_openParts_44 ?_
  refine g_get C iX5 (ci := 5) (o := 12) (v := .ref (ad 3)) rfl rfl 3 (by decide) rfl tw_X5_15 dX5_openParts_45 ?_
  refine g_aload_n C 0 0 rfl rfl dX5_openParts_48 ?_
  refine g_get C iX5 (ci := 5) (o := 12) (v := .ref (ad 3)) rfl rfl 3 (by decide) rfl tw_X5_15 dX5_openParts_49 ?_
  refine g_get C iX1 (ci := 1) (o := 3) (v := vI (σ2 3 4)) rfl rfl 4 (by decide) rfl tw_X5_46 dX5_openParts_52 ?_
  refine g_aload_n C 0 0 rfl rfl dX5_openParts_55 ?_
  refine g_get C iX5 (ci := 5) (o := 12) (v := vI (σ2 12 5)) rfl rfl 5 (by decide) rfl tw_X5_59 dX5_openParts_56 ?_
  refine g_callIs C (m_X1_row l D cA ad h) hv_X1_row tw_X5_155 (As := [vI (σ2 3 4), vI (σ2 12 5)]) (st := [.ref (ad 3)]) rfl rfl ⟨Nat.le_of_ble_eq_true rfl, Nat.le_of_ble_eq_true rfl⟩ rfl rfl (Nat.le_of_ble_eq_true rfl) dX5_openParts_59 (fun r4 σ3 h => ?_)
  try dsimp only at h
  refine g_iconst C dX5_openParts_62 ?_
  refine g_aload_n C 0 0 rfl rfl dX5_openParts_63 ?_
  refine g_get C iX5 (ci := 5) (o := 12) (v := vI (σ3 12 8)) rfl rfl 8 (by decide) rfl tw_X5_121 dX5_openParts_64 ?_
  refine g_callVv C (m_X1_set l D cA ad h) hv_X1_set tw_X5_159 (o := 3) (ci := 1) (As := [vI r4, vI 4, vI (σ3 12 8)]) (st := []) rfl rfl rfl rfl ⟨Nat.le_of_ble_eq_true rfl, Nat.le_of_ble_eq_true rfl⟩ rfl rfl (Nat.le_of_ble_eq_true rfl) dX5_openParts_67 (fun σ5 h => ?_)
  try dsimp only at h
  refine g_aload_n C 0 0 rfl rfl dX5_openParts_70 ?_
  refine g_iconst C dX5_openParts_71 ?_
  refine g_put C iX5 (ci := 5) (o := 12) (z := 0) (ty := .int) rfl tyX5_ok nmX5 rfl 4 (by decide) rfl rfl tw_X5_56 rfl (by decide +kernel) rfl rfl dX5_openParts_72 (fun σ6 eσ6 => ?_)
  have h := h σ6 eσ6
  refine g_iconst C dX5_openParts_75 ?_
  exact g_iret C hlocks hr h dX5_openParts_76
set_option maxRecDepth 100000 in
set_option maxHeartbeats 4000000 in
theorem m_X5_openParts (l : Launch) (D : va_G) (cA : Nat → ClassId) (ad : Nat → Nat) {Q : Int → St → Prop} {σ : St} (h : wp_X5_openParts Q σ) : CtI l yX5_openParts (.code yX5_openParts cX5_openParts 1 (some .int)) rm_X5_openParts D cA shC ad zsC [.ref (ad 12)] σ Q :=
  ct_I RX5 (by decide +kernel) rfl (Nat.le_of_ble_eq_true rfl) (fun p e s m args below meth c C hlocks hr => m_X5_openParts_E C hlocks hr h)
abbrev rm_X5_takeKind : Room := { frames := 4, cells := 0, slots := 0, locals := 71 }
set_option maxRecDepth 100000 in
set_option maxHeartbeats 4000000 in
theorem m_X5_takeKind_E {p : Program} {l : Launch} {e : Env} {s : State} {m : MethodId} {args : Array Value} {below : List Frame} {meth : Method} {c : Code} {D : va_G} {cA : Nat → ClassId} {ad : Nat → Nat} (C : Cx p s m args c cX5_takeKind RX5 1 D cA shC ad zsC) (hlocks : meth.locks = false) (hr : meth.sig.returnType = (some .int)) {Q : Int → St → Prop} {σ : St} (h : wp_X5_takeKind Q σ) : G p l e rm_X5_takeKind s m args below meth c 0 0 1 D cA shC ad (QI D cA shC ad zsC below args s Q) σ [(0, .ref (ad 12))] [] 0 := by
  unfold wp_X5_takeKind at h
  refine g_aload_n C 0 0 rfl rfl dX5_takeKind_0 ?_
  refine g_get C iX5 (ci := 5) (o := 12) (v := .ref (ad 1)) rfl rfl 2 (by decide) rfl tw_X5_9 dX5_takeKind_1 ?_
  refine g_bipush C dX5_takeKind_4 (by decide) ?_
  refine g_callIv C (m_X4_isAt l D cA ad h) hv_X4_isAt tw_X5_97 (o := 1) (ci := 4) (As := [vI 40]) (st := []) rfl rfl rfl rfl ⟨Nat.le_of_ble_eq_true rfl, Nat.le_of_ble_eq_true rfl⟩ rfl rfl (Nat.le_of_ble_eq_true rfl) dX5_takeKind_6 (fun r2 σ1 h => ?_)
  try dsimp only at h
  refine g_if_eq C rfl 17 (by decide) dX5_takeKind_9 (fun hc => ?_) (fun hc => ?_)
  · have h := h.1 hc
    refine g_aload_n C 0 0 rfl rfl dX5_takeKind_17 ?_
    refine g_get C iX5 (ci := 5) (o := 12) (v := .ref (ad 1)) rfl rfl 2 (by decide) rfl tw_X5_9 dX5_takeKind_18 ?_
    refine g_bipush C dX5_takeKind_21 (by decide) ?_
    refine g_callIv C (m_X4_isAt l D cA ad h) hv_X4_isAt tw_X5_97 (o := 1) (ci := 4) (As := [vI 33]) (st := []) rfl rfl rfl rfl ⟨Nat.le_of_ble_eq_true rfl, Nat.le_of_ble_eq_true rfl⟩ rfl rfl (Nat.le_of_ble_eq_true rfl) dX5_takeKind_23 (fun r4 σ3 h => ?_)
    try dsimp only at h
    refine g_if_eq C rfl 41 (by decide) dX5_takeKind_26 (fun hc => ?_) (fun hc => ?_)
    · have h := h.1 hc
      refine g_aload_n C 0 0 rfl rfl dX5_takeKind_41 ?_
      refine g_get C iX5 (ci := 5) (o := 12) (v := .ref (ad 1)) rfl rfl 2 (by decide) rfl tw_X5_9 dX5_takeKind_42 ?_
      refine g_bipush C dX5_takeKind_45 (by decide) ?_
      refine g_callIv C (m_X4_isAt l D cA ad h) hv_X4_isAt tw_X5_97 (o := 1) (ci := 4) (As := [vI 42]) (st := []) rfl rfl rfl rfl ⟨Nat.le_of_ble_eq_true rfl, Nat.le_of_ble_eq_true rfl⟩ rfl rfl (Nat.le_of_ble_eq_true rfl) dX5_takeKind_47 (fun r6 σ5 h => ?_)
      try dsimp only at h
      refine g_if_eq C rfl 69 (by decide) dX5_takeKind_50 (fun hc => ?_) (fun hc => ?_)
      · have h := h.1 hc
        refine g_aload_n C 0 0 rfl rfl dX5_takeKind_69 ?_
        refine g_get C iX5 (ci := 5) (o := 12) (v := .ref (ad 1)) rfl rfl 2 (by decide) rfl tw_X5_9 dX5_takeKind_70 ?_
        refine g_bipush C dX5_takeKind_73 (by decide) ?_
        refine g_callIv C (m_X4_isAt l D cA ad h) hv_X4_isAt tw_X5_97 (o := 1) (ci := 4) (As := [vI 43]) (st := []) rfl rfl rfl rfl ⟨Nat.le_of_ble_eq_true rfl, Nat.le_of_ble_eq_true rfl⟩ rfl rfl (Nat.le_of_ble_eq_true rfl) dX5_takeKind_75 (fun r8 σ7 h => ?_)
        try dsimp only at h
        refine g_if_eq C rfl 94 (by decide) dX5_takeKind_78 (fun hc => ?_) (fun hc => ?_)
        · have h := h.1 hc
          refine g_aload_n C 0 0 rfl rfl dX5_takeKind_94 ?_
          refine g_get C iX5 (ci := 5) (o := 12) (v := .ref (ad 1)) rfl rfl 2 (by decide) rfl tw_X5_9 dX5_takeKind_95 ?_
          refine g_bipush C dX5_takeKind_98 (by decide) ?_
          refine g_callIv C (m_X4_isAt l D cA ad h) hv_X4_isAt tw_X5_97 (o := 1) (ci := 4) (As := [vI 45]) (st := []) rfl rfl rfl rfl ⟨Nat.le_of_ble_eq_true rfl, Nat.le_of_ble_eq_true rfl⟩ rfl rfl (Nat.le_of_ble_eq_true rfl) dX5_takeKind_100 (fun r10 σ9 h => ?_)
          try dsimp only at h
          refine g_if_eq C rfl 119 (by decide) dX5_takeKind_103 (fun hc => ?_) (fun hc => ?_)
          · have h := h.1 hc
            refine g_iconst C dX5_takeKind_119 ?_
            exact g_iret C hlocks hr h dX5_takeKind_120
          · have h := h.2 hc
            refine g_aload_n C 0 0 rfl rfl dX5_takeKind_106 ?_
            refine g_iconst C dX5_takeKind_107 ?_
            refine g_put C iX5 (ci := 5) (o := 12) (z := 2) (ty := .int) rfl tyX5_ok nmX5 rfl 8 (by decide) rfl rfl tw_X5_121 rfl (by decide +kernel) rfl rfl dX5_takeKind_108 (fun σ11 eσ11 => ?_)
            have h := h σ11 eσ11
            refine g_aload_n C 0 0 rfl rfl dX5_takeKind_111 ?_
            refine g_iconst C dX5_takeKind_112 ?_
            refine g_put C iX5 (ci := 5) (o := 12) (z := 2) (ty := .int) rfl tyX5_ok nmX5 rfl 4 (by decide) rfl rfl tw_X5_56 rfl (by decide +kernel) rfl rfl dX5_takeKind_113 (fun σ12 eσ12 => ?_)
            have h := h σ12 eσ12
            refine g_goto C 121 (by decide) dX5_takeKind_116 ?_
            refine g_iconst C dX5_takeKind_121 ?_
            exact g_iret C hlocks hr h dX5_takeKind_122
        · have h := h.2 hc
          refine g_aload_n C 0 0 rfl rfl dX5_takeKind_81 ?_
          refine g_iconst C dX5_takeKind_82 ?_
          refine g_put C iX5 (ci := 5) (o := 12) (z := 1) (ty := .int) rfl tyX5_ok nmX5 rfl 8 (by decide) rfl rfl tw_X5_121 rfl (by decide +kernel) rfl rfl dX5_takeKind_83 (fun σ13 eσ13 => ?_)
          have h := h σ13 eσ13
          refine g_aload_n C 0 0 rfl rfl dX5_takeKind_86 ?_
          refine g_iconst C dX5_takeKind_87 ?_
          refine g_put C iX5 (ci := 5) (o := 12) (z := 2) (ty := .int) rfl tyX5_ok nmX5 rfl 4 (by decide) rfl rfl tw_X5_56 rfl (by decide +kernel) rfl rfl dX5_takeKind_88 (fun σ14 eσ14 => ?_)
          have h := h σ14 eσ14
          refine g_goto C 121 (by decide) dX5_takeKind_91 ?_
          refine g_iconst C dX5_takeKind_121 ?_
          exact g_iret C hlocks hr h dX5_takeKind_122
      · have h := h.2 hc
        refine g_aload_n C 0 0 rfl rfl dX5_takeKind_53 ?_
        refine g_callVv C (m_X5_noteFoot l D cA ad h) hv_X5_noteFoot tw_X5_142 (o := 12) (ci := 5) (As := []) (st := []) rfl rfl rfl rfl ⟨Nat.le_of_ble_eq_true rfl, Nat.le_of_ble_eq_true rfl⟩ rfl rfl (Nat.le_of_ble_eq_true rfl) dX5_takeKind_54 (fun σ15 h => ?_)
        try dsimp only at h
        refine g_aload_n C 0 0 rfl rfl dX5_takeKind_57 ?_
        refine g_iconst C dX5_takeKind_58 ?_
        refine g_aload_n C 0 0 rfl rfl dX5_takeKind_59 ?_
        refine g_get C iX5 (ci := 5) (o := 12) (v := vI (σ15 12 6)) rfl rfl 6 (by decide) rfl tw_X5_115 dX5_takeKind_60 ?_
        refine g_callVv C (m_X5_addLeaf l D cA ad h) hv_X5_addLeaf tw_X5_111 (o := 12) (ci := 5) (As := [vI 2, vI (σ15 12 6)]) (st := []) rfl rfl rfl rfl ⟨Nat.le_of_ble_eq_true rfl, Nat.le_of_ble_eq_true rfl⟩ rfl rfl (Nat.le_of_ble_eq_true rfl) dX5_takeKind_63 (fun σ16 h => ?_)
        try dsimp only at h
        refine g_goto C 121 (by decide) dX5_takeKind_66 ?_
        refine g_iconst C dX5_takeKind_121 ?_
        exact g_iret C hlocks hr h dX5_takeKind_122
    · have h := h.2 hc
      refine g_aload_n C 0 0 rfl rfl dX5_takeKind_29 ?_
      refine g_iconst C dX5_takeKind_30 ?_
      refine g_aload_n C 0 0 rfl rfl dX5_takeKind_31 ?_
      refine g_get C iX5 (ci := 5) (o := 12) (v := vI (σ3 12 6)) rfl rfl 6 (by decide) rfl tw_X5_115 dX5_takeKind_32 ?_
      refine g_callVv C (m_X5_addLeaf l D cA ad h) hv_X5_addLeaf tw_X5_111 (o := 12) (ci := 5) (As := [vI 1, vI (σ3 12 6)]) (st := []) rfl rfl rfl rfl ⟨Nat.le_of_ble_eq_true rfl, Nat.le_of_ble_eq_true rfl⟩ rfl rfl (Nat.le_of_ble_eq_true rfl) dX5_takeKind_35 (fun σ17 h => ?_)
      try dsimp only at h
      refine g_goto C 121 (by decide) dX5_takeKind_38 ?_
      refine g_iconst C dX5_takeKind_121 ?_
      exact g_iret C hlocks hr h dX5_takeKind_122
  · have h := h.2 hc
    refine g_aload_n C 0 0 rfl rfl dX5_takeKind_12 ?_
    refine g_callIv C (m_X5_openParts l D cA ad h) hv_X5_openParts tw_X5_101 (o := 12) (ci := 5) (As := []) (st := []) rfl rfl rfl rfl ⟨Nat.le_of_ble_eq_true rfl, Nat.le_of_ble_eq_true rfl⟩ rfl rfl (Nat.le_of_ble_eq_true rfl) dX5_takeKind_13 (fun r19 σ18 h => ?_)
    try dsimp only at h
    exact g_iret C hlocks hr h dX5_takeKind_16
set_option maxRecDepth 100000 in
set_option maxHeartbeats 4000000 in
theorem m_X5_takeKind (l : Launch) (D : va_G) (cA : Nat → ClassId) (ad : Nat → Nat) {Q : Int → St → Prop} {σ : St} (h : wp_X5_takeKind Q σ) : CtI l yX5_takeKind (.code yX5_takeKind cX5_takeKind 1 (some .int)) rm_X5_takeKind D cA shC ad zsC [.ref (ad 12)] σ Q :=
  ct_I RX5 (by decide +kernel) rfl (Nat.le_of_ble_eq_true rfl) (fun p e s m args below meth c C hlocks hr => m_X5_takeKind_E C hlocks hr h)
abbrev rm_X5_closeParts : Room := { frames := 2, cells := 0, slots := 0, locals := 22 }
set_option maxRecDepth 100000 in
set_option maxHeartbeats 4000000 in
theorem m_X5_closeParts_B40 {p : Program} {l : Launch} {e : Env} {s : State} {m : MethodId} {args : Array Value} {below : List Frame} {meth : Method} {c : Code} {D : va_G} {cA : Nat → ClassId} {ad : Nat → Nat} (C : Cx p s m args c cX5_closeParts RX5 1 D cA shC ad zsC) (hlocks : meth.locks = false) (hr : meth.sig.returnType = (some .int)) {Q : Int → St → Prop} {y1 : Int} {σ : St} (h : wp_X5_closeParts_B40 y1 Q σ) : G p l e rm_X5_closeParts s m args below meth c 0 0 1 D cA shC ad (QI D cA shC ad zsC below args s Q) σ [] [vI y1, .ref (ad 12)] 40 := by
  unfold wp_X5_closeParts_B40 at h
  refine g_put C iX5 (ci := 5) (o := 12) (z := y1) (ty := .int) rfl tyX5_ok nmX5 rfl 4 (by decide) rfl rfl tw_X5_56 rfl (by decide +kernel) rfl rfl dX5_closeParts_40 (fun σ1 eσ1 => ?_)
  have h := h σ1 eσ1
  refine g_iconst C dX5_closeParts_43 ?_
  exact g_iret C hlocks hr h dX5_closeParts_44
set_option maxRecDepth 100000 in
set_option maxHeartbeats 4000000 in
theorem m_X5_closeParts_E {p : Program} {l : Launch} {e : Env} {s : State} {m : MethodId} {args : Array Value} {below : List Frame} {meth : Method} {c : Code} {D : va_G} {cA : Nat → ClassId} {ad : Nat → Nat} (C : Cx p s m args c cX5_closeParts RX5 1 D cA shC ad zsC) (hlocks : meth.locks = false) (hr : meth.sig.returnType = (some .int)) {Q : Int → St → Prop} {σ : St} (h : wp_X5_closeParts Q σ) : G p l e rm_X5_closeParts s m args below meth c 0 0 1 D cA shC ad (QI D cA shC ad zsC below args s Q) σ [(0, .ref (ad 12))] [] 0 := by
  unfold wp_X5_closeParts at h
  refine g_aload_n C 0 0 rfl rfl dX5_closeParts_0 ?_
  refine g_aload_n C 0 0 rfl rfl dX5_closeParts_1 ?_
  refine g_get C iX5 (ci := 5) (o := 12) (v := .ref (ad 3)) rfl rfl 3 (by decide) rfl tw_X5_15 dX5_closeParts_2 ?_
  refine g_aload_n C 0 0 rfl rfl dX5_closeParts_5 ?_
  refine g_get C iX5 (ci := 5) (o := 12) (v := .ref (ad 3)) rfl rfl 3 (by decide) rfl tw_X5_15 dX5_closeParts_6 ?_
  refine g_get C iX1 (ci := 1) (o := 3) (v := vI (σ 3 4)) rfl rfl 4 (by decide) rfl tw_X5_46 dX5_closeParts_9 ?_
  refine g_aload_n C 0 0 rfl rfl dX5_closeParts_12 ?_
  refine g_get C iX5 (ci := 5) (o := 12) (v := vI (σ 12 5)) rfl rfl 5 (by decide) rfl tw_X5_59 dX5_closeParts_13 ?_
  refine g_callIs C (m_X1_row l D cA ad h) hv_X1_row tw_X5_155 (As := [vI (σ 3 4), vI (σ 12 5)]) (st := [.ref (ad 3), .ref (ad 12)]) rfl rfl ⟨Nat.le_of_ble_eq_true rfl, Nat.le_of_ble_eq_true rfl⟩ rfl rfl (Nat.le_of_ble_eq_true rfl) dX5_closeParts_16 (fun r2 σ1 h => ?_)
  try dsimp only at h
  refine g_iconst C dX5_closeParts_19 ?_
  refine g_callIv C (m_X1_cell l D cA ad h) hv_X1_cell tw_X5_163 (o := 3) (ci := 1) (As := [vI r2, vI 2]) (st := [.ref (ad 12)]) rfl rfl rfl rfl ⟨Nat.le_of_ble_eq_true rfl, Nat.le_of_ble_eq_true rfl⟩ rfl rfl (Nat.le_of_ble_eq_true rfl) dX5_closeParts_20 (fun r4 σ3 h => ?_)
  try dsimp only at h
  refine g_put C iX5 (ci := 5) (o := 12) (z := r4) (ty := .int) rfl tyX5_ok nmX5 rfl 5 (by decide) rfl rfl tw_X5_59 rfl (by decide +kernel) rfl rfl dX5_closeParts_23 (fun σ5 eσ5 => ?_)
  have h := h σ5 eσ5
  refine g_aload_n C 0 0 rfl rfl dX5_closeParts_26 ?_
  refine g_aload_n C 0 0 rfl rfl dX5_closeParts_27 ?_
  refine g_get C iX5 (ci := 5) (o := 12) (v := vI (σ5 12 5)) rfl rfl 5 (by decide) rfl tw_X5_59 dX5_closeParts_28 ?_
  refine g_iconst C dX5_closeParts_31 ?_
  refine g_icmp_ne C (y' := (-1)) rfl (by decide) 39 (by decide) dX5_closeParts_32 (fun hc => ?_) (fun hc => ?_)
  · have h := h.1 hc
    refine g_iconst C dX5_closeParts_39 ?_
    exact g_pick [] rfl (m_X5_closeParts_B40 C hlocks hr h)
  · have h := h.2 hc
    refine g_iconst C dX5_closeParts_35 ?_
    refine g_goto C 40 (by decide) dX5_closeParts_36 ?_
    exact g_pick [] rfl (m_X5_closeParts_B40 C hlocks hr h)
set_option maxRecDepth 100000 in
set_option maxHeartbeats 4000000 in
theorem m_X5_closeParts (l : Launch) (D : va_G) (cA : Nat → ClassId) (ad : Nat → Nat) {Q : Int → St → Prop} {σ : St} (h : wp_X5_closeParts Q σ) : CtI l yX5_closeParts (.code yX5_closeParts cX5_closeParts 1 (some .int)) rm_X5_closeParts D cA shC ad zsC [.ref (ad 12)] σ Q :=
  ct_I RX5 (by decide +kernel) rfl (Nat.le_of_ble_eq_true rfl) (fun p e s m args below meth c C hlocks hr => m_X5_closeParts_E C hlocks hr h)
abbrev rm_X5_takeToken : Room := { frames := 5, cells := 0, slots := 0, locals := 107 }
set_option maxRecDepth 100000 in
set_option maxHeartbeats 4000000 in
theorem m_X5_takeToken_E {p : Program} {l : Launch} {e : Env} {s : State} {m : MethodId} {args : Array Value} {below : List Frame} {meth : Method} {c : Code} {D : va_G} {cA : Nat → ClassId} {ad : Nat → Nat} (C : Cx p s m args c cX5_takeToken RX5 1 D cA shC ad zsC) (hlocks : meth.locks = false) (hr : meth.sig.returnType = (some .int)) {Q : Int → St → Prop} {σ : St} (h : wp_X5_takeToken Q σ) : G p l e rm_X5_takeToken s m args below meth c 0 0 1 D cA shC ad (QI D cA shC ad zsC below args s Q) σ [(0, .ref (ad 12))] [] 0 := by
  unfold wp_X5_takeToken at h
  refine g_aload_n C 0 0 rfl rfl dX5_takeToken_0 ?_
  refine g_get C iX5 (ci := 5) (o := 12) (v := vI (σ 12 4)) rfl rfl 4 (by decide) rfl tw_X5_56 dX5_takeToken_1 ?_
  rcases (show w32 (σ 12 4) = 0 ∨ w32 (σ 12 4) = 1 ∨ w32 (σ 12 4) = 2 ∨ w32 (σ 12 4) = 3 ∨ (w32 (σ 12 4) < 0 ∨ 3 < w32 (σ 12 4)) by omega) with hc | hc | hc | hc | hc
  · have h := h.1 hc
    refine g_tabIn C 36 0 hc (by decide) (by decide) rfl (by decide) dX5_takeToken_4 ?_
    refine g_aload_n C 0 0 rfl rfl dX5_takeToken_36 ?_
    refine g_callIv C (m_X5_takeNode l D cA ad h) hv_X5_takeNode tw_X5_91 (o := 12) (ci := 5) (As := []) (st := []) rfl rfl rfl rfl ⟨Nat.le_of_ble_eq_true rfl, Nat.le_of_ble_eq_true rfl⟩ rfl rfl (Nat.le_of_ble_eq_true rfl) dX5_takeToken_37 (fun r2 σ1 h => ?_)
    try dsimp only at h
    exact g_iret C hlocks hr h dX5_takeToken_40
  · have h := h.2.1 hc
    refine g_tabIn C 41 1 hc (by decide) (by decide) rfl (by decide) dX5_takeToken_4 ?_
    refine g_aload_n C 0 0 rfl rfl dX5_takeToken_41 ?_
    refine g_callIv C (m_X5_takeKind l D cA ad h) hv_X5_takeKind tw_X5_94 (o := 12) (ci := 5) (As := []) (st := []) rfl rfl rfl rfl ⟨Nat.le_of_ble_eq_true rfl, Nat.le_of_ble_eq_true rfl⟩ rfl rfl (Nat.le_of_ble_eq_true rfl) dX5_takeToken_42 (fun r4 σ3 h => ?_)
    try dsimp only at h
    exact g_iret C hlocks hr h dX5_takeToken_45
  · have h := h.2.2.1 hc
    refine g_tabIn C 46 2 hc (by decide) (by decide) rfl (by decide) dX5_takeToken_4 ?_
    refine g_aload_n C 0 0 rfl rfl dX5_takeToken_46 ?_
    refine g_get C iX5 (ci := 5) (o := 12) (v := .ref (ad 1)) rfl rfl 2 (by decide) rfl tw_X5_9 dX5_takeToken_47 ?_
    refine g_bipush C dX5_takeToken_50 (by decide) ?_
    refine g_callIv C (m_X4_isAt l D cA ad h) hv_X4_isAt tw_X5_97 (o := 1) (ci := 4) (As := [vI 40]) (st := []) rfl rfl rfl rfl ⟨Nat.le_of_ble_eq_true rfl, Nat.le_of_ble_eq_true rfl⟩ rfl rfl (Nat.le_of_ble_eq_true rfl) dX5_takeToken_52 (fun r6 σ5 h => ?_)
    try dsimp only at h
    refine g_if_eq C rfl 65 (by decide) dX5_takeToken_55 (fun hc => ?_) (fun hc => ?_)
    · have h := h.1 hc
      refine g_iconst C dX5_takeToken_65 ?_
      exact g_iret C hlocks hr h dX5_takeToken_66
    · have h := h.2 hc
      refine g_aload_n C 0 0 rfl rfl dX5_takeToken_58 ?_
      refine g_callIv C (m_X5_openParts l D cA ad h) hv_X5_openParts tw_X5_101 (o := 12) (ci := 5) (As := []) (st := []) rfl rfl rfl rfl ⟨Nat.le_of_ble_eq_true rfl, Nat.le_of_ble_eq_true rfl⟩ rfl rfl (Nat.le_of_ble_eq_true rfl) dX5_takeToken_59 (fun r8 σ7 h => ?_)
      try dsimp only at h
      refine g_goto C 66 (by decide) dX5_takeToken_62 ?_
      exact g_iret C hlocks hr h dX5_takeToken_66
  · have h := h.2.2.2.1 hc
    refine g_tabIn C 67 3 hc (by decide) (by decide) rfl (by decide) dX5_takeToken_4 ?_
    refine g_aload_n C 0 0 rfl rfl dX5_takeToken_67 ?_
    refine g_get C iX5 (ci := 5) (o := 12) (v := .ref (ad 1)) rfl rfl 2 (by decide) rfl tw_X5_9 dX5_takeToken_68 ?_
    refine g_bipush C dX5_takeToken_71 (by decide) ?_
    refine g_callIv C (m_X4_isAt l D cA ad h) hv_X4_isAt tw_X5_97 (o := 1) (ci := 4) (As := [vI 41]) (st := []) rfl rfl rfl rfl ⟨Nat.le_of_ble_eq_true rfl, Nat.le_of_ble_eq_true rfl⟩ rfl rfl (Nat.le_of_ble_eq_true rfl) dX5_takeToken_73 (fun r10 σ9 h => ?_)
    try dsimp only at h
    refine g_if_eq C rfl 86 (by decide) dX5_takeToken_76 (fun hc => ?_) (fun hc => ?_)
    · have h := h.1 hc
      refine g_aload_n C 0 0 rfl rfl dX5_takeToken_86 ?_
      refine g_callIv C (m_X5_takeNode l D cA ad h) hv_X5_takeNode tw_X5_91 (o := 12) (ci := 5) (As := []) (st := []) rfl rfl rfl rfl ⟨Nat.le_of_ble_eq_true rfl, Nat.le_of_ble_eq_true rfl⟩ rfl rfl (Nat.le_of_ble_eq_true rfl) dX5_takeToken_87 (fun r12 σ11 h => ?_)
      try dsimp only at h
      exact g_iret C hlocks hr h dX5_takeToken_90
    · have h := h.2 hc
      refine g_aload_n C 0 0 rfl rfl dX5_takeToken_79 ?_
      refine g_callIv C (m_X5_closeParts l D cA ad h) hv_X5_closeParts tw_X5_104 (o := 12) (ci := 5) (As := []) (st := []) rfl rfl rfl rfl ⟨Nat.le_of_ble_eq_true rfl, Nat.le_of_ble_eq_true rfl⟩ rfl rfl (Nat.le_of_ble_eq_true rfl) dX5_takeToken_80 (fun r14 σ13 h => ?_)
      try dsimp only at h
      refine g_goto C 90 (by decide) dX5_takeToken_83 ?_
      exact g_iret C hlocks hr h dX5_takeToken_90
  · have h := h.2.2.2.2 hc
    refine g_tabOut C 91 hc (by decide) dX5_takeToken_4 ?_
    refine g_iconst C dX5_takeToken_91 ?_
    exact g_iret C hlocks hr h dX5_takeToken_92
set_option maxRecDepth 100000 in
set_option maxHeartbeats 4000000 in
theorem m_X5_takeToken (l : Launch) (D : va_G) (cA : Nat → ClassId) (ad : Nat → Nat) {Q : Int → St → Prop} {σ : St} (h : wp_X5_takeToken Q σ) : CtI l yX5_takeToken (.code yX5_takeToken cX5_takeToken 1 (some .int)) rm_X5_takeToken D cA shC ad zsC [.ref (ad 12)] σ Q :=
  ct_I RX5 (by decide +kernel) rfl (Nat.le_of_ble_eq_true rfl) (fun p e s m args below meth c C hlocks hr => m_X5_takeToken_E C hlocks hr h)
abbrev rm_X5_takeTokens : Room := { frames := 6, cells := 0, slots := 0, locals := 127 }
set_option maxRecDepth 100000 in
set_option maxHeartbeats 4000000 in
theorem m_X5_takeTokens_B62 {p : Program} {l : Launch} {e : Env} {s : State} {m : MethodId} {args : Array Value} {below : List Frame} {meth : Method} {c : Code} {D : va_G} {cA : Nat → ClassId} {ad : Nat → Nat} (C : Cx p s m args c cX5_takeTokens RX5 2 D cA shC ad zsC) (hlocks : meth.locks = false) (hr : meth.sig.returnType = none) {Q : St → Prop} {K2 : Int → St → Prop} (hK2 : ∀ (x1 : Int) (σ : St), K2 x1 σ → G p l e rm_X5_takeTokens s m args below meth c 0 0 2 D cA shC ad (QV D cA shC ad zsC below args s Q) σ [(0, .ref (ad 12)), (1, vI x1)] [] 2) {x1 y1 : Int} {σ : St} (h : wp_X5_takeTokens_B62 K2 x1 y1 Q σ) : G p l e rm_X5_takeTokens s m args below meth c 0 0 2 D cA shC ad (QV D cA shC ad zsC below args s Q) σ [(0, .ref (ad 12)), (1, vI x1)] [vI y1, .ref (ad 12)] 62 := by
  unfold wp_X5_takeTokens_B62 at h
  refine g_put C iX5 (ci := 5) (o := 12) (z := y1) (ty := .int) rfl tyX5_ok nmX5 rfl 0 (by decide) rfl rfl tw_X5_40 rfl (by decide +kernel) rfl rfl dX5_takeTokens_62 (fun σ1 eσ1 => ?_)
  have h := h σ1 eσ1
  refine g_aload_n C 0 0 rfl rfl dX5_takeTokens_65 ?_
  refine g_aload_n C 0 0 rfl rfl dX5_takeTokens_66 ?_
  refine g_get C iX5 (ci := 5) (o := 12) (v := .ref (ad 1)) rfl rfl 2 (by decide) rfl tw_X5_9 dX5_takeTokens_67 ?_
  refine g_get C iX4 (ci := 4) (o := 1) (v := vI (σ1 1 3)) rfl rfl 3 (by decide) rfl tw_X5_88 dX5_takeTokens_70 ?_
  refine g_put C iX5 (ci := 5) (o := 12) (z := (σ1 1 3)) (ty := .int) rfl tyX5_ok nmX5 rfl 1 (by decide) rfl rfl tw_X5_53 rfl (by decide +kernel) rfl rfl dX5_takeTokens_73 (fun σ2 eσ2 => ?_)
  have h := h σ2 eσ2
  refine g_iinc C 1 1 [(0, .ref (ad 12))] rfl (by decide) rfl dX5_takeTokens_76 (fun x_3 ex_3 => ?_)
  have h := h x_3 ex_3
  refine g_goto C 2 (by decide) dX5_takeTokens_79 ?_
  exact g_pick [1, 0] rfl (hK2 _ _ h)
set_option maxRecDepth 100000 in
set_option maxHeartbeats 4000000 in
theorem m_X5_takeTokens_B42 {p : Program} {l : Launch} {e : Env} {s : State} {m : MethodId} {args : Array Value} {below : List Frame} {meth : Method} {c : Code} {D : va_G} {cA : Nat → ClassId} {ad : Nat → Nat} (C : Cx p s m args c cX5_takeTokens RX5 2 D cA shC ad zsC) (hlocks : meth.locks = false) (hr : meth.sig.returnType = none) {Q : St → Prop} {K2 : Int → St → Prop} (hK2 : ∀ (x1 : Int) (σ : St), K2 x1 σ → G p l e rm_X5_takeTokens s m args below meth c 0 0 2 D cA shC ad (QV D cA shC ad zsC below args s Q) σ [(0, .ref (ad 12)), (1, vI x1)] [] 2) {x1 : Int} {σ : St} (h : wp_X5_takeTokens_B42 K2 x1 Q σ) : G p l e rm_X5_takeTokens s m args below meth c 0 0 2 D cA shC ad (QV D cA shC ad zsC below args s Q) σ [(0, .ref (ad 12)), (1, vI x1)] [] 42 := by
  unfold wp_X5_takeTokens_B42 at h
  refine g_aload_n C 0 0 rfl rfl dX5_takeTokens_42 ?_
  refine g_aload_n C 0 0 rfl rfl dX5_takeTokens_43 ?_
  refine g_get C iX5 (ci := 5) (o := 12) (v := .ref (ad 1)) rfl rfl 2 (by decide) rfl tw_X5_9 dX5_takeTokens_44 ?_
  refine g_get C iX4 (ci := 4) (o := 1) (v := vI (σ 1 2)) rfl rfl 2 (by decide) rfl tw_X5_81 dX5_takeTokens_47 ?_
  refine g_iconst C dX5_takeTokens_50 ?_
  refine g_icmp_ne C (y' := 1) rfl (by decide) 58 (by decide) dX5_takeTokens_51 (fun hc => ?_) (fun hc => ?_)
  · have h := h.1 hc
    refine g_aload_n C 0 0 rfl rfl dX5_takeTokens_58 ?_
    refine g_callIv C (m_X5_takeToken l D cA ad h) hv_X5_takeToken tw_X5_84 (o := 12) (ci := 5) (As := []) (st := [.ref (ad 12)]) rfl rfl rfl rfl ⟨Nat.le_of_ble_eq_true rfl, Nat.le_of_ble_eq_true rfl⟩ rfl rfl (Nat.le_of_ble_eq_true rfl) dX5_takeTokens_59 (fun r2 σ1 h => ?_)
    try dsimp only at h
    exact g_pick [0, 1] rfl (m_X5_takeTokens_B62 C hlocks hr hK2 h)
  · have h := h.2 hc
    refine g_iconst C dX5_takeTokens_54 ?_
    refine g_goto C 62 (by decide) dX5_takeTokens_55 ?_
    exact g_pick [0, 1] rfl (m_X5_takeTokens_B62 C hlocks hr hK2 h)
set_option maxRecDepth 100000 in
set_option maxHeartbeats 4000000 in
theorem m_X5_takeTokens_L2 {p : Program} {l : Launch} {e : Env} {s : State} {m : MethodId} {args : Array Value} {below : List Frame} {meth : Method} {c : Code} {D : va_G} {cA : Nat → ClassId} {ad : Nat → Nat} (C : Cx p s m args c cX5_takeTokens RX5 2 D cA shC ad zsC) (hlocks : meth.locks = false) (hr : meth.sig.returnType = none) {Q : St → Prop} : ∀ (n : Nat) (x1 : Int) (σ : St), wp_X5_takeTokens_L2 Q n x1 σ → G p l e rm_X5_takeTokens s m args below meth c 0 0 2 D cA shC ad (QV D cA shC ad zsC below args s Q) σ [(0, .ref (ad 12)), (1, vI x1)] [] 2 := by
  intro n
  induction n with
  | zero => intro _ _ h; exact h.elim
  | succ n ih =>
    intro x1 σ h
    simp only [wp_X5_takeTokens_L2] at h
    refine g_iload_n C 1 1 rfl rfl dX5_takeTokens_2 ?_
    refine g_sipush C dX5_takeTokens_3 (by decide) ?_
    refine g_icmp_gt C (y' := 1000) rfl (by decide) 82 (by decide) dX5_takeTokens_6 (fun hc => ?_) (fun hc => ?_)
    · have h := h.1 hc
      exact g_vret C hlocks hr h dX5_takeTokens_82
    · have h := h.2 hc
      refine g_aload_n C 0 0 rfl rfl dX5_takeTokens_9 ?_
      refine g_get C iX5 (ci := 5) (o := 12) (v := vI (σ 12 0)) rfl rfl 0 (by decide) rfl tw_X5_40 dX5_takeTokens_10 ?_
      refine g_if_ne C rfl 82 (by decide) dX5_takeTokens_13 (fun hc => ?_) (fun hc => ?_)
      · have h := h.1 hc
        exact g_vret C hlocks hr h dX5_takeTokens_82
      · have h := h.2 hc
        refine g_aload_n C 0 0 rfl rfl dX5_takeTokens_16 ?_
        refine g_get C iX5 (ci := 5) (o := 12) (v := .ref (ad 1)) rfl rfl 2 (by decide) rfl tw_X5_9 dX5_takeTokens_17 ?_
        refine g_callVv C (m_X4_advance l D cA ad h) hv_X4_advance tw_X5_78 (o := 1) (ci := 4) (As := []) (st := []) rfl rfl rfl rfl ⟨Nat.le_of_ble_eq_true rfl, Nat.le_of_ble_eq_true rfl⟩ rfl rfl (Nat.le_of_ble_eq_true rfl) dX5_takeTokens_20 (fun σ1 h => ?_)
        try dsimp only at h
        refine g_aload_n C 0 0 rfl rfl dX5_takeTokens_23 ?_
        refine g_get C iX5 (ci := 5) (o := 12) (v := .ref (ad 1)) rfl rfl 2 (by decide) rfl tw_X5_9 dX5_takeTokens_24 ?_
        refine g_get C iX4 (ci := 4) (o := 1) (v := vI (σ1 1 2)) rfl rfl 2 (by decide) rfl tw_X5_81 dX5_takeTokens_27 ?_
        refine g_if_ne C rfl 42 (by decide) dX5_takeTokens_30 (fun hc => ?_) (fun hc => ?_)
        · have h := h.1 hc
          exact g_pick [0, 1] rfl (m_X5_takeTokens_B42 C hlocks hr (fun _ _ h => ih _ _ h) h)
        · have h := h.2 hc
          refine g_aload_n C 0 0 rfl rfl dX5_takeTokens_33 ?_
          refine g_get C iX5 (ci := 5) (o := 12) (v := vI (σ1 12 4)) rfl rfl 4 (by decide) rfl tw_X5_56 dX5_takeTokens_34 ?_
          refine g_iconst C dX5_takeTokens_37 ?_
          refine g_icmp_ne C (y' := 4) rfl (by decide) 42 (by decide) dX5_takeTokens_38 (fun hc => ?_) (fun hc => ?_)
          · have h := h.1 hc
            exact g_pick [0, 1] rfl (m_X5_takeTokens_B42 C hlocks hr (fun _ _ h => ih _ _ h) h)
          · have h := h.2 hc
            exact g_vret C hlocks hr h dX5_takeTokens_41
set_option maxRecDepth 100000 in
set_option maxHeartbeats 4000000 in
theorem m_X5_takeTokens_E {p : Program} {l : Launch} {e : Env} {s : State} {m : MethodId} {args : Array Value} {below : List Frame} {meth : Method} {c : Code} {D : va_G} {cA : Nat → ClassId} {ad : Nat → Nat} (C : Cx p s m args c cX5_takeTokens RX5 2 D cA shC ad zsC) (hlocks : meth.locks = false) (hr : meth.sig.returnType = none) {Q : St → Prop} {σ : St} (h : wp_X5_takeTokens Q σ) : G p l e rm_X5_takeTokens s m args below meth c 0 0 2 D cA shC ad (QV D cA shC ad zsC below args s Q) σ [(0, .ref (ad 12))] [] 0 := by
  unfold wp_X5_takeTokens at h
  refine g_iconst C dX5_takeTokens_0 ?_
  refine g_istore_n C 1 [(0, .ref (ad 12))] rfl (by decide) rfl dX5_takeTokens_1 ?_
  obtain ⟨nn, h⟩ := h
  exact g_pick [1, 0] rfl (m_X5_takeTokens_L2 C hlocks hr nn _ _ h)
set_option maxRecDepth 100000 in
set_option maxHeartbeats 4000000 in
theorem m_X5_takeTokens (l : Launch) (D : va_G) (cA : Nat → ClassId) (ad : Nat → Nat) {Q : St → Prop} {σ : St} (h : wp_X5_takeTokens Q σ) : CtV l yX5_takeTokens (.code yX5_takeTokens cX5_takeTokens 2 none) rm_X5_takeTokens D cA shC ad zsC [.ref (ad 12)] σ Q :=
  ct_V RX5 (by decide +kernel) rfl (Nat.le_of_ble_eq_true rfl) (fun p e s m args below meth c C hlocks hr => m_X5_takeTokens_E C hlocks hr h)
abbrev rm_X5_refuse : Room := { frames := 1, cells := 0, slots := 0, locals := 0 }
set_option maxRecDepth 100000 in
set_option maxHeartbeats 4000000 in
theorem m_X5_refuse_E {p : Program} {l : Launch} {e : Env} {s : State} {m : MethodId} {args : Array Value} {below : List Frame} {meth : Method} {c : Code} {D : va_G} {cA : Nat → ClassId} {ad : Nat → Nat} (C : Cx p s m args c cX5_refuse RX5 3 D cA shC ad zsC) (hlocks : meth.locks = false) (hr : meth.sig.returnType = none) {Q : St → Prop} {a1 a2 : Int} {σ : St} (h : wp_X5_refuse a1 a2 Q σ) : G p l e rm_X5_refuse s m args below meth c 0 0 3 D cA shC ad (QV D cA shC ad zsC below args s Q) σ [(0, .ref (ad 12)), (1, vI a1), (2, vI a2)] [] 0 := by
  unfold wp_X5_refuse at h
  refine g_aload_n C 0 0 rfl rfl dX5_refuse_0 ?_
  refine g_iload_n C 1 1 rfl rfl dX5_refuse_1 ?_
  refine g_put C iX5 (ci := 5) (o := 12) (z := a1) (ty := .int) rfl tyX5_ok nmX5 rfl 0 (by decide) rfl rfl tw_X5_40 rfl (by decide +kernel) rfl rfl dX5_refuse_2 (fun σ1 eσ1 => ?_)
  have h := h σ1 eσ1
  refine g_aload_n C 0 0 rfl rfl dX5_refuse_5 ?_
  refine g_iload_n C 2 2 rfl rfl dX5_refuse_6 ?_
  refine g_put C iX5 (ci := 5) (o := 12) (z := a2) (ty := .int) rfl tyX5_ok nmX5 rfl 1 (by decide) rfl rfl tw_X5_53 rfl (by decide +kernel) rfl rfl dX5_refuse_7 (fun σ2 eσ2 => ?_)
  have h := h σ2 eσ2
  exact g_vret C hlocks hr h dX5_refuse_10
set_option maxRecDepth 100000 in
set_option maxHeartbeats 4000000 in
theorem m_X5_refuse (l : Launch) (D : va_G) (cA : Nat → ClassId) (ad : Nat → Nat) {a1 a2 : Int} {Q : St → Prop} {σ : St} (h : wp_X5_refuse a1 a2 Q σ) : CtV l yX5_refuse (.code yX5_refuse cX5_refuse 3 none) rm_X5_refuse D cA shC ad zsC [.ref (ad 12), vI a1, vI a2] σ Q :=
  ct_V RX5 (by decide +kernel) rfl (Nat.le_of_ble_eq_true rfl) (fun p e s m args below meth c C hlocks hr => m_X5_refuse_E C hlocks hr h)
abbrev rm_X5_judge : Room := { frames := 2, cells := 0, slots := 0, locals := 22 }
set_option maxRecDepth 100000 in
set_option maxHeartbeats 4000000 in
theorem m_X5_judge_B90 {p : Program} {l : Launch} {e : Env} {s : State} {m : MethodId} {args : Array Value} {below : List Frame} {meth : Method} {c : Code} {D : va_G} {cA : Nat → ClassId} {ad : Nat → Nat} (C : Cx p s m args c cX5_judge RX5 2 D cA shC ad zsC) (hlocks : meth.locks = false) (hr : meth.sig.returnType = none) {Q : St → Prop} {σ : St} (h : wp_X5_judge_B90 Q σ) : G p l e rm_X5_judge s m args below meth c 0 0 2 D cA shC ad (QV D cA shC ad zsC below args s Q) σ [(0, .ref (ad 12))] [] 90 := by
  unfold wp_X5_judge_B90 at h
  refine g_aload_n C 0 0 rfl rfl dX5_judge_90 ?_
  refine g_get C iX5 (ci := 5) (o := 12) (v := vI (σ 12 12)) rfl rfl 12 (by decide) rfl tw_X5_65 dX5_judge_91 ?_
  refine g_if_ne C rfl 107 (by decide) dX5_judge_94 (fun hc => ?_) (fun hc => ?_)
  · have h := h.1 hc
    refine g_aload_n C 0 0 rfl rfl dX5_judge_107 ?_
    refine g_get C iX5 (ci := 5) (o := 12) (v := .ref (ad 3)) rfl rfl 3 (by decide) rfl tw_X5_15 dX5_judge_108 ?_
    refine g_get C iX1 (ci := 1) (o := 3) (v := vI (σ 3 4)) rfl rfl 4 (by decide) rfl tw_X5_46 dX5_judge_111 ?_
    refine g_bipush C dX5_judge_114 (by decide) ?_
    refine g_icmp_lt C (y' := 16) rfl (by decide) 126 (by decide) dX5_judge_116 (fun hc => ?_) (fun hc => ?_)
    · have h := h.1 hc
      exact g_vret C hlocks hr h dX5_judge_126
    · have h := h.2 hc
      refine g_aload_n C 0 0 rfl rfl dX5_judge_119 ?_
      refine g_bipush C dX5_judge_120 (by decide) ?_
      refine g_iconst C dX5_judge_122 ?_
      refine g_callVv C (m_X5_refuse l D cA ad h) hv_X5_refuse tw_X5_166 (o := 12) (ci := 5) (As := [vI 8, vI 0]) (st := []) rfl rfl rfl rfl ⟨Nat.le_of_ble_eq_true rfl, Nat.le_of_ble_eq_true rfl⟩ rfl rfl (Nat.le_of_ble_eq_true rfl) dX5_judge_123 (fun σ1 h => ?_)
      try dsimp only at h
      exact g_vret C hlocks hr h dX5_judge_126
  · have h := h.2 hc
    refine g_aload_n C 0 0 rfl rfl dX5_judge_97 ?_
    refine g_bipush C dX5_judge_98 (by decide) ?_
    refine g_iconst C dX5_judge_100 ?_
    refine g_callVv C (m_X5_refuse l D cA ad h) hv_X5_refuse tw_X5_166 (o := 12) (ci := 5) (As := [vI 7, vI 0]) (st := []) rfl rfl rfl rfl ⟨Nat.le_of_ble_eq_true rfl, Nat.le_of_ble_eq_true rfl⟩ rfl rfl (Nat.le_of_ble_eq_true rfl) dX5_judge_101 (fun σ2 h => ?_)
    try dsimp only at h
    refine g_goto C 126 (by decide) dX5_judge_104 ?_
    exact g_vret C hlocks hr h dX5_judge_126
set_option maxRecDepth 100000 in
set_option maxHeartbeats 4000000 in
theorem m_X5_judge_E {p : Program} {l : Launch} {e : Env} {s : State} {m : MethodId} {args : Array Value} {below : List Frame} {meth : Method} {c : Code} {D : va_G} {cA : Nat → ClassId} {ad : Nat → Nat} (C : Cx p s m args c cX5_judge RX5 2 D cA shC ad zsC) (hlocks : meth.locks = false) (hr : meth.sig.returnType = none) {Q : St → Prop} {σ : St} (h : wp_X5_judge Q σ) : G p l e rm_X5_judge s m args below meth c 0 0 2 D cA shC ad (QV D cA shC ad zsC below args s Q) σ [(0, .ref (ad 12))] [] 0 := by
  unfold wp_X5_judge at h
  refine g_aload_n C 0 0 rfl rfl dX5_judge_0 ?_
  refine g_get C iX5 (ci := 5) (o := 12) (v := .ref (ad 3)) rfl rfl 3 (by decide) rfl tw_X5_15 dX5_judge_1 ?_
  refine g_get C iX1 (ci := 1) (o := 3) (v := vI (σ 3 4)) rfl rfl 4 (by decide) rfl tw_X5_46 dX5_judge_4 ?_
  refine g_iconst C dX5_judge_7 ?_
  refine g_callIs C (m_X1_row l D cA ad h) hv_X1_row tw_X5_155 (As := [vI (σ 3 4), vI 0]) (st := []) rfl rfl ⟨Nat.le_of_ble_eq_true rfl, Nat.le_of_ble_eq_true rfl⟩ rfl rfl (Nat.le_of_ble_eq_true rfl) dX5_judge_8 (fun r2 σ1 h => ?_)
  try dsimp only at h
  refine g_istore_n C 1 [(0, .ref (ad 12))] rfl (by decide) rfl dX5_judge_11 ?_
  refine g_aload_n C 1 0 rfl rfl dX5_judge_12 ?_
  refine g_get C iX5 (ci := 5) (o := 12) (v := .ref (ad 3)) rfl rfl 3 (by decide) rfl tw_X5_15 dX5_judge_13 ?_
  refine g_iload_n C 0 1 rfl rfl dX5_judge_16 ?_
  refine g_iconst C dX5_judge_17 ?_
  refine g_callIv C (m_X1_cell l D cA ad h) hv_X1_cell tw_X5_163 (o := 3) (ci := 1) (As := [vI r2, vI 0]) (st := []) rfl rfl rfl rfl ⟨Nat.le_of_ble_eq_true rfl, Nat.le_of_ble_eq_true rfl⟩ rfl rfl (Nat.le_of_ble_eq_true rfl) dX5_judge_18 (fun r4 σ3 h => ?_)
  try dsimp only at h
  refine g_if_eq C rfl 33 (by decide) dX5_judge_21 (fun hc => ?_) (fun hc => ?_)
  · have h := h.1 hc
    refine g_aload_n C 1 0 rfl rfl dX5_judge_33 ?_
    refine g_get C iX5 (ci := 5) (o := 12) (v := vI (σ3 12 9)) rfl rfl 9 (by decide) rfl tw_X5_62 dX5_judge_34 ?_
    refine g_iconst C dX5_judge_37 ?_
    refine g_icmp_le C (y' := 1) rfl (by decide) 53 (by decide) dX5_judge_38 (fun hc => ?_) (fun hc => ?_)
    · have h := h.1 hc
      refine g_aload_n C 1 0 rfl rfl dX5_judge_53 ?_
      refine g_get C iX5 (ci := 5) (o := 12) (v := vI (σ3 12 9)) rfl rfl 9 (by decide) rfl tw_X5_62 dX5_judge_54 ?_
      refine g_iconst C dX5_judge_57 ?_
      refine g_icmp_ne C (y' := 1) rfl (by decide) 90 (by decide) dX5_judge_58 (fun hc => ?_) (fun hc => ?_)
      · have h := h.1 hc
        exact g_pick [1] rfl (m_X5_judge_B90 C hlocks hr h)
      · have h := h.2 hc
        refine g_aload_n C 1 0 rfl rfl dX5_judge_61 ?_
        refine g_get C iX5 (ci := 5) (o := 12) (v := vI (σ3 12 11)) rfl rfl 11 (by decide) rfl tw_X5_148 dX5_judge_62 ?_
        refine g_aload_n C 1 0 rfl rfl dX5_judge_65 ?_
        refine g_get C iX5 (ci := 5) (o := 12) (v := .ref (ad 3)) rfl rfl 3 (by decide) rfl tw_X5_15 dX5_judge_66 ?_
        refine g_iload_n C 0 1 rfl rfl dX5_judge_69 ?_
        refine g_iconst C dX5_judge_70 ?_
        refine g_callIv C (m_X1_cell l D cA ad h) hv_X1_cell tw_X5_163 (o := 3) (ci := 1) (As := [vI r2, vI 1]) (st := [vI (σ3 12 11)]) rfl rfl rfl rfl ⟨Nat.le_of_ble_eq_true rfl, Nat.le_of_ble_eq_true rfl⟩ rfl rfl (Nat.le_of_ble_eq_true rfl) dX5_judge_71 (fun r6 σ5 h => ?_)
        try dsimp only at h
        refine g_icmp_eq C rfl rfl 90 (by decide) dX5_judge_74 (fun hc => ?_) (fun hc => ?_)
        · have h := h.1 hc
          exact g_pick [1] rfl (m_X5_judge_B90 C hlocks hr h)
        · have h := h.2 hc
          refine g_aload_n C 1 0 rfl rfl dX5_judge_77 ?_
          refine g_bipush C dX5_judge_78 (by decide) ?_
          refine g_aload_n C 1 0 rfl rfl dX5_judge_80 ?_
          refine g_get C iX5 (ci := 5) (o := 12) (v := vI (σ5 12 10)) rfl rfl 10 (by decide) rfl tw_X5_145 dX5_judge_81 ?_
          refine g_callVv C (m_X5_refuse l D cA ad h) hv_X5_refuse tw_X5_166 (o := 12) (ci := 5) (As := [vI 6, vI (σ5 12 10)]) (st := []) rfl rfl rfl rfl ⟨Nat.le_of_ble_eq_true rfl, Nat.le_of_ble_eq_true rfl⟩ rfl rfl (Nat.le_of_ble_eq_true rfl) dX5_judge_84 (fun σ7 h => ?_)
          try dsimp only at h
          refine g_goto C 126 (by decide) dX5_judge_87 ?_
          exact g_vret C hlocks hr h dX5_judge_126
    · have h := h.2 hc
      refine g_aload_n C 1 0 rfl rfl dX5_judge_41 ?_
      refine g_iconst C dX5_judge_42 ?_
      refine g_aload_n C 1 0 rfl rfl dX5_judge_43 ?_
      refine g_get C iX5 (ci := 5) (o := 12) (v := vI (σ3 12 10)) rfl rfl 10 (by decide) rfl tw_X5_145 dX5_judge_44 ?_
      refine g_callVv C (m_X5_refuse l D cA ad h) hv_X5_refuse tw_X5_166 (o := 12) (ci := 5) (As := [vI 5, vI (σ3 12 10)]) (st := []) rfl rfl rfl rfl ⟨Nat.le_of_ble_eq_true rfl, Nat.le_of_ble_eq_true rfl⟩ rfl rfl (Nat.le_of_ble_eq_true rfl) dX5_judge_47 (fun σ8 h => ?_)
      try dsimp only at h
      refine g_goto C 126 (by decide) dX5_judge_50 ?_
      exact g_vret C hlocks hr h dX5_judge_126
  · have h := h.2 hc
    refine g_aload_n C 1 0 rfl rfl dX5_judge_24 ?_
    refine g_iconst C dX5_judge_25 ?_
    refine g_iconst C dX5_judge_26 ?_
    refine g_callVv C (m_X5_refuse l D cA ad h) hv_X5_refuse tw_X5_166 (o := 12) (ci := 5) (As := [vI 4, vI 0]) (st := []) rfl rfl rfl rfl ⟨Nat.le_of_ble_eq_true rfl, Nat.le_of_ble_eq_true rfl⟩ rfl rfl (Nat.le_of_ble_eq_true rfl) dX5_judge_27 (fun σ9 h => ?_)
    try dsimp only at h
    refine g_goto C 126 (by decide) dX5_judge_30 ?_
    exact g_vret C hlocks hr h dX5_judge_126
set_option maxRecDepth 100000 in
set_option maxHeartbeats 4000000 in
theorem m_X5_judge (l : Launch) (D : va_G) (cA : Nat → ClassId) (ad : Nat → Nat) {Q : St → Prop} {σ : St} (h : wp_X5_judge Q σ) : CtV l yX5_judge (.code yX5_judge cX5_judge 2 none) rm_X5_judge D cA shC ad zsC [.ref (ad 12)] σ Q :=
  ct_V RX5 (by decide +kernel) rfl (Nat.le_of_ble_eq_true rfl) (fun p e s m args below meth c C hlocks hr => m_X5_judge_E C hlocks hr h)
abbrev rm_X1_nextPart : Room := { frames := 2, cells := 0, slots := 0, locals := 22 }
set_option maxRecDepth 100000 in
set_option maxHeartbeats 4000000 in
theorem m_X1_nextPart_L16 {p : Program} {l : Launch} {e : Env} {s : State} {m : MethodId} {args : Array Value} {below : List Frame} {meth : Method} {c : Code} {D : va_G} {cA : Nat → ClassId} {ad : Nat → Nat} (C : Cx p s m args c cX1_nextPart RX1 5 D cA shC ad zsC) (hlocks : meth.locks = false) (hr : meth.sig.returnType = (some .int)) {Q : Int → St → Prop} : ∀ (n : Nat) (x1 : Int) (x3 : Int) (x4 : Int) (σ : St), wp_X1_nextPart_L16 Q n x1 x3 x4 σ → G p l e rm_X1_nextPart s m args below meth c 0 0 5 D cA shC ad (QI D cA shC ad zsC below args s Q) σ [(0, .ref (ad 3)), (1, vI x1), (3, vI x3), (4, vI x4)] [] 16 := by
  intro n
  induction n with
  | zero => intro _ _ _ _ h; exact h.elim
  | succ n ih =>
    intro x1 x3 x4 σ h
    simp only [wp_X1_nextPart_L16] at h
    refine g_iload C 3 4 rfl dX1_nextPart_16 ?_
    refine g_aload_n C 0 0 rfl rfl dX1_nextPart_18 ?_
    refine g_get C iX1 (ci := 1) (o := 3) (v := .ref (ad 10)) rfl rfl 2 (by decide) rfl tw_X1_23 dX1_nextPart_19 ?_
    refine g_iload_n C 1 1 rfl rfl dX1_nextPart_22 ?_
    obtain ⟨hi, h⟩ := h
    refine g_iald C (o := 10) (N := 17) rfl rfl hi rfl dX1_nextPart_23 ?_
    refine g_icmp_ge C rfl rfl 55 (by decide) dX1_nextPart_24 (fun hc => ?_) (fun hc => ?_)
    · have h := h.1 hc
      refine g_iconst C dX1_nextPart_55 ?_
      exact g_iret C hlocks hr h dX1_nextPart_56
    · have h := h.2 hc
      refine g_aload_n C 0 0 rfl rfl dX1_nextPart_27 ?_
      refine g_iload_n C 1 1 rfl rfl dX1_nextPart_28 ?_
      refine g_iload C 3 4 rfl dX1_nextPart_29 ?_
      refine g_callIs C (m_X1_row l D cA ad h) hv_X1_row tw_X1_34 (As := [vI x1, vI x4]) (st := [.ref (ad 3)]) rfl rfl ⟨Nat.le_of_ble_eq_true rfl, Nat.le_of_ble_eq_true rfl⟩ rfl rfl (Nat.le_of_ble_eq_true rfl) dX1_nextPart_31 (fun r2 σ1 h => ?_)
      try dsimp only at h
      refine g_iconst C dX1_nextPart_34 ?_
      refine g_callIv C (m_X1_cell l D cA ad h) hv_X1_cell tw_X1_30 (o := 3) (ci := 1) (As := [vI r2, vI 2]) (st := []) rfl rfl rfl rfl ⟨Nat.le_of_ble_eq_true rfl, Nat.le_of_ble_eq_true rfl⟩ rfl rfl (Nat.le_of_ble_eq_true rfl) dX1_nextPart_35 (fun r4 σ3 h => ?_)
      try dsimp only at h
      refine g_iload_n C 2 3 rfl rfl dX1_nextPart_38 ?_
      refine g_icmp_ne C rfl rfl 49 (by decide) dX1_nextPart_39 (fun hc => ?_) (fun hc => ?_)
      · have h := h.1 hc
        refine g_iinc C 3 4 [(0, .ref (ad 3)), (1, vI x1), (3, vI x3)] rfl (by decide) rfl dX1_nextPart_49 (fun x_5 ex_5 => ?_)
        have h := h x_5 ex_5
        refine g_goto C 16 (by decide) dX1_nextPart_52 ?_
        exact g_pick [1, 2, 3, 0] rfl (ih _ _ _ _ h)
      · have h := h.2 hc
        refine g_iload_n C 1 1 rfl rfl dX1_nextPart_42 ?_
        refine g_iload C 3 4 rfl dX1_nextPart_43 ?_
        refine g_callIs C (m_X1_row l D cA ad h) hv_X1_row tw_X1_34 (As := [vI x1, vI x4]) (st := []) rfl rfl ⟨Nat.le_of_ble_eq_true rfl, Nat.le_of_ble_eq_true rfl⟩ rfl rfl (Nat.le_of_ble_eq_true rfl) dX1_nextPart_45 (fun r7 σ6 h => ?_)
        try dsimp only at h
        exact g_iret C hlocks hr h dX1_nextPart_48
set_option maxRecDepth 100000 in
set_option maxHeartbeats 4000000 in
theorem m_X1_nextPart_E {p : Program} {l : Launch} {e : Env} {s : State} {m : MethodId} {args : Array Value} {below : List Frame} {meth : Method} {c : Code} {D : va_G} {cA : Nat → ClassId} {ad : Nat → Nat} (C : Cx p s m args c cX1_nextPart RX1 5 D cA shC ad zsC) (hlocks : meth.locks = false) (hr : meth.sig.returnType = (some .int)) {Q : Int → St → Prop} {a1 a2 : Int} {σ : St} (h : wp_X1_nextPart a1 a2 Q σ) : G p l e rm_X1_nextPart s m args below meth c 0 0 5 D cA shC ad (QI D cA shC ad zsC below args s Q) σ [(0, .ref (ad 3)), (1, vI a1), (2, vI a2)] [] 0 := by
  unfold wp_X1_nextPart at h
  refine g_aload_n C 0 0 rfl rfl dX1_nextPart_0 ?_
  refine g_iload_n C 1 1 rfl rfl dX1_nextPart_1 ?_
  refine g_iload_n C 2 2 rfl rfl dX1_nextPart_2 ?_
  refine g_callIs C (m_X1_row l D cA ad h) hv_X1_row tw_X1_34 (As := [vI a1, vI a2]) (st := [.ref (ad 3)]) rfl rfl ⟨Nat.le_of_ble_eq_true rfl, Nat.le_of_ble_eq_true rfl⟩ rfl rfl (Nat.le_of_ble_eq_true rfl) dX1_nextPart_3 (fun r2 σ1 h => ?_)
  try dsimp only at h
  refine g_iconst C dX1_nextPart_6 ?_
  refine g_callIv C (m_X1_cell l D cA ad h) hv_X1_cell tw_X1_30 (o := 3) (ci := 1) (As := [vI r2, vI 2]) (st := []) rfl rfl rfl rfl ⟨Nat.le_of_ble_eq_true rfl, Nat.le_of_ble_eq_true rfl⟩ rfl rfl (Nat.le_of_ble_eq_true rfl) dX1_nextPart_7 (fun r4 σ3 h => ?_)
  try dsimp only at h
  refine g_istore_n C 3 [(0, .ref (ad 3)), (1, vI a1), (2, vI a2)] rfl (by decide) rfl dX1_nextPart_10 ?_
  refine g_iload_n C 3 2 rfl rfl dX1_nextPart_11 ?_
  refine g_iconst C dX1_nextPart_12 ?_
  refine g_iadd C dX1_nextPart_13 ?_
  refine g_name (fun x_5 ex_5 => ?_)
  have h := h x_5 ex_5
  refine g_istore C 4 [(3, vI r4), (0, .ref (ad 3)), (1, vI a1), (2, vI a2)] (by decide) rfl dX1_nextPart_14 ?_
  obtain ⟨nn, h⟩ := h
  exact g_pick [2, 3, 1, 0] rfl (m_X1_nextPart_L16 C hlocks hr nn _ _ _ _ h)
set_option maxRecDepth 100000 in
set_option maxHeartbeats 4000000 in
theorem m_X1_nextPart (l : Launch) (D : va_G) (cA : Nat → ClassId) (ad : Nat → Nat) {a1 a2 : Int} {Q : Int → St → Prop} {σ : St} (h : wp_X1_nextPart a1 a2 Q σ) : CtI l yX1_nextPart (.code yX1_nextPart cX1_nextPart 5 (some .int)) rm_X1_nextPart D cA shC ad zsC [.ref (ad 3), vI a1, vI a2] σ Q :=
  ct_I RX1 (by decide +kernel) rfl (Nat.le_of_ble_eq_true rfl) (fun p e s m args below meth c C hlocks hr => m_X1_nextPart_E C hlocks hr h)
abbrev rm_X1_link : Room := { frames := 3, cells := 0, slots := 0, locals := 46 }
set_option maxRecDepth 100000 in
set_option maxHeartbeats 4000000 in
theorem m_X1_link_B109 {p : Program} {l : Launch} {e : Env} {s : State} {m : MethodId} {args : Array Value} {below : List Frame} {meth : Method} {c : Code} {D : va_G} {cA : Nat → ClassId} {ad : Nat → Nat} (C : Cx p s m args c cX1_link RX1 9 D cA shC ad zsC) (hlocks : meth.locks = false) (hr : meth.sig.returnType = none) {Q : St → Prop} {K9 : Int → Int → St → Prop} (hK9 : ∀ (x1 : Int) (x2 : Int) (σ : St), K9 x1 x2 σ → G p l e rm_X1_link s m args below meth c 0 0 9 D cA shC ad (QV D cA shC ad zsC below args s Q) σ [(0, .ref (ad 3)), (1, vI x1), (2, vI x2)] [] 9) {K47 : Int → Int → Int → Int → Int → Int → St → Prop} (hK47 : ∀ (x1 : Int) (x2 : Int) (x3 : Int) (x4 : Int) (x5 : Int) (x6 : Int) (σ : St), K47 x1 x2 x3 x4 x5 x6 σ → G p l e rm_X1_link s m args below meth c 0 0 9 D cA shC ad (QV D cA shC ad zsC below args s Q) σ [(0, .ref (ad 3)), (1, vI x1), (2, vI x2), (3, vI x3), (4, vI x4), (5, vI x5), (6, vI x6)] [] 47) {x1 x2 x3 x4 x5 x6 x7 y0 : Int} {σ : St} (h : wp_X1_link_B109 K9 K47 x1 x2 x3 x4 x5 x6 x7 y0 Q σ) : G p l e rm_X1_link s m args below meth c 0 0 9 D cA shC ad (QV D cA shC ad zsC below args s Q) σ [(0, .ref (ad 3)), (1, vI x1), (2, vI x2), (3, vI x3), (4, vI x4), (5, vI x5), (6, vI x6), (7, vI x7)] [vI y0] 109 := by
  unfold wp_X1_link_B109 at h
  refine g_istore C 8 [(0, .ref (ad 3)), (1, vI x1), (2, vI x2), (3, vI x3), (4, vI x4), (5, vI x5), (6, vI x6), (7, vI x7)] (by decide) rfl dX1_link_109 ?_
  refine g_aload_n C 1 0 rfl rfl dX1_link_111 ?_
  refine g_iload_n C 4 3 rfl rfl dX1_link_112 ?_
  refine g_iload C 7 6 rfl dX1_link_113 ?_
  refine g_iload C 8 7 rfl dX1_link_115 ?_
  refine g_callVv C (m_X1_set l D cA ad h) hv_X1_set tw_X1_41 (o := 3) (ci := 1) (As := [vI x3, vI x6, vI x7]) (st := []) rfl rfl rfl rfl ⟨Nat.le_of_ble_eq_true rfl, Nat.le_of_ble_eq_true rfl⟩ rfl rfl (Nat.le_of_ble_eq_true rfl) dX1_link_117 (fun σ1 h => ?_)
  try dsimp only at h
  refine g_aload_n C 1 0 rfl rfl dX1_link_120 ?_
  refine g_iload_n C 4 3 rfl rfl dX1_link_121 ?_
  refine g_iload C 7 6 rfl dX1_link_122 ?_
  refine g_iconst C dX1_link_124 ?_
  refine g_iadd C dX1_link_125 ?_
  refine g_iload C 8 7 rfl dX1_link_126 ?_
  refine g_iload C 0 8 rfl dX1_link_128 ?_
  refine g_iadd C dX1_link_130 ?_
  refine g_callVv C (m_X1_set l D cA ad h) hv_X1_set tw_X1_41 (o := 3) (ci := 1) (As := [vI x3, vI (x6 + 3), vI (x7 + y0)]) (st := []) rfl rfl rfl rfl ⟨Nat.le_of_ble_eq_true rfl, Nat.le_of_ble_eq_true rfl⟩ rfl rfl (Nat.le_of_ble_eq_true rfl) dX1_link_131 (fun σ2 h => ?_)
  try dsimp only at h
  refine g_iinc C 7 6 [(8, vI y0), (0, .ref (ad 3)), (1, vI x1), (2, vI x2), (3, vI x3), (4, vI x4), (5, vI x5), (7, vI x7)] rfl (by decide) rfl dX1_link_134 (fun x_3 ex_3 => ?_)
  have h := h x_3 ex_3
  refine g_goto C 47 (by decide) dX1_link_137 ?_
  exact g_pick [2, 3, 4, 5, 6, 7, 0] rfl (hK47 _ _ _ _ _ _ _ h)
set_option maxRecDepth 100000 in
set_option maxHeartbeats 4000000 in
theorem m_X1_link_B87 {p : Program} {l : Launch} {e : Env} {s : State} {m : MethodId} {args : Array Value} {below : List Frame} {meth : Method} {c : Code} {D : va_G} {cA : Nat → ClassId} {ad : Nat → Nat} (C : Cx p s m args c cX1_link RX1 9 D cA shC ad zsC) (hlocks : meth.locks = false) (hr : meth.sig.returnType = none) {Q : St → Prop} {K9 : Int → Int → St → Prop} (hK9 : ∀ (x1 : Int) (x2 : Int) (σ : St), K9 x1 x2 σ → G p l e rm_X1_link s m args below meth c 0 0 9 D cA shC ad (QV D cA shC ad zsC below args s Q) σ [(0, .ref (ad 3)), (1, vI x1), (2, vI x2)] [] 9) {K47 : Int → Int → Int → Int → Int → Int → St → Prop} (hK47 : ∀ (x1 : Int) (x2 : Int) (x3 : Int) (x4 : Int) (x5 : Int) (x6 : Int) (σ : St), K47 x1 x2 x3 x4 x5 x6 σ → G p l e rm_X1_link s m args below meth c 0 0 9 D cA shC ad (QV D cA shC ad zsC below args s Q) σ [(0, .ref (ad 3)), (1, vI x1), (2, vI x2), (3, vI x3), (4, vI x4), (5, vI x5), (6, vI x6)] [] 47) {x1 x2 x3 x4 x5 x6 y0 : Int} {σ : St} (h : wp_X1_link_B87 K9 K47 x1 x2 x3 x4 x5 x6 y0 Q σ) : G p l e rm_X1_link s m args below meth c 0 0 9 D cA shC ad (QV D cA shC ad zsC below args s Q) σ [(0, .ref (ad 3)), (1, vI x1), (2, vI x2), (3, vI x3), (4, vI x4), (5, vI x5), (6, vI x6)] [vI y0] 87 := by
  unfold wp_X1_link_B87 at h
  refine g_istore C 7 [(0, .ref (ad 3)), (1, vI x1), (2, vI x2), (3, vI x3), (4, vI x4), (5, vI x5), (6, vI x6)] (by decide) rfl dX1_link_87 ?_
  refine g_iload C 6 5 rfl dX1_link_89 ?_
  refine g_iconst C dX1_link_91 ?_
  refine g_icmp_ne C (y' := (-1)) rfl (by decide) 99 (by decide) dX1_link_92 (fun hc => ?_) (fun hc => ?_)
  · have h := h.1 hc
    refine g_aload_n C 1 0 rfl rfl dX1_link_99 ?_
    refine g_iload C 6 5 rfl dX1_link_100 ?_
    refine g_iload C 7 6 rfl dX1_link_102 ?_
    refine g_iconst C dX1_link_104 ?_
    refine g_iadd C dX1_link_105 ?_
    refine g_callIv C (m_X1_cell l D cA ad h) hv_X1_cell tw_X1_30 (o := 3) (ci := 1) (As := [vI x5, vI (x6 + 3)]) (st := []) rfl rfl rfl rfl ⟨Nat.le_of_ble_eq_true rfl, Nat.le_of_ble_eq_true rfl⟩ rfl rfl (Nat.le_of_ble_eq_true rfl) dX1_link_106 (fun r2 σ1 h => ?_)
    try dsimp only at h
    exact g_pick [1, 2, 3, 4, 5, 6, 7, 0] rfl (m_X1_link_B109 C hlocks hr hK9 hK47 h)
  · have h := h.2 hc
    refine g_iconst C dX1_link_95 ?_
    refine g_goto C 109 (by decide) dX1_link_96 ?_
    exact g_pick [1, 2, 3, 4, 5, 6, 7, 0] rfl (m_X1_link_B109 C hlocks hr hK9 hK47 h)
set_option maxRecDepth 100000 in
set_option maxHeartbeats 4000000 in
theorem m_X1_link_L47 {p : Program} {l : Launch} {e : Env} {s : State} {m : MethodId} {args : Array Value} {below : List Frame} {meth : Method} {c : Code} {D : va_G} {cA : Nat → ClassId} {ad : Nat → Nat} (C : Cx p s m args c cX1_link RX1 9 D cA shC ad zsC) (hlocks : meth.locks = false) (hr : meth.sig.returnType = none) {Q : St → Prop} {K9 : Int → Int → St → Prop} (hK9 : ∀ (x1 : Int) (x2 : Int) (σ : St), K9 x1 x2 σ → G p l e rm_X1_link s m args below meth c 0 0 9 D cA shC ad (QV D cA shC ad zsC below args s Q) σ [(0, .ref (ad 3)), (1, vI x1), (2, vI x2)] [] 9) : ∀ (n : Nat) (x1 : Int) (x2 : Int) (x3 : Int) (x4 : Int) (x5 : Int) (x6 : Int) (σ : St), wp_X1_link_L47 K9 Q n x1 x2 x3 x4 x5 x6 σ → G p l e rm_X1_link s m args below meth c 0 0 9 D cA shC ad (QV D cA shC ad zsC below args s Q) σ [(0, .ref (ad 3)), (1, vI x1), (2, vI x2), (3, vI x3), (4, vI x4), (5, vI x5), (6, vI x6)] [] 47 := by
  intro n
  induction n with
  | zero => intro _ _ _ _ _ _ _ h; exact h.elim
  | succ n ih =>
    intro x1 x2 x3 x4 x5 x6 σ h
    simp only [wp_X1_link_L47] at h
    refine g_iload C 6 6 rfl dX1_link_47 ?_
    refine g_bipush C dX1_link_49 (by decide) ?_
    refine g_icmp_gt C (y' := 8) rfl (by decide) 140 (by decide) dX1_link_51 (fun hc => ?_) (fun hc => ?_)
    · have h := h.1 hc
      refine g_iinc C 2 2 [(0, .ref (ad 3)), (1, vI x1), (3, vI x3), (4, vI x4), (5, vI x5), (6, vI x6)] rfl (by decide) rfl dX1_link_140 (fun x_1 ex_1 => ?_)
      have h := h x_1 ex_1
      refine g_goto C 9 (by decide) dX1_link_143 ?_
      exact g_pick [1, 2, 0] rfl (hK9 _ _ _ h)
    · have h := h.2 hc
      refine g_iload C 4 4 rfl dX1_link_54 ?_
      refine g_if_ne C rfl 73 (by decide) dX1_link_56 (fun hc => ?_) (fun hc => ?_)
      · have h := h.1 hc
        refine g_gets C (q := (RX1, "OF_LEAF", 12, fun k => Int32.ofInt (zf3 k))) (List.mem_of_getElem? (i := 3) rfl) tw_X1_48 dX1_link_73 (fun b2 hXb2 hbb2 hAb2 => ?_)
        refine g_iload C 4 4 rfl dX1_link_76 ?_
        refine g_iconst C dX1_link_78 ?_
        refine g_imul C dX1_link_79 ?_
        refine g_iload C 6 6 rfl dX1_link_80 ?_
        refine g_iadd C dX1_link_82 ?_
        refine g_bipush C dX1_link_83 (by decide) ?_
        refine g_isub C dX1_link_85 ?_
        obtain ⟨hi, h⟩ := h
        refine g_sald C hXb2 hbb2 hAb2 rfl hi rfl rfl dX1_link_86 ?_
        exact g_pick [0, 1, 2, 3, 4, 5, 6] rfl (m_X1_link_B87 C hlocks hr hK9 (fun _ _ _ _ _ _ _ h => ih _ _ _ _ _ _ _ h) h)
      · have h := h.2 hc
        refine g_aload_n C 0 0 rfl rfl dX1_link_59 ?_
        refine g_iload_n C 3 3 rfl rfl dX1_link_60 ?_
        refine g_iconst C dX1_link_61 ?_
        refine g_iadd C dX1_link_62 ?_
        refine g_iload C 6 6 rfl dX1_link_63 ?_
        refine g_iconst C dX1_link_65 ?_
        refine g_iadd C dX1_link_66 ?_
        refine g_callIv C (m_X1_cell l D cA ad h) hv_X1_cell tw_X1_30 (o := 3) (ci := 1) (As := [vI (x3 + 1), vI (x6 + 3)]) (st := []) rfl rfl rfl rfl ⟨Nat.le_of_ble_eq_true rfl, Nat.le_of_ble_eq_true rfl⟩ rfl rfl (Nat.le_of_ble_eq_true rfl) dX1_link_67 (fun r4 σ3 h => ?_)
        try dsimp only at h
        refine g_goto C 87 (by decide) dX1_link_70 ?_
        exact g_pick [0, 1, 2, 3, 4, 5, 6] rfl (m_X1_link_B87 C hlocks hr hK9 (fun _ _ _ _ _ _ _ h => ih _ _ _ _ _ _ _ h) h)
set_option maxRecDepth 100000 in
set_option maxHeartbeats 4000000 in
theorem m_X1_link_L9 {p : Program} {l : Launch} {e : Env} {s : State} {m : MethodId} {args : Array Value} {below : List Frame} {meth : Method} {c : Code} {D : va_G} {cA : Nat → ClassId} {ad : Nat → Nat} (C : Cx p s m args c cX1_link RX1 9 D cA shC ad zsC) (hlocks : meth.locks = false) (hr : meth.sig.returnType = none) {Q : St → Prop} : ∀ (n : Nat) (x1 : Int) (x2 : Int) (σ : St), wp_X1_link_L9 Q n x1 x2 σ → G p l e rm_X1_link s m args below meth c 0 0 9 D cA shC ad (QV D cA shC ad zsC below args s Q) σ [(0, .ref (ad 3)), (1, vI x1), (2, vI x2)] [] 9 := by
  intro n
  induction n with
  | zero => intro _ _ _ h; exact h.elim
  | succ n ih =>
    intro x1 x2 σ h
    simp only [wp_X1_link_L9] at h
    refine g_iload_n C 2 2 rfl rfl dX1_link_9 ?_
    refine g_if_lt C rfl 146 (by decide) dX1_link_10 (fun hc => ?_) (fun hc => ?_)
    · have h := h.1 hc
      exact g_vret C hlocks hr h dX1_link_146
    · have h := h.2 hc
      refine g_iload_n C 1 1 rfl rfl dX1_link_13 ?_
      refine g_iload_n C 2 2 rfl rfl dX1_link_14 ?_
      refine g_callIs C (m_X1_row l D cA ad h) hv_X1_row tw_X1_34 (As := [vI x1, vI x2]) (st := []) rfl rfl ⟨Nat.le_of_ble_eq_true rfl, Nat.le_of_ble_eq_true rfl⟩ rfl rfl (Nat.le_of_ble_eq_true rfl) dX1_link_15 (fun r2 σ1 h => ?_)
      try dsimp only at h
      refine g_istore_n C 3 [(0, .ref (ad 3)), (1, vI x1), (2, vI x2)] rfl (by decide) rfl dX1_link_18 ?_
      refine g_aload_n C 1 0 rfl rfl dX1_link_19 ?_
      refine g_iload_n C 0 3 rfl rfl dX1_link_20 ?_
      refine g_iconst C dX1_link_21 ?_
      refine g_callIv C (m_X1_cell l D cA ad h) hv_X1_cell tw_X1_30 (o := 3) (ci := 1) (As := [vI r2, vI 0]) (st := []) rfl rfl rfl rfl ⟨Nat.le_of_ble_eq_true rfl, Nat.le_of_ble_eq_true rfl⟩ rfl rfl (Nat.le_of_ble_eq_true rfl) dX1_link_22 (fun r4 σ3 h => ?_)
      try dsimp only at h
      refine g_istore C 4 [(3, vI r2), (0, .ref (ad 3)), (1, vI x1), (2, vI x2)] (by decide) rfl dX1_link_25 ?_
      refine g_aload_n C 2 0 rfl rfl dX1_link_27 ?_
      refine g_iload_n C 3 1 rfl rfl dX1_link_28 ?_
      refine g_iload_n C 4 2 rfl rfl dX1_link_29 ?_
      refine g_callIv C (m_X1_nextPart l D cA ad h) hv_X1_nextPart tw_X1_45 (o := 3) (ci := 1) (As := [vI x1, vI x2]) (st := []) rfl rfl rfl rfl ⟨Nat.le_of_ble_eq_true rfl, Nat.le_of_ble_eq_true rfl⟩ rfl rfl (Nat.le_of_ble_eq_true rfl) dX1_link_30 (fun r6 σ5 h => ?_)
      try dsimp only at h
      refine g_istore C 5 [(4, vI r4), (3, vI r2), (0, .ref (ad 3)), (1, vI x1), (2, vI x2)] (by decide) rfl dX1_link_33 ?_
      refine g_aload_n C 3 0 rfl rfl dX1_link_35 ?_
      refine g_iload_n C 2 3 rfl rfl dX1_link_36 ?_
      refine g_iconst C dX1_link_37 ?_
      refine g_iload C 0 5 rfl dX1_link_38 ?_
      refine g_callVv C (m_X1_set l D cA ad h) hv_X1_set tw_X1_41 (o := 3) (ci := 1) (As := [vI r2, vI 5, vI r6]) (st := []) rfl rfl rfl rfl ⟨Nat.le_of_ble_eq_true rfl, Nat.le_of_ble_eq_true rfl⟩ rfl rfl (Nat.le_of_ble_eq_true rfl) dX1_link_40 (fun σ7 h => ?_)
      try dsimp only at h
      refine g_bipush C dX1_link_43 (by decide) ?_
      refine g_istore C 6 [(5, vI r6), (4, vI r4), (3, vI r2), (0, .ref (ad 3)), (1, vI x1), (2, vI x2)] (by decide) rfl dX1_link_45 ?_
      obtain ⟨nn, h⟩ := h
      exact g_pick [4, 5, 6, 3, 2, 1, 0] rfl (m_X1_link_L47 C hlocks hr (fun _ _ _ h => ih _ _ _ h) nn _ _ _ _ _ _ _ h)
set_option maxRecDepth 100000 in
set_option maxHeartbeats 4000000 in
theorem m_X1_link_E {p : Program} {l : Launch} {e : Env} {s : State} {m : MethodId} {args : Array Value} {below : List Frame} {meth : Method} {c : Code} {D : va_G} {cA : Nat → ClassId} {ad : Nat → Nat} (C : Cx p s m args c cX1_link RX1 9 D cA shC ad zsC) (hlocks : meth.locks = false) (hr : meth.sig.returnType = none) {Q : St → Prop} {a1 : Int} {σ : St} (h : wp_X1_link a1 Q σ) : G p l e rm_X1_link s m args below meth c 0 0 9 D cA shC ad (QV D cA shC ad zsC below args s Q) σ [(0, .ref (ad 3)), (1, vI a1)] [] 0 := by
  unfold wp_X1_link at h
  refine g_aload_n C 0 0 rfl rfl dX1_link_0 ?_
  refine g_get C iX1 (ci := 1) (o := 3) (v := .ref (ad 10)) rfl rfl 2 (by decide) rfl tw_X1_23 dX1_link_1 ?_
  refine g_iload_n C 1 1 rfl rfl dX1_link_4 ?_
  obtain ⟨hi, h⟩ := h
  refine g_iald C (o := 10) (N := 17) rfl rfl hi rfl dX1_link_5 ?_
  refine g_iconst C dX1_link_6 ?_
  refine g_isub C dX1_link_7 ?_
  refine g_name (fun x_1 ex_1 => ?_)
  have h := h x_1 ex_1
  refine g_istore_n C 2 [(0, .ref (ad 3)), (1, vI a1)] rfl (by decide) rfl dX1_link_8 ?_
  obtain ⟨nn, h⟩ := h
  exact g_pick [1, 2, 0] rfl (m_X1_link_L9 C hlocks hr nn _ _ _ h)
set_option maxRecDepth 100000 in
set_option maxHeartbeats 4000000 in
theorem m_X1_link (l : Launch) (D : va_G) (cA : Nat → ClassId) (ad : Nat → Nat) {a1 : Int} {Q : St → Prop} {σ : St} (h : wp_X1_link a1 Q σ) : CtV l yX1_link (.code yX1_link cX1_link 9 none) rm_X1_link D cA shC ad zsC [.ref (ad 3), vI a1] σ Q :=
  ct_V RX1 (by decide +kernel) rfl (Nat.le_of_ble_eq_true rfl) (fun p e s m args below meth c C hlocks hr => m_X1_link_E C hlocks hr h)
abbrev rm_X5_parse : Room := { frames := 7, cells := 0, slots := 0, locals := 148 }
set_option maxRecDepth 100000 in
set_option maxHeartbeats 4000000 in
theorem m_X5_parse_B41 {p : Program} {l : Launch} {e : Env} {s : State} {m : MethodId} {args : Array Value} {below : List Frame} {meth : Method} {c : Code} {D : va_G} {cA : Nat → ClassId} {ad : Nat → Nat} (C : Cx p s m args c cX5_parse RX5 3 D cA shC ad zsC) (hlocks : meth.locks = false) (hr : meth.sig.returnType = none) {Q : St → Prop} {x1 x2 : Int} {σ : St} (h : wp_X5_parse_B41 x1 x2 Q σ) : G p l e rm_X5_parse s m args below meth c 0 0 3 D cA shC ad (QV D cA shC ad zsC below args s Q) σ [(0, .ref (ad 12)), (1, vI x1), (2, vI x2)] [] 41 := by
  unfold wp_X5_parse_B41 at h
  refine g_aload_n C 0 0 rfl rfl dX5_parse_41 ?_
  refine g_get C iX5 (ci := 5) (o := 12) (v := vI (σ 12 0)) rfl rfl 0 (by decide) rfl tw_X5_40 dX5_parse_42 ?_
  refine g_if_eq C rfl 71 (by decide) dX5_parse_45 (fun hc => ?_) (fun hc => ?_)
  · have h := h.1 hc
    refine g_aload_n C 0 0 rfl rfl dX5_parse_71 ?_
    refine g_get C iX5 (ci := 5) (o := 12) (v := .ref (ad 3)) rfl rfl 3 (by decide) rfl tw_X5_15 dX5_parse_72 ?_
    refine g_aload_n C 0 0 rfl rfl dX5_parse_75 ?_
    refine g_get C iX5 (ci := 5) (o := 12) (v := .ref (ad 3)) rfl rfl 3 (by decide) rfl tw_X5_15 dX5_parse_76 ?_
    refine g_get C iX1 (ci := 1) (o := 3) (v := vI (σ 3 4)) rfl rfl 4 (by decide) rfl tw_X5_46 dX5_parse_79 ?_
    refine g_callVv C (m_X1_link l D cA ad h) hv_X1_link tw_X5_49 (o := 3) (ci := 1) (As := [vI (σ 3 4)]) (st := []) rfl rfl rfl rfl ⟨Nat.le_of_ble_eq_true rfl, Nat.le_of_ble_eq_true rfl⟩ rfl rfl (Nat.le_of_ble_eq_true rfl) dX5_parse_82 (fun σ1 h => ?_)
    try dsimp only at h
    refine g_aload_n C 0 0 rfl rfl dX5_parse_85 ?_
    refine g_get C iX5 (ci := 5) (o := 12) (v := .ref (ad 3)) rfl rfl 3 (by decide) rfl tw_X5_15 dX5_parse_86 ?_
    refine g_dup C rfl dX5_parse_89 ?_
    refine g_get C iX1 (ci := 1) (o := 3) (v := vI (σ1 3 4)) rfl rfl 4 (by decide) rfl tw_X5_46 dX5_parse_90 ?_
    refine g_iconst C dX5_parse_93 ?_
    refine g_iadd C dX5_parse_94 ?_
    refine g_put C iX1 (ci := 1) (o := 3) (z := ((σ1 3 4) + 1)) (ty := .int) rfl tyX1_ok nmX1 rfl 4 (by decide) rfl rfl tw_X5_46 rfl (by decide +kernel) rfl rfl dX5_parse_95 (fun σ2 eσ2 => ?_)
    have h := h σ2 eσ2
    exact g_vret C hlocks hr h dX5_parse_98
  · have h := h.2 hc
    refine g_aload_n C 0 0 rfl rfl dX5_parse_48 ?_
    refine g_get C iX5 (ci := 5) (o := 12) (v := .ref (ad 3)) rfl rfl 3 (by decide) rfl tw_X5_15 dX5_parse_49 ?_
    refine g_get C iX1 (ci := 1) (o := 3) (v := .ref (ad 4)) rfl rfl 0 (by decide) rfl tw_X5_19 dX5_parse_52 ?_
    refine g_iload_n C 1 1 rfl rfl dX5_parse_55 ?_
    refine g_put C iX2 (ci := 2) (o := 4) (z := x1) (ty := .int) rfl tyX2_ok nmX2 rfl 3 (by decide) rfl rfl tw_X5_25 rfl (by decide +kernel) rfl rfl dX5_parse_56 (fun σ3 eσ3 => ?_)
    have h := h σ3 eσ3
    refine g_aload_n C 0 0 rfl rfl dX5_parse_59 ?_
    refine g_get C iX5 (ci := 5) (o := 12) (v := .ref (ad 3)) rfl rfl 3 (by decide) rfl tw_X5_15 dX5_parse_60 ?_
    refine g_get C iX1 (ci := 1) (o := 3) (v := .ref (ad 7)) rfl rfl 1 (by decide) rfl tw_X5_31 dX5_parse_63 ?_
    refine g_iload_n C 2 2 rfl rfl dX5_parse_66 ?_
    refine g_put C iX2 (ci := 2) (o := 7) (z := x2) (ty := .int) rfl tyX2_ok nmX2 rfl 3 (by decide) rfl rfl tw_X5_25 rfl (by decide +kernel) rfl rfl dX5_parse_67 (fun σ4 eσ4 => ?_)
    have h := h σ4 eσ4
    exact g_vret C hlocks hr h dX5_parse_70
set_option maxRecDepth 100000 in
set_option maxHeartbeats 4000000 in
theorem m_X5_parse_E {p : Program} {l : Launch} {e : Env} {s : State} {m : MethodId} {args : Array Value} {below : List Frame} {meth : Method} {c : Code} {D : va_G} {cA : Nat → ClassId} {ad : Nat → Nat} (C : Cx p s m args c cX5_parse RX5 3 D cA shC ad zsC) (hlocks : meth.locks = false) (hr : meth.sig.returnType = none) {Q : St → Prop} {σ : St} (h : wp_X5_parse Q σ) : G p l e rm_X5_parse s m args below meth c 0 0 3 D cA shC ad (QV D cA shC ad zsC below args s Q) σ [(0, .ref (ad 12))] [] 0 := by
  unfold wp_X5_parse at h
  refine g_aload_n C 0 0 rfl rfl dX5_parse_0 ?_
  refine g_get C iX5 (ci := 5) (o := 12) (v := .ref (ad 3)) rfl rfl 3 (by decide) rfl tw_X5_15 dX5_parse_1 ?_
  refine g_get C iX1 (ci := 1) (o := 3) (v := .ref (ad 4)) rfl rfl 0 (by decide) rfl tw_X5_19 dX5_parse_4 ?_
  refine g_get C iX2 (ci := 2) (o := 4) (v := vI (σ 4 3)) rfl rfl 3 (by decide) rfl tw_X5_25 dX5_parse_7 ?_
  refine g_name (fun x_1 ex_1 => ?_)
  have h := h x_1 ex_1
  refine g_istore_n C 1 [(0, .ref (ad 12))] rfl (by decide) rfl dX5_parse_10 ?_
  refine g_aload_n C 1 0 rfl rfl dX5_parse_11 ?_
  refine g_get C iX5 (ci := 5) (o := 12) (v := .ref (ad 3)) rfl rfl 3 (by decide) rfl tw_X5_15 dX5_parse_12 ?_
  refine g_get C iX1 (ci := 1) (o := 3) (v := .ref (ad 7)) rfl rfl 1 (by decide) rfl tw_X5_31 dX5_parse_15 ?_
  refine g_get C iX2 (ci := 2) (o := 7) (v := vI (σ 7 3)) rfl rfl 3 (by decide) rfl tw_X5_25 dX5_parse_18 ?_
  refine g_name (fun x_2 ex_2 => ?_)
  have h := h x_2 ex_2
  refine g_istore_n C 2 [(1, vI x_1), (0, .ref (ad 12))] rfl (by decide) rfl dX5_parse_21 ?_
  refine g_aload_n C 2 0 rfl rfl dX5_parse_22 ?_
  refine g_callVv C (m_X5_begin l D cA ad h) hv_X5_begin tw_X5_34 (o := 12) (ci := 5) (As := []) (st := []) rfl rfl rfl rfl ⟨Nat.le_of_ble_eq_true rfl, Nat.le_of_ble_eq_true rfl⟩ rfl rfl (Nat.le_of_ble_eq_true rfl) dX5_parse_23 (fun σ3 h => ?_)
  try dsimp only at h
  refine g_aload_n C 2 0 rfl rfl dX5_parse_26 ?_
  refine g_callVv C (m_X5_takeTokens l D cA ad h) hv_X5_takeTokens tw_X5_37 (o := 12) (ci := 5) (As := []) (st := []) rfl rfl rfl rfl ⟨Nat.le_of_ble_eq_true rfl, Nat.le_of_ble_eq_true rfl⟩ rfl rfl (Nat.le_of_ble_eq_true rfl) dX5_parse_27 (fun σ4 h => ?_)
  try dsimp only at h
  refine g_aload_n C 2 0 rfl rfl dX5_parse_30 ?_
  refine g_get C iX5 (ci := 5) (o := 12) (v := vI (σ4 12 0)) rfl rfl 0 (by decide) rfl tw_X5_40 dX5_parse_31 ?_
  refine g_if_ne C rfl 41 (by decide) dX5_parse_34 (fun hc => ?_) (fun hc => ?_)
  · have h := h.1 hc
    exact g_pick [2, 1, 0] rfl (m_X5_parse_B41 C hlocks hr h)
  · have h := h.2 hc
    refine g_aload_n C 2 0 rfl rfl dX5_parse_37 ?_
    refine g_callVv C (m_X5_judge l D cA ad h) hv_X5_judge tw_X5_43 (o := 12) (ci := 5) (As := []) (st := []) rfl rfl rfl rfl ⟨Nat.le_of_ble_eq_true rfl, Nat.le_of_ble_eq_true rfl⟩ rfl rfl (Nat.le_of_ble_eq_true rfl) dX5_parse_38 (fun σ5 h => ?_)
    try dsimp only at h
    exact g_pick [2, 1, 0] rfl (m_X5_parse_B41 C hlocks hr h)
set_option maxRecDepth 100000 in
set_option maxHeartbeats 4000000 in
theorem m_X5_parse (l : Launch) (D : va_G) (cA : Nat → ClassId) (ad : Nat → Nat) {Q : St → Prop} {σ : St} (h : wp_X5_parse Q σ) : CtV l yX5_parse (.code yX5_parse cX5_parse 3 none) rm_X5_parse D cA shC ad zsC [.ref (ad 12)] σ Q :=
  ct_V RX5 (by decide +kernel) rfl (Nat.le_of_ble_eq_true rfl) (fun p e s m args below meth c C hlocks hr => m_X5_parse_E C hlocks hr h)
abbrev rm_X8_tree : Room := { frames := 8, cells := 0, slots := 0, locals := 170 }
set_option maxRecDepth 100000 in
set_option maxHeartbeats 4000000 in
theorem m_X8_tree_E {p : Program} {l : Launch} {e : Env} {s : State} {m : MethodId} {args : Array Value} {below : List Frame} {meth : Method} {c : Code} {D : va_G} {cA : Nat → ClassId} {ad : Nat → Nat} (C : Cx p s m args c cX8_tree RX8 1 D cA shC ad zsC) (hlocks : meth.locks = false) (hr : meth.sig.returnType = (some .int)) {Q : Int → St → Prop} {σ : St} (h : wp_X8_tree Q σ) : G p l e rm_X8_tree s m args below meth c 0 0 1 D cA shC ad (QI D cA shC ad zsC below args s Q) σ [(0, .ref (ad 0))] [] 0 := by
  unfold wp_X8_tree at h
  refine g_aload_n C 0 0 rfl rfl dX8_tree_0 ?_
  refine g_get C iX8 (ci := 8) (o := 0) (v := .ref (ad 12)) rfl rfl 2 (by decide) rfl tw_X8_28 dX8_tree_1 ?_
  refine g_callVv C (m_X5_parse l D cA ad h) hv_X5_parse tw_X8_97 (o := 12) (ci := 5) (As := []) (st := []) rfl rfl rfl rfl ⟨Nat.le_of_ble_eq_true rfl, Nat.le_of_ble_eq_true rfl⟩ rfl rfl (Nat.le_of_ble_eq_true rfl) dX8_tree_4 (fun σ1 h => ?_)
  try dsimp only at h
  refine g_aload_n C 0 0 rfl rfl dX8_tree_7 ?_
  refine g_get C iX8 (ci := 8) (o := 0) (v := .ref (ad 1)) rfl rfl 0 (by decide) rfl tw_X8_12 dX8_tree_8 ?_
  refine g_iconst C dX8_tree_11 ?_
  refine g_put C iX4 (ci := 4) (o := 1) (z := 0) (ty := .int) rfl tyX4_ok nmX4 rfl 1 (by decide) rfl rfl tw_X8_78 rfl (by decide +kernel) rfl rfl dX8_tree_12 (fun σ2 eσ2 => ?_)
  have h := h σ2 eσ2
  refine g_aload_n C 0 0 rfl rfl dX8_tree_15 ?_
  refine g_aload_n C 0 0 rfl rfl dX8_tree_16 ?_
  refine g_get C iX8 (ci := 8) (o := 0) (v := .ref (ad 12)) rfl rfl 2 (by decide) rfl tw_X8_28 dX8_tree_17 ?_
  refine g_get C iX5 (ci := 5) (o := 12) (v := vI (σ2 12 0)) rfl rfl 0 (by decide) rfl tw_X8_100 dX8_tree_20 ?_
  refine g_put C iX8 (ci := 8) (o := 0) (z := (σ2 12 0)) (ty := .int) rfl tyX8_ok nmX8 rfl 7 (by decide) rfl rfl tw_X8_68 rfl (by decide +kernel) rfl rfl dX8_tree_23 (fun σ3 eσ3 => ?_)
  have h := h σ3 eσ3
  refine g_aload_n C 0 0 rfl rfl dX8_tree_26 ?_
  refine g_get C iX8 (ci := 8) (o := 0) (v := vI (σ3 0 7)) rfl rfl 7 (by decide) rfl tw_X8_68 dX8_tree_27 ?_
  refine g_if_eq C rfl 43 (by decide) dX8_tree_30 (fun hc => ?_) (fun hc => ?_)
  · have h := h.1 hc
    refine g_aload_n C 0 0 rfl rfl dX8_tree_43 ?_
    refine g_callVv C (m_X8_forgetReading l D cA ad h) hv_X8_forgetReading tw_X8_106 (o := 0) (ci := 8) (As := []) (st := []) rfl rfl rfl rfl ⟨Nat.le_of_ble_eq_true rfl, Nat.le_of_ble_eq_true rfl⟩ rfl rfl (Nat.le_of_ble_eq_true rfl) dX8_tree_44 (fun σ4 h => ?_)
    try dsimp only at h
    refine g_aload_n C 0 0 rfl rfl dX8_tree_47 ?_
    refine g_get C iX8 (ci := 8) (o := 0) (v := .ref (ad 3)) rfl rfl 1 (by decide) rfl tw_X8_19 dX8_tree_48 ?_
    refine g_get C iX1 (ci := 1) (o := 3) (v := vI (σ4 3 4)) rfl rfl 4 (by decide) rfl tw_X8_109 dX8_tree_51 ?_
    refine g_iconst C dX8_tree_54 ?_
    refine g_isub C dX8_tree_55 ?_
    exact g_iret C hlocks hr h dX8_tree_56
  · have h := h.2 hc
    refine g_iconst C dX8_tree_33 ?_
    refine g_aload_n C 0 0 rfl rfl dX8_tree_34 ?_
    refine g_get C iX8 (ci := 8) (o := 0) (v := .ref (ad 12)) rfl rfl 2 (by decide) rfl tw_X8_28 dX8_tree_35 ?_
    refine g_get C iX5 (ci := 5) (o := 12) (v := vI (σ3 12 1)) rfl rfl 1 (by decide) rfl tw_X8_103 dX8_tree_38 ?_
    refine g_isub C dX8_tree_41 ?_
    exact g_iret C hlocks hr h dX8_tree_42
set_option maxRecDepth 100000 in
set_option maxHeartbeats 4000000 in
theorem m_X8_tree (l : Launch) (D : va_G) (cA : Nat → ClassId) (ad : Nat → Nat) {Q : Int → St → Prop} {σ : St} (h : wp_X8_tree Q σ) : CtI l yX8_tree (.code yX8_tree cX8_tree 1 (some .int)) rm_X8_tree D cA shC ad zsC [.ref (ad 0)] σ Q :=
  ct_I RX8 (by decide +kernel) rfl (Nat.le_of_ble_eq_true rfl) (fun p e s m args below meth c C hlocks hr => m_X8_tree_E C hlocks hr h)
abbrev rm_X4_misplaced : Room := { frames := 1, cells := 0, slots := 0, locals := 0 }
set_option maxRecDepth 100000 in
set_option maxHeartbeats 4000000 in
theorem m_X4_misplaced_E {p : Program} {l : Launch} {e : Env} {s : State} {m : MethodId} {args : Array Value} {below : List Frame} {meth : Method} {c : Code} {D : va_G} {cA : Nat → ClassId} {ad : Nat → Nat} (C : Cx p s m args c cX4_misplaced RX4 1 D cA shC ad zsC) (hlocks : meth.locks = false) (hr : meth.sig.returnType = (some .int)) {Q : Int → St → Prop} {σ : St} (h : wp_X4_misplaced Q σ) : G p l e rm_X4_misplaced s m args below meth c 0 0 1 D cA shC ad (QI D cA shC ad zsC below args s Q) σ [(0, .ref (ad 1))] [] 0 := by
  unfold wp_X4_misplaced at h
  refine g_aload_n C 0 0 rfl rfl dX4_misplaced_0 ?_
  refine g_get C iX4 (ci := 4) (o := 1) (v := vI (σ 1 2)) rfl rfl 2 (by decide) rfl tw_X4_28 dX4_misplaced_1 ?_
  refine g_iconst C dX4_misplaced_4 ?_
  refine g_icmp_ne C (y' := 1) rfl (by decide) 12 (by decide) dX4_misplaced_5 (fun hc => ?_) (fun hc => ?_)
  · have h := h.1 hc
    refine g_iconst C dX4_misplaced_12 ?_
    exact g_iret C hlocks hr h dX4_misplaced_13
  · have h := h.2 hc
    refine g_iconst C dX4_misplaced_8 ?_
    refine g_goto C 13 (by decide) dX4_misplaced_9 ?_
    exact g_iret C hlocks hr h dX4_misplaced_13
set_option maxRecDepth 100000 in
set_option maxHeartbeats 4000000 in
theorem m_X4_misplaced (l : Launch) (D : va_G) (cA : Nat → ClassId) (ad : Nat → Nat) {Q : Int → St → Prop} {σ : St} (h : wp_X4_misplaced Q σ) : CtI l yX4_misplaced (.code yX4_misplaced cX4_misplaced 1 (some .int)) rm_X4_misplaced D cA shC ad zsC [.ref (ad 1)] σ Q :=
  ct_I RX4 (by decide +kernel) rfl (Nat.le_of_ble_eq_true rfl) (fun p e s m args below meth c C hlocks hr => m_X4_misplaced_E C hlocks hr h)
abbrev rm_X3_findFault : Room := { frames := 4, cells := 0, slots := 0, locals := 61 }
set_option maxRecDepth 100000 in
set_option maxHeartbeats 4000000 in
theorem m_X3_findFault_L9 {p : Program} {l : Launch} {e : Env} {s : State} {m : MethodId} {args : Array Value} {below : List Frame} {meth : Method} {c : Code} {D : va_G} {cA : Nat → ClassId} {ad : Nat → Nat} (C : Cx p s m args c cX3_findFault RX3 2 D cA shC ad zsC) (hlocks : meth.locks = false) (hr : meth.sig.returnType = (some .int)) {Q : Int → St → Prop} : ∀ (n : Nat) (x1 : Int) (σ : St), wp_X3_findFault_L9 Q n x1 σ → G p l e rm_X3_findFault s m args below meth c 0 0 2 D cA shC ad (QI D cA shC ad zsC below args s Q) σ [(0, .ref (ad 13)), (1, vI x1)] [] 9 := by
  intro n
  induction n with
  | zero => intro _ _ h; exact h.elim
  | succ n ih =>
    intro x1 σ h
    simp only [wp_X3_findFault_L9] at h
    refine g_iload_n C 1 1 rfl rfl dX3_findFault_9 ?_
    refine g_bipush C dX3_findFault_10 (by decide) ?_
    refine g_icmp_gt C (y' := 8) rfl (by decide) 59 (by decide) dX3_findFault_12 (fun hc => ?_) (fun hc => ?_)
    · have h := h.1 hc
      refine g_iconst C dX3_findFault_59 ?_
      exact g_iret C hlocks hr h dX3_findFault_60
    · have h := h.2 hc
      refine g_aload_n C 0 0 rfl rfl dX3_findFault_15 ?_
      refine g_get C iX3 (ci := 3) (o := 13) (v := .ref (ad 1)) rfl rfl 1 (by decide) rfl tw_X3_20 dX3_findFault_16 ?_
      refine g_callVv C (m_X4_advance l D cA ad h) hv_X4_advance tw_X3_36 (o := 1) (ci := 4) (As := []) (st := []) rfl rfl rfl rfl ⟨Nat.le_of_ble_eq_true rfl, Nat.le_of_ble_eq_true rfl⟩ rfl rfl (Nat.le_of_ble_eq_true rfl) dX3_findFault_19 (fun σ1 h => ?_)
      try dsimp only at h
      refine g_aload_n C 0 0 rfl rfl dX3_findFault_22 ?_
      refine g_get C iX3 (ci := 3) (o := 13) (v := .ref (ad 1)) rfl rfl 1 (by decide) rfl tw_X3_20 dX3_findFault_23 ?_
      refine g_get C iX4 (ci := 4) (o := 1) (v := vI (σ1 1 2)) rfl rfl 2 (by decide) rfl tw_X3_39 dX3_findFault_26 ?_
      refine g_if_ne C rfl 34 (by decide) dX3_findFault_29 (fun hc => ?_) (fun hc => ?_)
      · have h := h.1 hc
        refine g_aload_n C 0 0 rfl rfl dX3_findFault_34 ?_
        refine g_get C iX3 (ci := 3) (o := 13) (v := .ref (ad 1)) rfl rfl 1 (by decide) rfl tw_X3_20 dX3_findFault_35 ?_
        refine g_get C iX4 (ci := 4) (o := 1) (v := vI (σ1 1 2)) rfl rfl 2 (by decide) rfl tw_X3_39 dX3_findFault_38 ?_
        refine g_iconst C dX3_findFault_41 ?_
        refine g_icmp_eq C (y' := 3) rfl (by decide) 53 (by decide) dX3_findFault_42 (fun hc => ?_) (fun hc => ?_)
        · have h := h.1 hc
          refine g_iinc C 1 1 [(0, .ref (ad 13))] rfl (by decide) rfl dX3_findFault_53 (fun x_2 ex_2 => ?_)
          have h := h x_2 ex_2
          refine g_goto C 9 (by decide) dX3_findFault_56 ?_
          exact g_pick [1, 0] rfl (ih _ _ h)
        · have h := h.2 hc
          refine g_aload_n C 0 0 rfl rfl dX3_findFault_45 ?_
          refine g_get C iX3 (ci := 3) (o := 13) (v := .ref (ad 1)) rfl rfl 1 (by decide) rfl tw_X3_20 dX3_findFault_46 ?_
          refine g_callIv C (m_X4_misplaced l D cA ad h) hv_X4_misplaced tw_X3_43 (o := 1) (ci := 4) (As := []) (st := []) rfl rfl rfl rfl ⟨Nat.le_of_ble_eq_true rfl, Nat.le_of_ble_eq_true rfl⟩ rfl rfl (Nat.le_of_ble_eq_true rfl) dX3_findFault_49 (fun r4 σ3 h => ?_)
          try dsimp only at h
          exact g_iret C hlocks hr h dX3_findFault_52
      · have h := h.2 hc
        refine g_iconst C dX3_findFault_32 ?_
        exact g_iret C hlocks hr h dX3_findFault_33
set_option maxRecDepth 100000 in
set_option maxHeartbeats 4000000 in
theorem m_X3_findFault_E {p : Program} {l : Launch} {e : Env} {s : State} {m : MethodId} {args : Array Value} {below : List Frame} {meth : Method} {c : Code} {D : va_G} {cA : Nat → ClassId} {ad : Nat → Nat} (C : Cx p s m args c cX3_findFault RX3 2 D cA shC ad zsC) (hlocks : meth.locks = false) (hr : meth.sig.returnType = (some .int)) {Q : Int → St → Prop} {σ : St} (h : wp_X3_findFault Q σ) : G p l e rm_X3_findFault s m args below meth c 0 0 2 D cA shC ad (QI D cA shC ad zsC below args s Q) σ [(0, .ref (ad 13))] [] 0 := by
  unfold wp_X3_findFault at h
  refine g_aload_n C 0 0 rfl rfl dX3_findFault_0 ?_
  refine g_get C iX3 (ci := 3) (o := 13) (v := .ref (ad 1)) rfl rfl 1 (by decide) rfl tw_X3_20 dX3_findFault_1 ?_
  refine g_callVv C (m_X4_rewind l D cA ad h) hv_X4_rewind tw_X3_31 (o := 1) (ci := 4) (As := []) (st := []) rfl rfl rfl rfl ⟨Nat.le_of_ble_eq_true rfl, Nat.le_of_ble_eq_true rfl⟩ rfl rfl (Nat.le_of_ble_eq_true rfl) dX3_findFault_4 (fun σ1 h => ?_)
  try dsimp only at h
  refine g_iconst C dX3_findFault_7 ?_
  refine g_istore_n C 1 [(0, .ref (ad 13))] rfl (by decide) rfl dX3_findFault_8 ?_
  obtain ⟨nn, h⟩ := h
  exact g_pick [1, 0] rfl (m_X3_findFault_L9 C hlocks hr nn _ _ h)
set_option maxRecDepth 100000 in
set_option maxHeartbeats 4000000 in
theorem m_X3_findFault (l : Launch) (D : va_G) (cA : Nat → ClassId) (ad : Nat → Nat) {Q : Int → St → Prop} {σ : St} (h : wp_X3_findFault Q σ) : CtI l yX3_findFault (.code yX3_findFault cX3_findFault 2 (some .int)) rm_X3_findFault D cA shC ad zsC [.ref (ad 13)] σ Q :=
  ct_I RX3 (by decide +kernel) rfl (Nat.le_of_ble_eq_true rfl) (fun p e s m args below meth c C hlocks hr => m_X3_findFault_E C hlocks hr h)
abbrev rm_X2_isFull_14 : Room := { frames := 1, cells := 0, slots := 0, locals := 0 }
set_option maxRecDepth 100000 in
set_option maxHeartbeats 4000000 in
theorem m_X2_isFull_14_E {p : Program} {l : Launch} {e : Env} {s : State} {m : MethodId} {args : Array Value} {below : List Frame} {meth : Method} {c : Code} {D : va_G} {cA : Nat → ClassId} {ad : Nat → Nat} (C : Cx p s m args c cX2_isFull RX2 1 D cA shC ad zsC) (hlocks : meth.locks = false) (hr : meth.sig.returnType = (some .boolean)) {Q : Int → St → Prop} {σ : St} (h : wp_X2_isFull 14 96 8 Q σ) : G p l e rm_X2_isFull_14 s m args below meth c 0 0 1 D cA shC ad (QI D cA shC ad zsC below args s Q) σ [(0, .ref (ad 14))] [] 0 := by
  unfold wp_X2_isFull at h
  refine g_aload_n C 0 0 rfl rfl dX2_isFull_0 ?_
  refine g_get C iX2 (ci := 2) (o := 14) (v := vI (σ 14 3)) rfl rfl 3 (by decide) rfl tw_X2_22 dX2_isFull_1 ?_
  refine g_aload_n C 0 0 rfl rfl dX2_isFull_4 ?_
  refine g_get C iX2 (ci := 2) (o := 14) (v := .ref (ad 16)) rfl rfl 2 (by decide) rfl tw_X2_19 dX2_isFull_5 ?_
  refine g_alen C (o := 16) (N := 8) rfl rfl dX2_isFull_8 ?_
  refine g_icmp_lt C rfl rfl 16 (by decide) dX2_isFull_9 (fun hc => ?_) (fun hc => ?_)
  · have h := h.1 hc
    refine g_iconst C dX2_isFull_16 ?_
    exact g_zret C hlocks hr (by decide) h dX2_isFull_17
  · have h := h.2 hc
    refine g_iconst C dX2_isFull_12 ?_
    refine g_goto C 17 (by decide) dX2_isFull_13 ?_
    exact g_zret C hlocks hr (by decide) h dX2_isFull_17
set_option maxRecDepth 100000 in
set_option maxHeartbeats 4000000 in
theorem m_X2_isFull_14 (l : Launch) (D : va_G) (cA : Nat → ClassId) (ad : Nat → Nat) {Q : Int → St → Prop} {σ : St} (h : wp_X2_isFull 14 96 8 Q σ) : CtI l yX2_isFull (.code yX2_isFull cX2_isFull 1 (some .boolean)) rm_X2_isFull_14 D cA shC ad zsC [.ref (ad 14)] σ Q :=
  ct_I RX2 (by decide +kernel) rfl (Nat.le_of_ble_eq_true rfl) (fun p e s m args below meth c C hlocks hr => m_X2_isFull_14_E C hlocks hr h)
abbrev rm_X2_begin_14 : Room := { frames := 1, cells := 0, slots := 0, locals := 0 }
set_option maxRecDepth 100000 in
set_option maxHeartbeats 4000000 in
theorem m_X2_begin_14_E {p : Program} {l : Launch} {e : Env} {s : State} {m : MethodId} {args : Array Value} {below : List Frame} {meth : Method} {c : Code} {D : va_G} {cA : Nat → ClassId} {ad : Nat → Nat} (C : Cx p s m args c cX2_begin RX2 2 D cA shC ad zsC) (hlocks : meth.locks = false) (hr : meth.sig.returnType = (some .int)) {Q : Int → St → Prop} {a1 : Int} {σ : St} (h : wp_X2_begin 14 96 8 a1 Q σ) : G p l e rm_X2_begin_14 s m args below meth c 0 0 2 D cA shC ad (QI D cA shC ad zsC below args s Q) σ [(0, .ref (ad 14)), (1, vI a1)] [] 0 := by
  unfold wp_X2_begin at h
  refine g_iload_n C 1 1 rfl rfl dX2_begin_0 ?_
  refine g_aload_n C 0 0 rfl rfl dX2_begin_1 ?_
  refine g_get C iX2 (ci := 2) (o := 14) (v := vI (σ 14 0)) rfl rfl 0 (by decide) rfl tw_X2_9 dX2_begin_2 ?_
  refine g_imul C dX2_begin_5 ?_
  exact g_iret C hlocks hr h dX2_begin_6
set_option maxRecDepth 100000 in
set_option maxHeartbeats 4000000 in
theorem m_X2_begin_14 (l : Launch) (D : va_G) (cA : Nat → ClassId) (ad : Nat → Nat) {a1 : Int} {Q : Int → St → Prop} {σ : St} (h : wp_X2_begin 14 96 8 a1 Q σ) : CtI l yX2_begin (.code yX2_begin cX2_begin 2 (some .int)) rm_X2_begin_14 D cA shC ad zsC [.ref (ad 14), vI a1] σ Q :=
  ct_I RX2 (by decide +kernel) rfl (Nat.le_of_ble_eq_true rfl) (fun p e s m args below meth c C hlocks hr => m_X2_begin_14_E C hlocks hr h)
abbrev rm_X2_add_14_2 : Room := { frames := 2, cells := 0, slots := 0, locals := 40 }
set_option maxRecDepth 100000 in
set_option maxHeartbeats 4000000 in
theorem m_X2_add_14_2_E {p : Program} {l : Launch} {e : Env} {s : State} {m : MethodId} {args : Array Value} {below : List Frame} {meth : Method} {c : Code} {D : va_G} {cA : Nat → ClassId} {ad : Nat → Nat} (C : Cx p s m args c cX2_add RX2 4 D cA shC ad zsC) (hlocks : meth.locks = false) (hr : meth.sig.returnType = none) {Q : St → Prop} {a2 a3 : Int} {σ : St} (h : wp_X2_add 14 2 96 8 1000 a2 a3 Q σ) : G p l e rm_X2_add_14_2 s m args below meth c 0 0 4 D cA shC ad (QV D cA shC ad zsC below args s Q) σ [(0, .ref (ad 14)), (1, .ref (ad 2)), (2, vI a2), (3, vI a3)] [] 0 := by
  unfold wp_X2_add at h
  refine g_aload_n C 0 0 rfl rfl dX2_add_0 ?_
  refine g_callIv C (m_X2_isFull_14 l D cA ad h) hv_X2_isFull tw_X2_25 (o := 14) (ci := 2) (As := []) (st := []) rfl rfl rfl rfl ⟨Nat.le_of_ble_eq_true rfl, Nat.le_of_ble_eq_true rfl⟩ rfl rfl (Nat.le_of_ble_eq_true rfl) dX2_add_1 (fun r2 σ1 h => ?_)
  try dsimp only at h
  refine g_if_ne C rfl 17 (by decide) dX2_add_4 (fun hc => ?_) (fun hc => ?_)
  · have h := h.1 hc
    exact g_vret C hlocks hr h dX2_add_17
  · have h := h.2 hc
    refine g_iload_n C 3 3 rfl rfl dX2_add_7 ?_
    refine g_iload_n C 2 2 rfl rfl dX2_add_8 ?_
    refine g_isub C dX2_add_9 ?_
    refine g_aload_n C 0 0 rfl rfl dX2_add_10 ?_
    refine g_get C iX2 (ci := 2) (o := 14) (v := vI (σ1 14 0)) rfl rfl 0 (by decide) rfl tw_X2_9 dX2_add_11 ?_
    refine g_icmp_le C rfl rfl 18 (by decide) dX2_add_14 (fun hc => ?_) (fun hc => ?_)
    · have h := h.1 hc
      refine g_aload_n C 1 1 rfl rfl dX2_add_18 ?_
      refine g_iload_n C 2 2 rfl rfl dX2_add_19 ?_
      refine g_aload_n C 0 0 rfl rfl dX2_add_20 ?_
      refine g_get C iX2 (ci := 2) (o := 14) (v := .ref (ad 15)) rfl rfl 1 (by decide) rfl tw_X2_15 dX2_add_21 ?_
      refine g_aload_n C 0 0 rfl rfl dX2_add_24 ?_
      refine g_aload_n C 0 0 rfl rfl dX2_add_25 ?_
      refine g_get C iX2 (ci := 2) (o := 14) (v := vI (σ1 14 3)) rfl rfl 3 (by decide) rfl tw_X2_22 dX2_add_26 ?_
      refine g_callIv C (m_X2_begin_14 l D cA ad h) hv_X2_begin tw_X2_29 (o := 14) (ci := 2) (As := [vI (σ1 14 3)]) (st := [.ref (ad 15), vI a2, .ref (ad 2)]) rfl rfl rfl rfl ⟨Nat.le_of_ble_eq_true rfl, Nat.le_of_ble_eq_true rfl⟩ rfl rfl (Nat.le_of_ble_eq_true rfl) dX2_add_29 (fun r4 σ3 h => ?_)
      try dsimp only at h
      refine g_iload_n C 3 3 rfl rfl dX2_add_32 ?_
      refine g_iload_n C 2 2 rfl rfl dX2_add_33 ?_
      refine g_isub C dX2_add_34 ?_
      obtain ⟨hi, h⟩ := h
      refine g_copy C (o := 2) (o1 := 15) (N := 1000) (N1 := 96) rfl rfl rfl rfl (by decide) hi tw_X2_33 tw_cpN tw_cpS tw_cpI (Nat.le_of_ble_eq_true rfl) (Nat.le_of_ble_eq_true (by decide +kernel)) dX2_add_35 (fun σ5 eσ5 => ?_)
      have h := h σ5 eσ5
      refine g_aload_n C 0 0 rfl rfl dX2_add_38 ?_
      refine g_get C iX2 (ci := 2) (o := 14) (v := .ref (ad 16)) rfl rfl 2 (by decide) rfl tw_X2_19 dX2_add_39 ?_
      refine g_aload_n C 0 0 rfl rfl dX2_add_42 ?_
      refine g_get C iX2 (ci := 2) (o := 14) (v := vI (σ5 14 3)) rfl rfl 3 (by decide) rfl tw_X2_22 dX2_add_43 ?_
      refine g_iload_n C 3 3 rfl rfl dX2_add_46 ?_
      refine g_iload_n C 2 2 rfl rfl dX2_add_47 ?_
      refine g_isub C dX2_add_48 ?_
      obtain ⟨hi, h⟩ := h
      refine g_iast C (o := 16) (N := 8) rfl rfl hi rfl dX2_add_49 (fun σ6 eσ6 => ?_)
      have h := h σ6 eσ6
      refine g_aload_n C 0 0 rfl rfl dX2_add_50 ?_
      refine g_dup C rfl dX2_add_51 ?_
      refine g_get C iX2 (ci := 2) (o := 14) (v := vI (σ6 14 3)) rfl rfl 3 (by decide) rfl tw_X2_22 dX2_add_52 ?_
      refine g_iconst C dX2_add_55 ?_
      refine g_iadd C dX2_add_56 ?_
      refine g_put C iX2 (ci := 2) (o := 14) (z := ((σ6 14 3) + 1)) (ty := .int) rfl tyX2_ok nmX2 rfl 3 (by decide) rfl rfl tw_X2_22 rfl (by decide +kernel) rfl rfl dX2_add_57 (fun σ7 eσ7 => ?_)
      have h := h σ7 eσ7
      exact g_vret C hlocks hr h dX2_add_60
    · have h := h.2 hc
      exact g_vret C hlocks hr h dX2_add_17
set_option maxRecDepth 100000 in
set_option maxHeartbeats 4000000 in
theorem m_X2_add_14_2 (l : Launch) (D : va_G) (cA : Nat → ClassId) (ad : Nat → Nat) {a2 a3 : Int} {Q : St → Prop} {σ : St} (h : wp_X2_add 14 2 96 8 1000 a2 a3 Q σ) : CtV l yX2_add (.code yX2_add cX2_add 4 none) rm_X2_add_14_2 D cA shC ad zsC [.ref (ad 14), .ref (ad 2), vI a2, vI a3] σ Q :=
  ct_V RX2 (by decide +kernel) rfl (Nat.le_of_ble_eq_true rfl) (fun p e s m args below meth c C hlocks hr => m_X2_add_14_2_E C hlocks hr h)
abbrev rm_X3_take : Room := { frames := 4, cells := 0, slots := 0, locals := 63 }
set_option maxRecDepth 100000 in
set_option maxHeartbeats 4000000 in
theorem m_X3_take_B69 {p : Program} {l : Launch} {e : Env} {s : State} {m : MethodId} {args : Array Value} {below : List Frame} {meth : Method} {c : Code} {D : va_G} {cA : Nat → ClassId} {ad : Nat → Nat} (C : Cx p s m args c cX3_take RX3 2 D cA shC ad zsC) (hlocks : meth.locks = false) (hr : meth.sig.returnType = none) {Q : St → Prop} {K17 : Int → St → Prop} (hK17 : ∀ (x1 : Int) (σ : St), K17 x1 σ → G p l e rm_X3_take s m args below meth c 0 0 2 D cA shC ad (QV D cA shC ad zsC below args s Q) σ [(0, .ref (ad 13)), (1, vI x1)] [] 17) {x1 : Int} {σ : St} (h : wp_X3_take_B69 K17 x1 Q σ) : G p l e rm_X3_take s m args below meth c 0 0 2 D cA shC ad (QV D cA shC ad zsC below args s Q) σ [(0, .ref (ad 13)), (1, vI x1)] [] 69 := by
  unfold wp_X3_take_B69 at h
  refine g_iinc C 1 1 [(0, .ref (ad 13))] rfl (by decide) rfl dX3_take_69 (fun x_1 ex_1 => ?_)
  have h := h x_1 ex_1
  refine g_goto C 17 (by decide) dX3_take_72 ?_
  exact g_pick [1, 0] rfl (hK17 _ _ h)
set_option maxRecDepth 100000 in
set_option maxHeartbeats 4000000 in
theorem m_X3_take_L17 {p : Program} {l : Launch} {e : Env} {s : State} {m : MethodId} {args : Array Value} {below : List Frame} {meth : Method} {c : Code} {D : va_G} {cA : Nat → ClassId} {ad : Nat → Nat} (C : Cx p s m args c cX3_take RX3 2 D cA shC ad zsC) (hlocks : meth.locks = false) (hr : meth.sig.returnType = none) {Q : St → Prop} : ∀ (n : Nat) (x1 : Int) (σ : St), wp_X3_take_L17 Q n x1 σ → G p l e rm_X3_take s m args below meth c 0 0 2 D cA shC ad (QV D cA shC ad zsC below args s Q) σ [(0, .ref (ad 13)), (1, vI x1)] [] 17 := by
  intro n
  induction n with
  | zero => intro _ _ h; exact h.elim
  | succ n ih =>
    intro x1 σ h
    simp only [wp_X3_take_L17] at h
    refine g_iload_n C 1 1 rfl rfl dX3_take_17 ?_
    refine g_bipush C dX3_take_18 (by decide) ?_
    refine g_icmp_ge C (y' := 8) rfl (by decide) 75 (by decide) dX3_take_20 (fun hc => ?_) (fun hc => ?_)
    · have h := h.1 hc
      exact g_vret C hlocks hr h dX3_take_75
    · have h := h.2 hc
      refine g_aload_n C 0 0 rfl rfl dX3_take_23 ?_
      refine g_get C iX3 (ci := 3) (o := 13) (v := .ref (ad 1)) rfl rfl 1 (by decide) rfl tw_X3_20 dX3_take_24 ?_
      refine g_callVv C (m_X4_advance l D cA ad h) hv_X4_advance tw_X3_36 (o := 1) (ci := 4) (As := []) (st := []) rfl rfl rfl rfl ⟨Nat.le_of_ble_eq_true rfl, Nat.le_of_ble_eq_true rfl⟩ rfl rfl (Nat.le_of_ble_eq_true rfl) dX3_take_27 (fun σ1 h => ?_)
      try dsimp only at h
      refine g_aload_n C 0 0 rfl rfl dX3_take_30 ?_
      refine g_get C iX3 (ci := 3) (o := 13) (v := .ref (ad 1)) rfl rfl 1 (by decide) rfl tw_X3_20 dX3_take_31 ?_
      refine g_get C iX4 (ci := 4) (o := 1) (v := vI (σ1 1 2)) rfl rfl 2 (by decide) rfl tw_X3_39 dX3_take_34 ?_
      refine g_iconst C dX3_take_37 ?_
      refine g_icmp_ne C (y' := 3) rfl (by decide) 69 (by decide) dX3_take_38 (fun hc => ?_) (fun hc => ?_)
      · have h := h.1 hc
        exact g_pick [0, 1] rfl (m_X3_take_B69 C hlocks hr (fun _ _ h => ih _ _ h) h)
      · have h := h.2 hc
        refine g_aload_n C 0 0 rfl rfl dX3_take_41 ?_
        refine g_get C iX3 (ci := 3) (o := 13) (v := .ref (ad 14)) rfl rfl 0 (by decide) rfl tw_X3_14 dX3_take_42 ?_
        refine g_aload_n C 0 0 rfl rfl dX3_take_45 ?_
        refine g_get C iX3 (ci := 3) (o := 13) (v := .ref (ad 1)) rfl rfl 1 (by decide) rfl tw_X3_20 dX3_take_46 ?_
        refine g_get C iX4 (ci := 4) (o := 1) (v := .ref (ad 2)) rfl rfl 0 (by decide) rfl tw_X3_49 dX3_take_49 ?_
        refine g_aload_n C 0 0 rfl rfl dX3_take_52 ?_
        refine g_get C iX3 (ci := 3) (o := 13) (v := .ref (ad 1)) rfl rfl 1 (by decide) rfl tw_X3_20 dX3_take_53 ?_
        refine g_get C iX4 (ci := 4) (o := 1) (v := vI (σ1 1 3)) rfl rfl 3 (by decide) rfl tw_X3_53 dX3_take_56 ?_
        refine g_aload_n C 0 0 rfl rfl dX3_take_59 ?_
        refine g_get C iX3 (ci := 3) (o := 13) (v := .ref (ad 1)) rfl rfl 1 (by decide) rfl tw_X3_20 dX3_take_60 ?_
        refine g_get C iX4 (ci := 4) (o := 1) (v := vI (σ1 1 4)) rfl rfl 4 (by decide) rfl tw_X3_56 dX3_take_63 ?_
        refine g_callVv C (m_X2_add_14_2 l D cA ad h) hv_X2_add tw_X3_59 (o := 14) (ci := 2) (As := [.ref (ad 2), vI (σ1 1 3), vI (σ1 1 4)]) (st := []) rfl rfl rfl rfl ⟨Nat.le_of_ble_eq_true rfl, Nat.le_of_ble_eq_true rfl⟩ rfl rfl (Nat.le_of_ble_eq_true rfl) dX3_take_66 (fun σ2 h => ?_)
        try dsimp only at h
        exact g_pick [0, 1] rfl (m_X3_take_B69 C hlocks hr (fun _ _ h => ih _ _ h) h)
set_option maxRecDepth 100000 in
set_option maxHeartbeats 4000000 in
theorem m_X3_take_E {p : Program} {l : Launch} {e : Env} {s : State} {m : MethodId} {args : Array Value} {below : List Frame} {meth : Method} {c : Code} {D : va_G} {cA : Nat → ClassId} {ad : Nat → Nat} (C : Cx p s m args c cX3_take RX3 2 D cA shC ad zsC) (hlocks : meth.locks = false) (hr : meth.sig.returnType = none) {Q : St → Prop} {σ : St} (h : wp_X3_take Q σ) : G p l e rm_X3_take s m args below meth c 0 0 2 D cA shC ad (QV D cA shC ad zsC below args s Q) σ [(0, .ref (ad 13))] [] 0 := by
  unfold wp_X3_take at h
  refine g_aload_n C 0 0 rfl rfl dX3_take_0 ?_
  refine g_get C iX3 (ci := 3) (o := 13) (v := .ref (ad 14)) rfl rfl 0 (by decide) rfl tw_X3_14 dX3_take_1 ?_
  refine g_iconst C dX3_take_4 ?_
  refine g_put C iX2 (ci := 2) (o := 14) (z := 0) (ty := .int) rfl tyX2_ok nmX2 rfl 3 (by decide) rfl rfl tw_X3_46 rfl (by decide +kernel) rfl rfl dX3_take_5 (fun σ1 eσ1 => ?_)
  have h := h σ1 eσ1
  refine g_aload_n C 0 0 rfl rfl dX3_take_8 ?_
  refine g_get C iX3 (ci := 3) (o := 13) (v := .ref (ad 1)) rfl rfl 1 (by decide) rfl tw_X3_20 dX3_take_9 ?_
  refine g_callVv C (m_X4_rewind l D cA ad h) hv_X4_rewind tw_X3_31 (o := 1) (ci := 4) (As := []) (st := []) rfl rfl rfl rfl ⟨Nat.le_of_ble_eq_true rfl, Nat.le_of_ble_eq_true rfl⟩ rfl rfl (Nat.le_of_ble_eq_true rfl) dX3_take_12 (fun σ2 h => ?_)
  try dsimp only at h
  refine g_iconst C dX3_take_15 ?_
  refine g_istore_n C 1 [(0, .ref (ad 13))] rfl (by decide) rfl dX3_take_16 ?_
  obtain ⟨nn, h⟩ := h
  exact g_pick [1, 0] rfl (m_X3_take_L17 C hlocks hr nn _ _ h)
set_option maxRecDepth 100000 in
set_option maxHeartbeats 4000000 in
theorem m_X3_take (l : Launch) (D : va_G) (cA : Nat → ClassId) (ad : Nat → Nat) {Q : St → Prop} {σ : St} (h : wp_X3_take Q σ) : CtV l yX3_take (.code yX3_take cX3_take 2 none) rm_X3_take D cA shC ad zsC [.ref (ad 13)] σ Q :=
  ct_V RX3 (by decide +kernel) rfl (Nat.le_of_ble_eq_true rfl) (fun p e s m args below meth c C hlocks hr => m_X3_take_E C hlocks hr h)
abbrev rm_X3_parse : Room := { frames := 5, cells := 0, slots := 0, locals := 84 }
set_option maxRecDepth 100000 in
set_option maxHeartbeats 4000000 in
theorem m_X3_parse_E {p : Program} {l : Launch} {e : Env} {s : State} {m : MethodId} {args : Array Value} {below : List Frame} {meth : Method} {c : Code} {D : va_G} {cA : Nat → ClassId} {ad : Nat → Nat} (C : Cx p s m args c cX3_parse RX3 2 D cA shC ad zsC) (hlocks : meth.locks = false) (hr : meth.sig.returnType = (some .int)) {Q : Int → St → Prop} {σ : St} (h : wp_X3_parse Q σ) : G p l e rm_X3_parse s m args below meth c 0 0 2 D cA shC ad (QI D cA shC ad zsC below args s Q) σ [(0, .ref (ad 13))] [] 0 := by
  unfold wp_X3_parse at h
  refine g_aload_n C 0 0 rfl rfl dX3_parse_0 ?_
  refine g_callIv C (m_X3_findFault l D cA ad h) hv_X3_findFault tw_X3_24 (o := 13) (ci := 3) (As := []) (st := []) rfl rfl rfl rfl ⟨Nat.le_of_ble_eq_true rfl, Nat.le_of_ble_eq_true rfl⟩ rfl rfl (Nat.le_of_ble_eq_true rfl) dX3_parse_1 (fun r2 σ1 h => ?_)
  try dsimp only at h
  refine g_istore_n C 1 [(0, .ref (ad 13))] rfl (by decide) rfl dX3_parse_4 ?_
  refine g_iload_n C 0 1 rfl rfl dX3_parse_5 ?_
  refine g_if_ne C rfl 13 (by decide) dX3_parse_6 (fun hc => ?_) (fun hc => ?_)
  · have h := h.1 hc
    refine g_iload_n C 0 1 rfl rfl dX3_parse_13 ?_
    exact g_iret C hlocks hr h dX3_parse_14
  · have h := h.2 hc
    refine g_aload_n C 1 0 rfl rfl dX3_parse_9 ?_
    refine g_callVv C (m_X3_take l D cA ad h) hv_X3_take tw_X3_28 (o := 13) (ci := 3) (As := []) (st := []) rfl rfl rfl rfl ⟨Nat.le_of_ble_eq_true rfl, Nat.le_of_ble_eq_true rfl⟩ rfl rfl (Nat.le_of_ble_eq_true rfl) dX3_parse_10 (fun σ3 h => ?_)
    try dsimp only at h
    refine g_iload_n C 0 1 rfl rfl dX3_parse_13 ?_
    exact g_iret C hlocks hr h dX3_parse_14
set_option maxRecDepth 100000 in
set_option maxHeartbeats 4000000 in
theorem m_X3_parse (l : Launch) (D : va_G) (cA : Nat → ClassId) (ad : Nat → Nat) {Q : Int → St → Prop} {σ : St} (h : wp_X3_parse Q σ) : CtI l yX3_parse (.code yX3_parse cX3_parse 2 (some .int)) rm_X3_parse D cA shC ad zsC [.ref (ad 13)] σ Q :=
  ct_I RX3 (by decide +kernel) rfl (Nat.le_of_ble_eq_true rfl) (fun p e s m args below meth c C hlocks hr => m_X3_parse_E C hlocks hr h)
abbrev rm_X8_sentence : Room := { frames := 6, cells := 0, slots := 0, locals := 105 }
set_option maxRecDepth 100000 in
set_option maxHeartbeats 4000000 in
theorem m_X8_sentence_E {p : Program} {l : Launch} {e : Env} {s : State} {m : MethodId} {args : Array Value} {below : List Frame} {meth : Method} {c : Code} {D : va_G} {cA : Nat → ClassId} {ad : Nat → Nat} (C : Cx p s m args c cX8_sentence RX8 2 D cA shC ad zsC) (hlocks : meth.locks = false) (hr : meth.sig.returnType = (some .int)) {Q : Int → St → Prop} {σ : St} (h : wp_X8_sentence Q σ) : G p l e rm_X8_sentence s m args below meth c 0 0 2 D cA shC ad (QI D cA shC ad zsC below args s Q) σ [(0, .ref (ad 0))] [] 0 := by
  unfold wp_X8_sentence at h
  refine g_aload_n C 0 0 rfl rfl dX8_sentence_0 ?_
  refine g_aload_n C 0 0 rfl rfl dX8_sentence_1 ?_
  refine g_get C iX8 (ci := 8) (o := 0) (v := .ref (ad 13)) rfl rfl 3 (by decide) rfl tw_X8_37 dX8_sentence_2 ?_
  refine g_callIv C (m_X3_parse l D cA ad h) hv_X3_parse tw_X8_112 (o := 13) (ci := 3) (As := []) (st := [.ref (ad 0)]) rfl rfl rfl rfl ⟨Nat.le_of_ble_eq_true rfl, Nat.le_of_ble_eq_true rfl⟩ rfl rfl (Nat.le_of_ble_eq_true rfl) dX8_sentence_5 (fun r2 σ1 h => ?_)
  try dsimp only at h
  refine g_put C iX8 (ci := 8) (o := 0) (z := r2) (ty := .int) rfl tyX8_ok nmX8 rfl 7 (by decide) rfl rfl tw_X8_68 rfl (by decide +kernel) rfl rfl dX8_sentence_8 (fun σ3 eσ3 => ?_)
  have h := h σ3 eσ3
  refine g_aload_n C 0 0 rfl rfl dX8_sentence_11 ?_
  refine g_get C iX8 (ci := 8) (o := 0) (v := .ref (ad 1)) rfl rfl 0 (by decide) rfl tw_X8_12 dX8_sentence_12 ?_
  refine g_get C iX4 (ci := 4) (o := 1) (v := vI (σ3 1 3)) rfl rfl 3 (by decide) rfl tw_X8_115 dX8_sentence_15 ?_
  refine g_name (fun x_4 ex_4 => ?_)
  have h := h x_4 ex_4
  refine g_istore_n C 1 [(0, .ref (ad 0))] rfl (by decide) rfl dX8_sentence_18 ?_
  refine g_aload_n C 1 0 rfl rfl dX8_sentence_19 ?_
  refine g_get C iX8 (ci := 8) (o := 0) (v := .ref (ad 1)) rfl rfl 0 (by decide) rfl tw_X8_12 dX8_sentence_20 ?_
  refine g_iconst C dX8_sentence_23 ?_
  refine g_put C iX4 (ci := 4) (o := 1) (z := 0) (ty := .int) rfl tyX4_ok nmX4 rfl 1 (by decide) rfl rfl tw_X8_78 rfl (by decide +kernel) rfl rfl dX8_sentence_24 (fun σ5 eσ5 => ?_)
  have h := h σ5 eσ5
  refine g_aload_n C 1 0 rfl rfl dX8_sentence_27 ?_
  refine g_get C iX8 (ci := 8) (o := 0) (v := vI (σ5 0 7)) rfl rfl 7 (by decide) rfl tw_X8_68 dX8_sentence_28 ?_
  refine g_if_eq C rfl 38 (by decide) dX8_sentence_31 (fun hc => ?_) (fun hc => ?_)
  · have h := h.1 hc
    refine g_aload_n C 1 0 rfl rfl dX8_sentence_38 ?_
    refine g_callVv C (m_X8_forgetReading l D cA ad h) hv_X8_forgetReading tw_X8_106 (o := 0) (ci := 8) (As := []) (st := []) rfl rfl rfl rfl ⟨Nat.le_of_ble_eq_true rfl, Nat.le_of_ble_eq_true rfl⟩ rfl rfl (Nat.le_of_ble_eq_true rfl) dX8_sentence_39 (fun σ6 h => ?_)
    try dsimp only at h
    refine g_aload_n C 1 0 rfl rfl dX8_sentence_42 ?_
    refine g_get C iX8 (ci := 8) (o := 0) (v := .ref (ad 13)) rfl rfl 3 (by decide) rfl tw_X8_37 dX8_sentence_43 ?_
    refine g_get C iX3 (ci := 3) (o := 13) (v := .ref (ad 14)) rfl rfl 0 (by decide) rfl tw_X8_118 dX8_sentence_46 ?_
    refine g_get C iX2 (ci := 2) (o := 14) (v := vI (σ6 14 3)) rfl rfl 3 (by decide) rfl tw_X8_122 dX8_sentence_49 ?_
    exact g_iret C hlocks hr h dX8_sentence_52
  · have h := h.2 hc
    refine g_iconst C dX8_sentence_34 ?_
    refine g_iload_n C 0 1 rfl rfl dX8_sentence_35 ?_
    refine g_isub C dX8_sentence_36 ?_
    exact g_iret C hlocks hr h dX8_sentence_37
set_option maxRecDepth 100000 in
set_option maxHeartbeats 4000000 in
theorem m_X8_sentence (l : Launch) (D : va_G) (cA : Nat → ClassId) (ad : Nat → Nat) {Q : Int → St → Prop} {σ : St} (h : wp_X8_sentence Q σ) : CtI l yX8_sentence (.code yX8_sentence cX8_sentence 2 (some .int)) rm_X8_sentence D cA shC ad zsC [.ref (ad 0)] σ Q :=
  ct_I RX8 (by decide +kernel) rfl (Nat.le_of_ble_eq_true rfl) (fun p e s m args below meth c C hlocks hr => m_X8_sentence_E C hlocks hr h)
abbrev rm_X8_parseLabel : Room := { frames := 4, cells := 0, slots := 0, locals := 61 }
set_option maxRecDepth 100000 in
set_option maxHeartbeats 4000000 in
theorem m_X8_parseLabel_E {p : Program} {l : Launch} {e : Env} {s : State} {m : MethodId} {args : Array Value} {below : List Frame} {meth : Method} {c : Code} {D : va_G} {cA : Nat → ClassId} {ad : Nat → Nat} (C : Cx p s m args c cX8_parseLabel RX8 1 D cA shC ad zsC) (hlocks : meth.locks = false) (hr : meth.sig.returnType = (some .int)) {Q : Int → St → Prop} {σ : St} (h : wp_X8_parseLabel Q σ) : G p l e rm_X8_parseLabel s m args below meth c 0 0 1 D cA shC ad (QI D cA shC ad zsC below args s Q) σ [(0, .ref (ad 0))] [] 0 := by
  unfold wp_X8_parseLabel at h
  refine g_aload_n C 0 0 rfl rfl dX8_parseLabel_0 ?_
  refine g_get C iX8 (ci := 8) (o := 0) (v := .ref (ad 1)) rfl rfl 0 (by decide) rfl tw_X8_12 dX8_parseLabel_1 ?_
  refine g_callVv C (m_X4_rewind l D cA ad h) hv_X4_rewind tw_X8_205 (o := 1) (ci := 4) (As := []) (st := []) rfl rfl rfl rfl ⟨Nat.le_of_ble_eq_true rfl, Nat.le_of_ble_eq_true rfl⟩ rfl rfl (Nat.le_of_ble_eq_true rfl) dX8_parseLabel_4 (fun σ1 h => ?_)
  try dsimp only at h
  refine g_aload_n C 0 0 rfl rfl dX8_parseLabel_7 ?_
  refine g_get C iX8 (ci := 8) (o := 0) (v := .ref (ad 1)) rfl rfl 0 (by decide) rfl tw_X8_12 dX8_parseLabel_8 ?_
  refine g_callVv C (m_X4_advance l D cA ad h) hv_X4_advance tw_X8_208 (o := 1) (ci := 4) (As := []) (st := []) rfl rfl rfl rfl ⟨Nat.le_of_ble_eq_true rfl, Nat.le_of_ble_eq_true rfl⟩ rfl rfl (Nat.le_of_ble_eq_true rfl) dX8_parseLabel_11 (fun σ2 h => ?_)
  try dsimp only at h
  refine g_aload_n C 0 0 rfl rfl dX8_parseLabel_14 ?_
  refine g_get C iX8 (ci := 8) (o := 0) (v := .ref (ad 1)) rfl rfl 0 (by decide) rfl tw_X8_12 dX8_parseLabel_15 ?_
  refine g_get C iX4 (ci := 4) (o := 1) (v := vI (σ2 1 2)) rfl rfl 2 (by decide) rfl tw_X8_211 dX8_parseLabel_18 ?_
  refine g_iconst C dX8_parseLabel_21 ?_
  refine g_icmp_eq C (y' := 2) rfl (by decide) 33 (by decide) dX8_parseLabel_22 (fun hc => ?_) (fun hc => ?_)
  · have h := h.1 hc
    refine g_aload_n C 0 0 rfl rfl dX8_parseLabel_33 ?_
    refine g_aload_n C 0 0 rfl rfl dX8_parseLabel_34 ?_
    refine g_get C iX8 (ci := 8) (o := 0) (v := .ref (ad 3)) rfl rfl 1 (by decide) rfl tw_X8_19 dX8_parseLabel_35 ?_
    refine g_get C iX1 (ci := 1) (o := 3) (v := .ref (ad 4)) rfl rfl 0 (by decide) rfl tw_X8_188 dX8_parseLabel_38 ?_
    refine g_aload_n C 0 0 rfl rfl dX8_parseLabel_41 ?_
    refine g_get C iX8 (ci := 8) (o := 0) (v := .ref (ad 1)) rfl rfl 0 (by decide) rfl tw_X8_12 dX8_parseLabel_42 ?_
    refine g_get C iX4 (ci := 4) (o := 1) (v := .ref (ad 2)) rfl rfl 0 (by decide) rfl tw_X8_217 dX8_parseLabel_45 ?_
    refine g_aload_n C 0 0 rfl rfl dX8_parseLabel_48 ?_
    refine g_get C iX8 (ci := 8) (o := 0) (v := .ref (ad 1)) rfl rfl 0 (by decide) rfl tw_X8_12 dX8_parseLabel_49 ?_
    refine g_get C iX4 (ci := 4) (o := 1) (v := vI (σ2 1 3)) rfl rfl 3 (by decide) rfl tw_X8_115 dX8_parseLabel_52 ?_
    refine g_aload_n C 0 0 rfl rfl dX8_parseLabel_55 ?_
    refine g_get C iX8 (ci := 8) (o := 0) (v := .ref (ad 1)) rfl rfl 0 (by decide) rfl tw_X8_12 dX8_parseLabel_56 ?_
    refine g_get C iX4 (ci := 4) (o := 1) (v := vI (σ2 1 4)) rfl rfl 4 (by decide) rfl tw_X8_220 dX8_parseLabel_59 ?_
    refine g_callIv C (m_X2_find_4_2 l D cA ad h) hv_X2_find tw_X8_223 (o := 4) (ci := 2) (As := [.ref (ad 2), vI (σ2 1 3), vI (σ2 1 4)]) (st := [.ref (ad 0)]) rfl rfl rfl rfl ⟨Nat.le_of_ble_eq_true rfl, Nat.le_of_ble_eq_true rfl⟩ rfl rfl (Nat.le_of_ble_eq_true rfl) dX8_parseLabel_62 (fun r4 σ3 h => ?_)
    try dsimp only at h
    refine g_put C iX8 (ci := 8) (o := 0) (z := r4) (ty := .int) rfl tyX8_ok nmX8 rfl 8 (by decide) rfl rfl tw_X8_72 rfl (by decide +kernel) rfl rfl dX8_parseLabel_65 (fun σ5 eσ5 => ?_)
    have h := h σ5 eσ5
    refine g_aload_n C 0 0 rfl rfl dX8_parseLabel_68 ?_
    refine g_get C iX8 (ci := 8) (o := 0) (v := .ref (ad 1)) rfl rfl 0 (by decide) rfl tw_X8_12 dX8_parseLabel_69 ?_
    refine g_callVv C (m_X4_advance l D cA ad h) hv_X4_advance tw_X8_208 (o := 1) (ci := 4) (As := []) (st := []) rfl rfl rfl rfl ⟨Nat.le_of_ble_eq_true rfl, Nat.le_of_ble_eq_true rfl⟩ rfl rfl (Nat.le_of_ble_eq_true rfl) dX8_parseLabel_72 (fun σ6 h => ?_)
    try dsimp only at h
    refine g_aload_n C 0 0 rfl rfl dX8_parseLabel_75 ?_
    refine g_get C iX8 (ci := 8) (o := 0) (v := .ref (ad 1)) rfl rfl 0 (by decide) rfl tw_X8_12 dX8_parseLabel_76 ?_
    refine g_get C iX4 (ci := 4) (o := 1) (v := vI (σ6 1 2)) rfl rfl 2 (by decide) rfl tw_X8_211 dX8_parseLabel_79 ?_
    refine g_if_ne C rfl 89 (by decide) dX8_parseLabel_82 (fun hc => ?_) (fun hc => ?_)
    · have h := h.1 hc
      refine g_aload_n C 0 0 rfl rfl dX8_parseLabel_89 ?_
      refine g_get C iX8 (ci := 8) (o := 0) (v := .ref (ad 1)) rfl rfl 0 (by decide) rfl tw_X8_12 dX8_parseLabel_90 ?_
      refine g_callIv C (m_X4_misplaced l D cA ad h) hv_X4_misplaced tw_X8_214 (o := 1) (ci := 4) (As := []) (st := []) rfl rfl rfl rfl ⟨Nat.le_of_ble_eq_true rfl, Nat.le_of_ble_eq_true rfl⟩ rfl rfl (Nat.le_of_ble_eq_true rfl) dX8_parseLabel_93 (fun r8 σ7 h => ?_)
      try dsimp only at h
      exact g_iret C hlocks hr h dX8_parseLabel_96
    · have h := h.2 hc
      refine g_iconst C dX8_parseLabel_85 ?_
      refine g_goto C 96 (by decide) dX8_parseLabel_86 ?_
      exact g_iret C hlocks hr h dX8_parseLabel_96
  · have h := h.2 hc
    refine g_aload_n C 0 0 rfl rfl dX8_parseLabel_25 ?_
    refine g_get C iX8 (ci := 8) (o := 0) (v := .ref (ad 1)) rfl rfl 0 (by decide) rfl tw_X8_12 dX8_parseLabel_26 ?_
    refine g_callIv C (m_X4_misplaced l D cA ad h) hv_X4_misplaced tw_X8_214 (o := 1) (ci := 4) (As := []) (st := []) rfl rfl rfl rfl ⟨Nat.le_of_ble_eq_true rfl, Nat.le_of_ble_eq_true rfl⟩ rfl rfl (Nat.le_of_ble_eq_true rfl) dX8_parseLabel_29 (fun r10 σ9 h => ?_)
    try dsimp only at h
    exact g_iret C hlocks hr h dX8_parseLabel_32
set_option maxRecDepth 100000 in
set_option maxHeartbeats 4000000 in
theorem m_X8_parseLabel (l : Launch) (D : va_G) (cA : Nat → ClassId) (ad : Nat → Nat) {Q : Int → St → Prop} {σ : St} (h : wp_X8_parseLabel Q σ) : CtI l yX8_parseLabel (.code yX8_parseLabel cX8_parseLabel 1 (some .int)) rm_X8_parseLabel D cA shC ad zsC [.ref (ad 0)] σ Q :=
  ct_I RX8 (by decide +kernel) rfl (Nat.le_of_ble_eq_true rfl) (fun p e s m args below meth c C hlocks hr => m_X8_parseLabel_E C hlocks hr h)
abbrev rm_X2_isSame_7_15 : Room := { frames := 1, cells := 0, slots := 0, locals := 0 }
set_option maxRecDepth 100000 in
set_option maxHeartbeats 4000000 in
theorem m_X2_isSame_L3_7_15 {p : Program} {l : Launch} {e : Env} {s : State} {m : MethodId} {args : Array Value} {below : List Frame} {meth : Method} {c : Code} {D : va_G} {cA : Nat → ClassId} {ad : Nat → Nat} (C : Cx p s m args c cX2_isSame RX2 6 D cA shC ad zsC) (hlocks : meth.locks = false) (hr : meth.sig.returnType = (some .boolean)) {Q : Int → St → Prop} : ∀ (n : Nat) (x1 : Int) (x3 : Int) (x4 : Int) (x5 : Int) (σ : St), wp_X2_isSame_L3 7 15 384 32 96 Q n x1 x3 x4 x5 σ → G p l e rm_X2_isSame_7_15 s m args below meth c 0 0 6 D cA shC ad (QI D cA shC ad zsC below args s Q) σ [(0, .ref (ad 7)), (1, vI x1), (2, .ref (ad 15)), (3, vI x3), (4, vI x4), (5, vI x5)] [] 3 := by
  intro n
  induction n with
  | zero => intro _ _ _ _ _ h; exact h.elim
  | succ n ih =>
    intro x1 x3 x4 x5 σ h
    simp only [wp_X2_isSame_L3] at h
    refine g_iload C 5 5 rfl dX2_isSame_3 ?_
    refine g_iload C 4 4 rfl dX2_isSame_5 ?_
    refine g_icmp_ge C rfl rfl 36 (by decide) dX2_isSame_7 (fun hc => ?_) (fun hc => ?_)
    · have h := h.1 hc
      refine g_iconst C dX2_isSame_36 ?_
      exact g_zret C hlocks hr (by decide) h dX2_isSame_37
    · have h := h.2 hc
      refine g_aload_n C 2 2 rfl rfl dX2_isSame_10 ?_
      refine g_iload C 5 5 rfl dX2_isSame_11 ?_
      obtain ⟨hi, h⟩ := h
      refine g_iald C (o := 15) (N := 96) rfl rfl hi rfl dX2_isSame_13 ?_
      refine g_aload_n C 0 0 rfl rfl dX2_isSame_14 ?_
      refine g_get C iX2 (ci := 2) (o := 7) (v := .ref (ad 8)) rfl rfl 1 (by decide) rfl tw_X2_15 dX2_isSame_15 ?_
      refine g_iload_n C 1 1 rfl rfl dX2_isSame_18 ?_
      refine g_iload C 5 5 rfl dX2_isSame_19 ?_
      refine g_iadd C dX2_isSame_21 ?_
      refine g_iload_n C 3 3 rfl rfl dX2_isSame_22 ?_
      refine g_isub C dX2_isSame_23 ?_
      obtain ⟨hi, h⟩ := h
      refine g_iald C (o := 8) (N := 384) rfl rfl hi rfl dX2_isSame_24 ?_
      refine g_icmp_eq C rfl rfl 30 (by decide) dX2_isSame_25 (fun hc => ?_) (fun hc => ?_)
      · have h := h.1 hc
        refine g_iinc C 5 5 [(0, .ref (ad 7)), (1, vI x1), (2, .ref (ad 15)), (3, vI x3), (4, vI x4)] rfl (by decide) rfl dX2_isSame_30 (fun x_1 ex_1 => ?_)
        have h := h x_1 ex_1
        refine g_goto C 3 (by decide) dX2_isSame_33 ?_
        exact g_pick [1, 2, 3, 4, 5, 0] rfl (ih _ _ _ _ _ h)
      · have h := h.2 hc
        refine g_iconst C dX2_isSame_28 ?_
        exact g_zret C hlocks hr (by decide) h dX2_isSame_29
set_option maxRecDepth 100000 in
set_option maxHeartbeats 4000000 in
theorem m_X2_isSame_7_15_E {p : Program} {l : Launch} {e : Env} {s : State} {m : MethodId} {args : Array Value} {below : List Frame} {meth : Method} {c : Code} {D : va_G} {cA : Nat → ClassId} {ad : Nat → Nat} (C : Cx p s m args c cX2_isSame RX2 6 D cA shC ad zsC) (hlocks : meth.locks = false) (hr : meth.sig.returnType = (some .boolean)) {Q : Int → St → Prop} {a1 a3 a4 : Int} {σ : St} (h : wp_X2_isSame 7 15 384 32 96 a1 a3 a4 Q σ) : G p l e rm_X2_isSame_7_15 s m args below meth c 0 0 6 D cA shC ad (QI D cA shC ad zsC below args s Q) σ [(0, .ref (ad 7)), (1, vI a1), (2, .ref (ad 15)), (3, vI a3), (4, vI a4)] [] 0 := by
  unfold wp_X2_isSame at h
  refine g_iload_n C 3 3 rfl rfl dX2_isSame_0 ?_
  refine g_istore C 5 [(0, .ref (ad 7)), (1, vI a1), (2, .ref (ad 15)), (3, vI a3), (4, vI a4)] (by decide) rfl dX2_isSame_1 ?_
  obtain ⟨nn, h⟩ := h
  exact g_pick [1, 2, 3, 4, 5, 0] rfl (m_X2_isSame_L3_7_15 C hlocks hr nn _ _ _ _ _ h)
