abbrev rm_X8_fault : Room := { frames := 1, cells := 0, slots := 0, locals := 0 }
set_option maxRecDepth 100000 in
set_option maxHeartbeats 4000000 in
theorem m_X8_fault_E {p : Program} {l : Launch} {e : Env} {s : State} {m : MethodId} {args : Array Value} {below : List Frame} {meth : Method} {c : Code} {D : va_G} {cA : Nat → ClassId} {ad : Nat → Nat} (C : Cx p s m args c cX8_fault RX8 1 D cA shC ad zsC) (hlocks : meth.locks = false) (hr : meth.sig.returnType = (some .int)) {Q : Int → St → Prop} {σ : St} (h : wp_X8_fault Q σ) : G p l e rm_X8_fault s m args below meth c 0 0 1 D cA shC ad (QI D cA shC ad zsC below args s Q) σ [(0, .ref (ad 0))] [] 0 := by
  unfold wp_X8_fault at h
  refine g_aload_n C 0 0 rfl rfl dX8_fault_0 ?_
  refine g_get C iX8 (ci := 8) (o := 0) (v := vI (σ 0 7)) rfl rfl 7 (by decide) rfl tw_X8_68 dX8_fault_1 ?_
  exact g_iret C hlocks hr h dX8_fault_4
set_option maxRecDepth 100000 in
set_option maxHeartbeats 4000000 in
theorem m_X8_fault (l : Launch) (D : va_G) (cA : Nat → ClassId) (ad : Nat → Nat) {Q : Int → St → Prop} {σ : St} (h : wp_X8_fault Q σ) : CtI l yX8_fault (.code yX8_fault cX8_fault 1 (some .int)) rm_X8_fault D cA shC ad zsC [.ref (ad 0)] σ Q :=
  ct_I RX8 (by decide +kernel) rfl (Nat.le_of_ble_eq_true rfl) (fun p e s m args below meth c C hlocks hr => m_X8_fault_E C hlocks hr h)
abbrev rm_X8_forgetReading : Room := { frames := 1, cells := 0, slots := 0, locals := 0 }
set_option maxRecDepth 100000 in
set_option maxHeartbeats 4000000 in
theorem m_X8_forgetReading_E {p : Program} {l : Launch} {e : Env} {s : State} {m : MethodId} {args : Array Value} {below : List Frame} {meth : Method} {c : Code} {D : va_G} {cA : Nat → ClassId} {ad : Nat → Nat} (C : Cx p s m args c cX8_forgetReading RX8 1 D cA shC ad zsC) (hlocks : meth.locks = false) (hr : meth.sig.returnType = none) {Q : St → Prop} {σ : St} (h : wp_X8_forgetReading Q σ) : G p l e rm_X8_forgetReading s m args below meth c 0 0 1 D cA shC ad (QV D cA shC ad zsC below args s Q) σ [(0, .ref (ad 0))] [] 0 := by
  unfold wp_X8_forgetReading at h
  refine g_aload_n C 0 0 rfl rfl dX8_forgetReading_0 ?_
  refine g_iconst C dX8_forgetReading_1 ?_
  refine g_put C iX8 (ci := 8) (o := 0) (z := (-1)) (ty := .int) rfl tyX8_ok nmX8 rfl 9 (by decide) rfl rfl tw_X8_75 rfl (by decide +kernel) rfl rfl dX8_forgetReading_2 (fun σ1 eσ1 => ?_)
  have h := h σ1 eσ1
  refine g_aload_n C 0 0 rfl rfl dX8_forgetReading_5 ?_
  refine g_get C iX8 (ci := 8) (o := 0) (v := .ref (ad 23)) rfl rfl 5 (by decide) rfl tw_X8_55 dX8_forgetReading_6 ?_
  refine g_iconst C dX8_forgetReading_9 ?_
  refine g_put C iX6 (ci := 6) (o := 23) (z := 0) (ty := .int) rfl tyX6_ok nmX6 rfl 0 (by decide) rfl rfl tw_X8_156 rfl (by decide +kernel) rfl rfl dX8_forgetReading_10 (fun σ2 eσ2 => ?_)
  have h := h σ2 eσ2
  refine g_aload_n C 0 0 rfl rfl dX8_forgetReading_13 ?_
  refine g_get C iX8 (ci := 8) (o := 0) (v := .ref (ad 26)) rfl rfl 6 (by decide) rfl tw_X8_64 dX8_forgetReading_14 ?_
  refine g_iconst C dX8_forgetReading_17 ?_
  refine g_put C iX7 (ci := 7) (o := 26) (z := 0) (ty := .int) rfl tyX7_ok nmX7 rfl 0 (by decide) rfl rfl tw_X8_167 rfl (by decide +kernel) rfl rfl dX8_forgetReading_18 (fun σ3 eσ3 => ?_)
  have h := h σ3 eσ3
  exact g_vret C hlocks hr h dX8_forgetReading_21
set_option maxRecDepth 100000 in
set_option maxHeartbeats 4000000 in
theorem m_X8_forgetReading (l : Launch) (D : va_G) (cA : Nat → ClassId) (ad : Nat → Nat) {Q : St → Prop} {σ : St} (h : wp_X8_forgetReading Q σ) : CtV l yX8_forgetReading (.code yX8_forgetReading cX8_forgetReading 1 none) rm_X8_forgetReading D cA shC ad zsC [.ref (ad 0)] σ Q :=
  ct_V RX8 (by decide +kernel) rfl (Nat.le_of_ble_eq_true rfl) (fun p e s m args below meth c C hlocks hr => m_X8_forgetReading_E C hlocks hr h)
abbrev rm_X8_clear : Room := { frames := 2, cells := 0, slots := 0, locals := 20 }
set_option maxRecDepth 100000 in
set_option maxHeartbeats 4000000 in
theorem m_X8_clear_E {p : Program} {l : Launch} {e : Env} {s : State} {m : MethodId} {args : Array Value} {below : List Frame} {meth : Method} {c : Code} {D : va_G} {cA : Nat → ClassId} {ad : Nat → Nat} (C : Cx p s m args c cX8_clear RX8 2 D cA shC ad zsC) (hlocks : meth.locks = false) (hr : meth.sig.returnType = (some .int)) {Q : Int → St → Prop} {σ : St} (h : wp_X8_clear Q σ) : G p l e rm_X8_clear s m args below meth c 0 0 2 D cA shC ad (QI D cA shC ad zsC below args s Q) σ [(0, .ref (ad 0))] [] 0 := by
  unfold wp_X8_clear at h
  refine g_aload_n C 0 0 rfl rfl dX8_clear_0 ?_
  refine g_get C iX8 (ci := 8) (o := 0) (v := .ref (ad 3)) rfl rfl 1 (by decide) rfl tw_X8_19 dX8_clear_1 ?_
  refine g_get C iX1 (ci := 1) (o := 3) (v := vI (σ 3 4)) rfl rfl 4 (by decide) rfl tw_X8_109 dX8_clear_4 ?_
  refine g_name (fun x_1 ex_1 => ?_)
  have h := h x_1 ex_1
  refine g_istore_n C 1 [(0, .ref (ad 0))] rfl (by decide) rfl dX8_clear_7 ?_
  refine g_aload_n C 1 0 rfl rfl dX8_clear_8 ?_
  refine g_get C iX8 (ci := 8) (o := 0) (v := .ref (ad 3)) rfl rfl 1 (by decide) rfl tw_X8_19 dX8_clear_9 ?_
  refine g_iconst C dX8_clear_12 ?_
  refine g_put C iX1 (ci := 1) (o := 3) (z := 0) (ty := .int) rfl tyX1_ok nmX1 rfl 4 (by decide) rfl rfl tw_X8_109 rfl (by decide +kernel) rfl rfl dX8_clear_13 (fun σ2 eσ2 => ?_)
  have h := h σ2 eσ2
  refine g_aload_n C 1 0 rfl rfl dX8_clear_16 ?_
  refine g_get C iX8 (ci := 8) (o := 0) (v := .ref (ad 3)) rfl rfl 1 (by decide) rfl tw_X8_19 dX8_clear_17 ?_
  refine g_get C iX1 (ci := 1) (o := 3) (v := .ref (ad 4)) rfl rfl 0 (by decide) rfl tw_X8_188 dX8_clear_20 ?_
  refine g_iconst C dX8_clear_23 ?_
  refine g_put C iX2 (ci := 2) (o := 4) (z := 0) (ty := .int) rfl tyX2_ok nmX2 rfl 3 (by decide) rfl rfl tw_X8_122 rfl (by decide +kernel) rfl rfl dX8_clear_24 (fun σ3 eσ3 => ?_)
  have h := h σ3 eσ3
  refine g_aload_n C 1 0 rfl rfl dX8_clear_27 ?_
  refine g_get C iX8 (ci := 8) (o := 0) (v := .ref (ad 3)) rfl rfl 1 (by decide) rfl tw_X8_19 dX8_clear_28 ?_
  refine g_get C iX1 (ci := 1) (o := 3) (v := .ref (ad 7)) rfl rfl 1 (by decide) rfl tw_X8_187 dX8_clear_31 ?_
  refine g_iconst C dX8_clear_34 ?_
  refine g_put C iX2 (ci := 2) (o := 7) (z := 0) (ty := .int) rfl tyX2_ok nmX2 rfl 3 (by decide) rfl rfl tw_X8_122 rfl (by decide +kernel) rfl rfl dX8_clear_35 (fun σ4 eσ4 => ?_)
  have h := h σ4 eσ4
  refine g_aload_n C 1 0 rfl rfl dX8_clear_38 ?_
  refine g_callVv C (m_X8_forgetReading l D cA ad h) hv_X8_forgetReading tw_X8_106 (o := 0) (ci := 8) (As := []) (st := []) rfl rfl rfl rfl ⟨Nat.le_of_ble_eq_true rfl, Nat.le_of_ble_eq_true rfl⟩ rfl rfl (Nat.le_of_ble_eq_true rfl) dX8_clear_39 (fun σ5 h => ?_)
  try dsimp only at h
  refine g_iload_n C 0 1 rfl rfl dX8_clear_42 ?_
  exact g_iret C hlocks hr h dX8_clear_43
set_option maxRecDepth 100000 in
set_option maxHeartbeats 4000000 in
theorem m_X8_clear (l : Launch) (D : va_G) (cA : Nat → ClassId) (ad : Nat → Nat) {Q : Int → St → Prop} {σ : St} (h : wp_X8_clear Q σ) : CtI l yX8_clear (.code yX8_clear cX8_clear 2 (some .int)) rm_X8_clear D cA shC ad zsC [.ref (ad 0)] σ Q :=
  ct_I RX8 (by decide +kernel) rfl (Nat.le_of_ble_eq_true rfl) (fun p e s m args below meth c C hlocks hr => m_X8_clear_E C hlocks hr h)
abbrev rm_X4_rewind : Room := { frames := 1, cells := 0, slots := 0, locals := 0 }
set_option maxRecDepth 100000 in
set_option maxHeartbeats 4000000 in
theorem m_X4_rewind_E {p : Program} {l : Launch} {e : Env} {s : State} {m : MethodId} {args : Array Value} {below : List Frame} {meth : Method} {c : Code} {D : va_G} {cA : Nat → ClassId} {ad : Nat → Nat} (C : Cx p s m args c cX4_rewind RX4 1 D cA shC ad zsC) (hlocks : meth.locks = false) (hr : meth.sig.returnType = none) {Q : St → Prop} {σ : St} (h : wp_X4_rewind Q σ) : G p l e rm_X4_rewind s m args below meth c 0 0 1 D cA shC ad (QV D cA shC ad zsC below args s Q) σ [(0, .ref (ad 1))] [] 0 := by
  unfold wp_X4_rewind at h
  refine g_aload_n C 0 0 rfl rfl dX4_rewind_0 ?_
  refine g_iconst C dX4_rewind_1 ?_
  refine g_put C iX4 (ci := 4) (o := 1) (z := 0) (ty := .int) rfl tyX4_ok nmX4 rfl 4 (by decide) rfl rfl tw_X4_19 rfl (by decide +kernel) rfl rfl dX4_rewind_2 (fun σ1 eσ1 => ?_)
  have h := h σ1 eσ1
  exact g_vret C hlocks hr h dX4_rewind_5
set_option maxRecDepth 100000 in
set_option maxHeartbeats 4000000 in
theorem m_X4_rewind (l : Launch) (D : va_G) (cA : Nat → ClassId) (ad : Nat → Nat) {Q : St → Prop} {σ : St} (h : wp_X4_rewind Q σ) : CtV l yX4_rewind (.code yX4_rewind cX4_rewind 1 none) rm_X4_rewind D cA shC ad zsC [.ref (ad 1)] σ Q :=
  ct_V RX4 (by decide +kernel) rfl (Nat.le_of_ble_eq_true rfl) (fun p e s m args below meth c C hlocks hr => m_X4_rewind_E C hlocks hr h)
abbrev rm_X5_begin : Room := { frames := 2, cells := 0, slots := 0, locals := 20 }
set_option maxRecDepth 100000 in
set_option maxHeartbeats 4000000 in
theorem m_X5_begin_E {p : Program} {l : Launch} {e : Env} {s : State} {m : MethodId} {args : Array Value} {below : List Frame} {meth : Method} {c : Code} {D : va_G} {cA : Nat → ClassId} {ad : Nat → Nat} (C : Cx p s m args c cX5_begin RX5 1 D cA shC ad zsC) (hlocks : meth.locks = false) (hr : meth.sig.returnType = none) {Q : St → Prop} {σ : St} (h : wp_X5_begin Q σ) : G p l e rm_X5_begin s m args below meth c 0 0 1 D cA shC ad (QV D cA shC ad zsC below args s Q) σ [(0, .ref (ad 12))] [] 0 := by
  unfold wp_X5_begin at h
  refine g_aload_n C 0 0 rfl rfl dX5_begin_0 ?_
  refine g_iconst C dX5_begin_1 ?_
  refine g_put C iX5 (ci := 5) (o := 12) (z := 0) (ty := .int) rfl tyX5_ok nmX5 rfl 0 (by decide) rfl rfl tw_X5_40 rfl (by decide +kernel) rfl rfl dX5_begin_2 (fun σ1 eσ1 => ?_)
  have h := h σ1 eσ1
  refine g_aload_n C 0 0 rfl rfl dX5_begin_5 ?_
  refine g_iconst C dX5_begin_6 ?_
  refine g_put C iX5 (ci := 5) (o := 12) (z := 0) (ty := .int) rfl tyX5_ok nmX5 rfl 1 (by decide) rfl rfl tw_X5_53 rfl (by decide +kernel) rfl rfl dX5_begin_7 (fun σ2 eσ2 => ?_)
  have h := h σ2 eσ2
  refine g_aload_n C 0 0 rfl rfl dX5_begin_10 ?_
  refine g_iconst C dX5_begin_11 ?_
  refine g_put C iX5 (ci := 5) (o := 12) (z := 0) (ty := .int) rfl tyX5_ok nmX5 rfl 4 (by decide) rfl rfl tw_X5_56 rfl (by decide +kernel) rfl rfl dX5_begin_12 (fun σ3 eσ3 => ?_)
  have h := h σ3 eσ3
  refine g_aload_n C 0 0 rfl rfl dX5_begin_15 ?_
  refine g_iconst C dX5_begin_16 ?_
  refine g_put C iX5 (ci := 5) (o := 12) (z := (-1)) (ty := .int) rfl tyX5_ok nmX5 rfl 5 (by decide) rfl rfl tw_X5_59 rfl (by decide +kernel) rfl rfl dX5_begin_17 (fun σ4 eσ4 => ?_)
  have h := h σ4 eσ4
  refine g_aload_n C 0 0 rfl rfl dX5_begin_20 ?_
  refine g_iconst C dX5_begin_21 ?_
  refine g_put C iX5 (ci := 5) (o := 12) (z := 0) (ty := .int) rfl tyX5_ok nmX5 rfl 9 (by decide) rfl rfl tw_X5_62 rfl (by decide +kernel) rfl rfl dX5_begin_22 (fun σ5 eσ5 => ?_)
  have h := h σ5 eσ5
  refine g_aload_n C 0 0 rfl rfl dX5_begin_25 ?_
  refine g_iconst C dX5_begin_26 ?_
  refine g_put C iX5 (ci := 5) (o := 12) (z := 0) (ty := .boolean) rfl tyX5_ok nmX5 rfl 12 (by decide) rfl rfl tw_X5_65 rfl (by decide +kernel) (nar_z (by decide)) (fit_z (by decide)) dX5_begin_27 (fun σ6 eσ6 => ?_)
  have h := h σ6 eσ6
  refine g_aload_n C 0 0 rfl rfl dX5_begin_30 ?_
  refine g_get C iX5 (ci := 5) (o := 12) (v := .ref (ad 3)) rfl rfl 3 (by decide) rfl tw_X5_15 dX5_begin_31 ?_
  refine g_get C iX1 (ci := 1) (o := 3) (v := .ref (ad 10)) rfl rfl 2 (by decide) rfl tw_X5_69 dX5_begin_34 ?_
  refine g_aload_n C 0 0 rfl rfl dX5_begin_37 ?_
  refine g_get C iX5 (ci := 5) (o := 12) (v := .ref (ad 3)) rfl rfl 3 (by decide) rfl tw_X5_15 dX5_begin_38 ?_
  refine g_get C iX1 (ci := 1) (o := 3) (v := vI (σ6 3 4)) rfl rfl 4 (by decide) rfl tw_X5_46 dX5_begin_41 ?_
  refine g_iconst C dX5_begin_44 ?_
  obtain ⟨hi, h⟩ := h
  refine g_iast C (o := 10) (N := 17) rfl rfl hi rfl dX5_begin_45 (fun σ7 eσ7 => ?_)
  have h := h σ7 eσ7
  refine g_aload_n C 0 0 rfl rfl dX5_begin_46 ?_
  refine g_get C iX5 (ci := 5) (o := 12) (v := .ref (ad 1)) rfl rfl 2 (by decide) rfl tw_X5_9 dX5_begin_47 ?_
  refine g_callVv C (m_X4_rewind l D cA ad h) hv_X4_rewind tw_X5_73 (o := 1) (ci := 4) (As := []) (st := []) rfl rfl rfl rfl ⟨Nat.le_of_ble_eq_true rfl, Nat.le_of_ble_eq_true rfl⟩ rfl rfl (Nat.le_of_ble_eq_true rfl) dX5_begin_50 (fun σ8 h => ?_)
  try dsimp only at h
  exact g_vret C hlocks hr h dX5_begin_53
set_option maxRecDepth 100000 in
set_option maxHeartbeats 4000000 in
theorem m_X5_begin (l : Launch) (D : va_G) (cA : Nat → ClassId) (ad : Nat → Nat) {Q : St → Prop} {σ : St} (h : wp_X5_begin Q σ) : CtV l yX5_begin (.code yX5_begin cX5_begin 1 none) rm_X5_begin D cA shC ad zsC [.ref (ad 12)] σ Q :=
  ct_V RX5 (by decide +kernel) rfl (Nat.le_of_ble_eq_true rfl) (fun p e s m args below meth c C hlocks hr => m_X5_begin_E C hlocks hr h)
abbrev rm_X4_isBlank : Room := { frames := 1, cells := 0, slots := 0, locals := 0 }
set_option maxRecDepth 100000 in
set_option maxHeartbeats 4000000 in
theorem m_X4_isBlank_B24 {p : Program} {l : Launch} {e : Env} {s : State} {m : MethodId} {args : Array Value} {below : List Frame} {meth : Method} {c : Code} {D : va_G} {cA : Nat → ClassId} {ad : Nat → Nat} (C : Cx p s m args c cX4_isBlank RX4 1 D cA shC ad zsC) (hlocks : meth.locks = false) (hr : meth.sig.returnType = (some .boolean)) {Q : Int → St → Prop} {σ : St} (h : wp_X4_isBlank_B24 Q σ) : G p l e rm_X4_isBlank s m args below meth c 0 0 1 D cA shC ad (QI D cA shC ad zsC below args s Q) σ [] [] 24 := by
  unfold wp_X4_isBlank_B24 at h
  refine g_iconst C dX4_isBlank_24 ?_
  refine g_goto C 29 (by decide) dX4_isBlank_25 ?_
  exact g_zret C hlocks hr (by decide) h dX4_isBlank_29
set_option maxRecDepth 100000 in
set_option maxHeartbeats 4000000 in
theorem m_X4_isBlank_E {p : Program} {l : Launch} {e : Env} {s : State} {m : MethodId} {args : Array Value} {below : List Frame} {meth : Method} {c : Code} {D : va_G} {cA : Nat → ClassId} {ad : Nat → Nat} (C : Cx p s m args c cX4_isBlank RX4 1 D cA shC ad zsC) (hlocks : meth.locks = false) (hr : meth.sig.returnType = (some .boolean)) {Q : Int → St → Prop} {a0 : Int} {σ : St} (h : wp_X4_isBlank a0 Q σ) : G p l e rm_X4_isBlank s m args below meth c 0 0 1 D cA shC ad (QI D cA shC ad zsC below args s Q) σ [(0, vI a0)] [] 0 := by
  unfold wp_X4_isBlank at h
  refine g_iload_n C 0 0 rfl rfl dX4_isBlank_0 ?_
  refine g_bipush C dX4_isBlank_1 (by decide) ?_
  refine g_icmp_eq C (y' := 9) rfl (by decide) 24 (by decide) dX4_isBlank_3 (fun hc => ?_) (fun hc => ?_)
  · have h := h.1 hc
    exact g_pick [] rfl (m_X4_isBlank_B24 C hlocks hr h)
  · have h := h.2 hc
    refine g_iload_n C 0 0 rfl rfl dX4_isBlank_6 ?_
    refine g_bipush C dX4_isBlank_7 (by decide) ?_
    refine g_icmp_eq C (y' := 10) rfl (by decide) 24 (by decide) dX4_isBlank_9 (fun hc => ?_) (fun hc => ?_)
    · have h := h.1 hc
      exact g_pick [] rfl (m_X4_isBlank_B24 C hlocks hr h)
    · have h := h.2 hc
      refine g_iload_n C 0 0 rfl rfl dX4_isBlank_12 ?_
      refine g_bipush C dX4_isBlank_13 (by decide) ?_
      refine g_icmp_eq C (y' := 13) rfl (by decide) 24 (by decide) dX4_isBlank_15 (fun hc => ?_) (fun hc => ?_)
      · have h := h.1 hc
        exact g_pick [] rfl (m_X4_isBlank_B24 C hlocks hr h)
      · have h := h.2 hc
        refine g_iload_n C 0 0 rfl rfl dX4_isBlank_18 ?_
        refine g_bipush C dX4_isBlank_19 (by decide) ?_
        refine g_icmp_ne C (y' := 32) rfl (by decide) 28 (by decide) dX4_isBlank_21 (fun hc => ?_) (fun hc => ?_)
        · have h := h.1 hc
          refine g_iconst C dX4_isBlank_28 ?_
          exact g_zret C hlocks hr (by decide) h dX4_isBlank_29
        · have h := h.2 hc
          exact g_pick [] rfl (m_X4_isBlank_B24 C hlocks hr h)
set_option maxRecDepth 100000 in
set_option maxHeartbeats 4000000 in
theorem m_X4_isBlank (l : Launch) (D : va_G) (cA : Nat → ClassId) (ad : Nat → Nat) {a0 : Int} {Q : Int → St → Prop} {σ : St} (h : wp_X4_isBlank a0 Q σ) : CtI l yX4_isBlank (.code yX4_isBlank cX4_isBlank 1 (some .boolean)) rm_X4_isBlank D cA shC ad zsC [vI a0] σ Q :=
  ct_I RX4 (by decide +kernel) rfl (Nat.le_of_ble_eq_true rfl) (fun p e s m args below meth c C hlocks hr => m_X4_isBlank_E C hlocks hr h)
abbrev rm_X4_skipBlanks : Room := { frames := 2, cells := 0, slots := 0, locals := 20 }
set_option maxRecDepth 100000 in
set_option maxHeartbeats 4000000 in
theorem m_X4_skipBlanks_L0 {p : Program} {l : Launch} {e : Env} {s : State} {m : MethodId} {args : Array Value} {below : List Frame} {meth : Method} {c : Code} {D : va_G} {cA : Nat → ClassId} {ad : Nat → Nat} (C : Cx p s m args c cX4_skipBlanks RX4 1 D cA shC ad zsC) (hlocks : meth.locks = false) (hr : meth.sig.returnType = none) {Q : St → Prop} : ∀ (n : Nat) (σ : St), wp_X4_skipBlanks_L0 Q n σ → G p l e rm_X4_skipBlanks s m args below meth c 0 0 1 D cA shC ad (QV D cA shC ad zsC below args s Q) σ [(0, .ref (ad 1))] [] 0 := by
  intro n
  induction n with
  | zero => intro _ h; exact h.elim
  | succ n ih =>
    intro σ h
    simp only [wp_X4_skipBlanks_L0] at h
    refine g_aload_n C 0 0 rfl rfl dX4_skipBlanks_0 ?_
    refine g_get C iX4 (ci := 4) (o := 1) (v := vI (σ 1 4)) rfl rfl 4 (by decide) rfl tw_X4_19 dX4_skipBlanks_1 ?_
    refine g_aload_n C 0 0 rfl rfl dX4_skipBlanks_4 ?_
    refine g_get C iX4 (ci := 4) (o := 1) (v := vI (σ 1 1)) rfl rfl 1 (by decide) rfl tw_X4_15 dX4_skipBlanks_5 ?_
    refine g_icmp_ge C rfl rfl 39 (by decide) dX4_skipBlanks_8 (fun hc => ?_) (fun hc => ?_)
    · have h := h.1 hc
      exact g_vret C hlocks hr h dX4_skipBlanks_39
    · have h := h.2 hc
      refine g_aload_n C 0 0 rfl rfl dX4_skipBlanks_11 ?_
      refine g_get C iX4 (ci := 4) (o := 1) (v := .ref (ad 2)) rfl rfl 0 (by decide) rfl tw_X4_9 dX4_skipBlanks_12 ?_
      refine g_aload_n C 0 0 rfl rfl dX4_skipBlanks_15 ?_
      refine g_get C iX4 (ci := 4) (o := 1) (v := vI (σ 1 4)) rfl rfl 4 (by decide) rfl tw_X4_19 dX4_skipBlanks_16 ?_
      obtain ⟨hi, h⟩ := h
      refine g_iald C (o := 2) (N := 1000) rfl rfl hi rfl dX4_skipBlanks_19 ?_
      refine g_callIs C (m_X4_isBlank l D cA ad h) hv_X4_isBlank tw_X4_47 (As := [vI (σ 2 (w32 (σ 1 4)).toNat)]) (st := []) rfl rfl ⟨Nat.le_of_ble_eq_true rfl, Nat.le_of_ble_eq_true rfl⟩ rfl rfl (Nat.le_of_ble_eq_true rfl) dX4_skipBlanks_20 (fun r2 σ1 h => ?_)
      try dsimp only at h
      refine g_if_eq C rfl 39 (by decide) dX4_skipBlanks_23 (fun hc => ?_) (fun hc => ?_)
      · have h := h.1 hc
        exact g_vret C hlocks hr h dX4_skipBlanks_39
      · have h := h.2 hc
        refine g_aload_n C 0 0 rfl rfl dX4_skipBlanks_26 ?_
        refine g_dup C rfl dX4_skipBlanks_27 ?_
        refine g_get C iX4 (ci := 4) (o := 1) (v := vI (σ1 1 4)) rfl rfl 4 (by decide) rfl tw_X4_19 dX4_skipBlanks_28 ?_
        refine g_iconst C dX4_skipBlanks_31 ?_
        refine g_iadd C dX4_skipBlanks_32 ?_
        refine g_put C iX4 (ci := 4) (o := 1) (z := ((σ1 1 4) + 1)) (ty := .int) rfl tyX4_ok nmX4 rfl 4 (by decide) rfl rfl tw_X4_19 rfl (by decide +kernel) rfl rfl dX4_skipBlanks_33 (fun σ3 eσ3 => ?_)
        have h := h σ3 eσ3
        refine g_goto C 0 (by decide) dX4_skipBlanks_36 ?_
        exact g_pick [0] rfl (ih  _ h)
set_option maxRecDepth 100000 in
set_option maxHeartbeats 4000000 in
theorem m_X4_skipBlanks (l : Launch) (D : va_G) (cA : Nat → ClassId) (ad : Nat → Nat) {Q : St → Prop} {σ : St} (h : wp_X4_skipBlanks Q σ) : CtV l yX4_skipBlanks (.code yX4_skipBlanks cX4_skipBlanks 1 none) rm_X4_skipBlanks D cA shC ad zsC [.ref (ad 1)] σ Q :=
  ct_V RX4 (by decide +kernel) rfl (Nat.le_of_ble_eq_true rfl) (fun p e s m args below meth c C hlocks hr => by
    obtain ⟨n, h⟩ := h
    exact g_pick [0] rfl (m_X4_skipBlanks_L0 C hlocks hr n _ h))
abbrev rm_X4_isGreat : Room := { frames := 1, cells := 0, slots := 0, locals := 0 }
set_option maxRecDepth 100000 in
set_option maxHeartbeats 4000000 in
theorem m_X4_isGreat_E {p : Program} {l : Launch} {e : Env} {s : State} {m : MethodId} {args : Array Value} {below : List Frame} {meth : Method} {c : Code} {D : va_G} {cA : Nat → ClassId} {ad : Nat → Nat} (C : Cx p s m args c cX4_isGreat RX4 1 D cA shC ad zsC) (hlocks : meth.locks = false) (hr : meth.sig.returnType = (some .boolean)) {Q : Int → St → Prop} {a0 : Int} {σ : St} (h : wp_X4_isGreat a0 Q σ) : G p l e rm_X4_isGreat s m args below meth c 0 0 1 D cA shC ad (QI D cA shC ad zsC below args s Q) σ [(0, vI a0)] [] 0 := by
  unfold wp_X4_isGreat at h
  refine g_iload_n C 0 0 rfl rfl dX4_isGreat_0 ?_
  refine g_bipush C dX4_isGreat_1 (by decide) ?_
  refine g_icmp_lt C (y' := 65) rfl (by decide) 16 (by decide) dX4_isGreat_3 (fun hc => ?_) (fun hc => ?_)
  · have h := h.1 hc
    refine g_iconst C dX4_isGreat_16 ?_
    exact g_zret C hlocks hr (by decide) h dX4_isGreat_17
  · have h := h.2 hc
    refine g_iload_n C 0 0 rfl rfl dX4_isGreat_6 ?_
    refine g_bipush C dX4_isGreat_7 (by decide) ?_
    refine g_icmp_gt C (y' := 90) rfl (by decide) 16 (by decide) dX4_isGreat_9 (fun hc => ?_) (fun hc => ?_)
    · have h := h.1 hc
      refine g_iconst C dX4_isGreat_16 ?_
      exact g_zret C hlocks hr (by decide) h dX4_isGreat_17
    · have h := h.2 hc
      refine g_iconst C dX4_isGreat_12 ?_
      refine g_goto C 17 (by decide) dX4_isGreat_13 ?_
      exact g_zret C hlocks hr (by decide) h dX4_isGreat_17
set_option maxRecDepth 100000 in
set_option maxHeartbeats 4000000 in
theorem m_X4_isGreat (l : Launch) (D : va_G) (cA : Nat → ClassId) (ad : Nat → Nat) {a0 : Int} {Q : Int → St → Prop} {σ : St} (h : wp_X4_isGreat a0 Q σ) : CtI l yX4_isGreat (.code yX4_isGreat cX4_isGreat 1 (some .boolean)) rm_X4_isGreat D cA shC ad zsC [vI a0] σ Q :=
  ct_I RX4 (by decide +kernel) rfl (Nat.le_of_ble_eq_true rfl) (fun p e s m args below meth c C hlocks hr => m_X4_isGreat_E C hlocks hr h)
abbrev rm_X4_isSmall : Room := { frames := 1, cells := 0, slots := 0, locals := 0 }
set_option maxRecDepth 100000 in
set_option maxHeartbeats 4000000 in
theorem m_X4_isSmall_E {p : Program} {l : Launch} {e : Env} {s : State} {m : MethodId} {args : Array Value} {below : List Frame} {meth : Method} {c : Code} {D : va_G} {cA : Nat → ClassId} {ad : Nat → Nat} (C : Cx p s m args c cX4_isSmall RX4 1 D cA shC ad zsC) (hlocks : meth.locks = false) (hr : meth.sig.returnType = (some .boolean)) {Q : Int → St → Prop} {a0 : Int} {σ : St} (h : wp_X4_isSmall a0 Q σ) : G p l e rm_X4_isSmall s m args below meth c 0 0 1 D cA shC ad (QI D cA shC ad zsC below args s Q) σ [(0, vI a0)] [] 0 := by
  unfold wp_X4_isSmall at h
  refine g_iload_n C 0 0 rfl rfl dX4_isSmall_0 ?_
  refine g_bipush C dX4_isSmall_1 (by decide) ?_
  refine g_icmp_lt C (y' := 97) rfl (by decide) 16 (by decide) dX4_isSmall_3 (fun hc => ?_) (fun hc => ?_)
  · have h := h.1 hc
    refine g_iconst C dX4_isSmall_16 ?_
    exact g_zret C hlocks hr (by decide) h dX4_isSmall_17
  · have h := h.2 hc
    refine g_iload_n C 0 0 rfl rfl dX4_isSmall_6 ?_
    refine g_bipush C dX4_isSmall_7 (by decide) ?_
    refine g_icmp_gt C (y' := 122) rfl (by decide) 16 (by decide) dX4_isSmall_9 (fun hc => ?_) (fun hc => ?_)
    · have h := h.1 hc
      refine g_iconst C dX4_isSmall_16 ?_
      exact g_zret C hlocks hr (by decide) h dX4_isSmall_17
    · have h := h.2 hc
      refine g_iconst C dX4_isSmall_12 ?_
      refine g_goto C 17 (by decide) dX4_isSmall_13 ?_
      exact g_zret C hlocks hr (by decide) h dX4_isSmall_17
set_option maxRecDepth 100000 in
set_option maxHeartbeats 4000000 in
theorem m_X4_isSmall (l : Launch) (D : va_G) (cA : Nat → ClassId) (ad : Nat → Nat) {a0 : Int} {Q : Int → St → Prop} {σ : St} (h : wp_X4_isSmall a0 Q σ) : CtI l yX4_isSmall (.code yX4_isSmall cX4_isSmall 1 (some .boolean)) rm_X4_isSmall D cA shC ad zsC [vI a0] σ Q :=
  ct_I RX4 (by decide +kernel) rfl (Nat.le_of_ble_eq_true rfl) (fun p e s m args below meth c C hlocks hr => m_X4_isSmall_E C hlocks hr h)
abbrev rm_X4_isSign : Room := { frames := 1, cells := 0, slots := 0, locals := 0 }
set_option maxRecDepth 100000 in
set_option maxHeartbeats 4000000 in
theorem m_X4_isSign_B36 {p : Program} {l : Launch} {e : Env} {s : State} {m : MethodId} {args : Array Value} {below : List Frame} {meth : Method} {c : Code} {D : va_G} {cA : Nat → ClassId} {ad : Nat → Nat} (C : Cx p s m args c cX4_isSign RX4 1 D cA shC ad zsC) (hlocks : meth.locks = false) (hr : meth.sig.returnType = (some .boolean)) {Q : Int → St → Prop} {σ : St} (h : wp_X4_isSign_B36 Q σ) : G p l e rm_X4_isSign s m args below meth c 0 0 1 D cA shC ad (QI D cA shC ad zsC below args s Q) σ [] [] 36 := by
  unfold wp_X4_isSign_B36 at h
  refine g_iconst C dX4_isSign_36 ?_
  refine g_goto C 41 (by decide) dX4_isSign_37 ?_
  exact g_zret C hlocks hr (by decide) h dX4_isSign_41
set_option maxRecDepth 100000 in
set_option maxHeartbeats 4000000 in
theorem m_X4_isSign_E {p : Program} {l : Launch} {e : Env} {s : State} {m : MethodId} {args : Array Value} {below : List Frame} {meth : Method} {c : Code} {D : va_G} {cA : Nat → ClassId} {ad : Nat → Nat} (C : Cx p s m args c cX4_isSign RX4 1 D cA shC ad zsC) (hlocks : meth.locks = false) (hr : meth.sig.returnType = (some .boolean)) {Q : Int → St → Prop} {a0 : Int} {σ : St} (h : wp_X4_isSign a0 Q σ) : G p l e rm_X4_isSign s m args below meth c 0 0 1 D cA shC ad (QI D cA shC ad zsC below args s Q) σ [(0, vI a0)] [] 0 := by
  unfold wp_X4_isSign at h
  refine g_iload_n C 0 0 rfl rfl dX4_isSign_0 ?_
  refine g_bipush C dX4_isSign_1 (by decide) ?_
  refine g_icmp_eq C (y' := 40) rfl (by decide) 36 (by decide) dX4_isSign_3 (fun hc => ?_) (fun hc => ?_)
  · have h := h.1 hc
    exact g_pick [] rfl (m_X4_isSign_B36 C hlocks hr h)
  · have h := h.2 hc
    refine g_iload_n C 0 0 rfl rfl dX4_isSign_6 ?_
    refine g_bipush C dX4_isSign_7 (by decide) ?_
    refine g_icmp_eq C (y' := 41) rfl (by decide) 36 (by decide) dX4_isSign_9 (fun hc => ?_) (fun hc => ?_)
    · have h := h.1 hc
      exact g_pick [] rfl (m_X4_isSign_B36 C hlocks hr h)
    · have h := h.2 hc
      refine g_iload_n C 0 0 rfl rfl dX4_isSign_12 ?_
      refine g_bipush C dX4_isSign_13 (by decide) ?_
      refine g_icmp_eq C (y' := 33) rfl (by decide) 36 (by decide) dX4_isSign_15 (fun hc => ?_) (fun hc => ?_)
      · have h := h.1 hc
        exact g_pick [] rfl (m_X4_isSign_B36 C hlocks hr h)
      · have h := h.2 hc
        refine g_iload_n C 0 0 rfl rfl dX4_isSign_18 ?_
        refine g_bipush C dX4_isSign_19 (by decide) ?_
        refine g_icmp_eq C (y' := 42) rfl (by decide) 36 (by decide) dX4_isSign_21 (fun hc => ?_) (fun hc => ?_)
        · have h := h.1 hc
          exact g_pick [] rfl (m_X4_isSign_B36 C hlocks hr h)
        · have h := h.2 hc
          refine g_iload_n C 0 0 rfl rfl dX4_isSign_24 ?_
          refine g_bipush C dX4_isSign_25 (by decide) ?_
          refine g_icmp_eq C (y' := 43) rfl (by decide) 36 (by decide) dX4_isSign_27 (fun hc => ?_) (fun hc => ?_)
          · have h := h.1 hc
            exact g_pick [] rfl (m_X4_isSign_B36 C hlocks hr h)
          · have h := h.2 hc
            refine g_iload_n C 0 0 rfl rfl dX4_isSign_30 ?_
            refine g_bipush C dX4_isSign_31 (by decide) ?_
            refine g_icmp_ne C (y' := 45) rfl (by decide) 40 (by decide) dX4_isSign_33 (fun hc => ?_) (fun hc => ?_)
            · have h := h.1 hc
              refine g_iconst C dX4_isSign_40 ?_
              exact g_zret C hlocks hr (by decide) h dX4_isSign_41
            · have h := h.2 hc
              exact g_pick [] rfl (m_X4_isSign_B36 C hlocks hr h)
set_option maxRecDepth 100000 in
set_option maxHeartbeats 4000000 in
theorem m_X4_isSign (l : Launch) (D : va_G) (cA : Nat → ClassId) (ad : Nat → Nat) {a0 : Int} {Q : Int → St → Prop} {σ : St} (h : wp_X4_isSign a0 Q σ) : CtI l yX4_isSign (.code yX4_isSign cX4_isSign 1 (some .boolean)) rm_X4_isSign D cA shC ad zsC [vI a0] σ Q :=
  ct_I RX4 (by decide +kernel) rfl (Nat.le_of_ble_eq_true rfl) (fun p e s m args below meth c C hlocks hr => m_X4_isSign_E C hlocks hr h)
abbrev rm_X4_takeWord : Room := { frames := 2, cells := 0, slots := 0, locals := 20 }
set_option maxRecDepth 100000 in
set_option maxHeartbeats 4000000 in
theorem m_X4_takeWord_B59 {p : Program} {l : Launch} {e : Env} {s : State} {m : MethodId} {args : Array Value} {below : List Frame} {meth : Method} {c : Code} {D : va_G} {cA : Nat → ClassId} {ad : Nat → Nat} (C : Cx p s m args c cX4_takeWord RX4 1 D cA shC ad zsC) (hlocks : meth.locks = false) (hr : meth.sig.returnType = none) {Q : St → Prop} {y1 : Int} {σ : St} (h : wp_X4_takeWord_B59 y1 Q σ) : G p l e rm_X4_takeWord s m args below meth c 0 0 1 D cA shC ad (QV D cA shC ad zsC below args s Q) σ [] [vI y1, .ref (ad 1)] 59 := by
  unfold wp_X4_takeWord_B59 at h
  refine g_put C iX4 (ci := 4) (o := 1) (z := y1) (ty := .int) rfl tyX4_ok nmX4 rfl 2 (by decide) rfl rfl tw_X4_28 rfl (by decide +kernel) rfl rfl dX4_takeWord_59 (fun σ1 eσ1 => ?_)
  have h := h σ1 eσ1
  exact g_vret C hlocks hr h dX4_takeWord_62
set_option maxRecDepth 100000 in
set_option maxHeartbeats 4000000 in
theorem m_X4_takeWord_B39 {p : Program} {l : Launch} {e : Env} {s : State} {m : MethodId} {args : Array Value} {below : List Frame} {meth : Method} {c : Code} {D : va_G} {cA : Nat → ClassId} {ad : Nat → Nat} (C : Cx p s m args c cX4_takeWord RX4 1 D cA shC ad zsC) (hlocks : meth.locks = false) (hr : meth.sig.returnType = none) {Q : St → Prop} {σ : St} (h : wp_X4_takeWord_B39 Q σ) : G p l e rm_X4_takeWord s m args below meth c 0 0 1 D cA shC ad (QV D cA shC ad zsC below args s Q) σ [(0, .ref (ad 1))] [] 39 := by
  unfold wp_X4_takeWord_B39 at h
  refine g_aload_n C 0 0 rfl rfl dX4_takeWord_39 ?_
  refine g_aload_n C 0 0 rfl rfl dX4_takeWord_40 ?_
  refine g_get C iX4 (ci := 4) (o := 1) (v := vI (σ 1 4)) rfl rfl 4 (by decide) rfl tw_X4_19 dX4_takeWord_41 ?_
  refine g_aload_n C 0 0 rfl rfl dX4_takeWord_44 ?_
  refine g_get C iX4 (ci := 4) (o := 1) (v := vI (σ 1 3)) rfl rfl 3 (by decide) rfl tw_X4_25 dX4_takeWord_45 ?_
  refine g_isub C dX4_takeWord_48 ?_
  refine g_bipush C dX4_takeWord_49 (by decide) ?_
  refine g_icmp_le C (y' := 12) rfl (by decide) 58 (by decide) dX4_takeWord_51 (fun hc => ?_) (fun hc => ?_)
  · have h := h.1 hc
    refine g_iconst C dX4_takeWord_58 ?_
    exact g_pick [] rfl (m_X4_takeWord_B59 C hlocks hr h)
  · have h := h.2 hc
    refine g_iconst C dX4_takeWord_54 ?_
    refine g_goto C 59 (by decide) dX4_takeWord_55 ?_
    exact g_pick [] rfl (m_X4_takeWord_B59 C hlocks hr h)
set_option maxRecDepth 100000 in
set_option maxHeartbeats 4000000 in
theorem m_X4_takeWord_L0 {p : Program} {l : Launch} {e : Env} {s : State} {m : MethodId} {args : Array Value} {below : List Frame} {meth : Method} {c : Code} {D : va_G} {cA : Nat → ClassId} {ad : Nat → Nat} (C : Cx p s m args c cX4_takeWord RX4 1 D cA shC ad zsC) (hlocks : meth.locks = false) (hr : meth.sig.returnType = none) {Q : St → Prop} : ∀ (n : Nat) (σ : St), wp_X4_takeWord_L0 Q n σ → G p l e rm_X4_takeWord s m args below meth c 0 0 1 D cA shC ad (QV D cA shC ad zsC below args s Q) σ [(0, .ref (ad 1))] [] 0 := by
  intro n
  induction n with
  | zero => intro _ h; exact h.elim
  | succ n ih =>
    intro σ h
    simp only [wp_X4_takeWord_L0] at h
    refine g_aload_n C 0 0 rfl rfl dX4_takeWord_0 ?_
    refine g_get C iX4 (ci := 4) (o := 1) (v := vI (σ 1 4)) rfl rfl 4 (by decide) rfl tw_X4_19 dX4_takeWord_1 ?_
    refine g_aload_n C 0 0 rfl rfl dX4_takeWord_4 ?_
    refine g_get C iX4 (ci := 4) (o := 1) (v := vI (σ 1 1)) rfl rfl 1 (by decide) rfl tw_X4_15 dX4_takeWord_5 ?_
    refine g_icmp_ge C rfl rfl 39 (by decide) dX4_takeWord_8 (fun hc => ?_) (fun hc => ?_)
    · have h := h.1 hc
      exact g_pick [0] rfl (m_X4_takeWord_B39 C hlocks hr h)
    · have h := h.2 hc
      refine g_aload_n C 0 0 rfl rfl dX4_takeWord_11 ?_
      refine g_get C iX4 (ci := 4) (o := 1) (v := .ref (ad 2)) rfl rfl 0 (by decide) rfl tw_X4_9 dX4_takeWord_12 ?_
      refine g_aload_n C 0 0 rfl rfl dX4_takeWord_15 ?_
      refine g_get C iX4 (ci := 4) (o := 1) (v := vI (σ 1 4)) rfl rfl 4 (by decide) rfl tw_X4_19 dX4_takeWord_16 ?_
      obtain ⟨hi, h⟩ := h
      refine g_iald C (o := 2) (N := 1000) rfl rfl hi rfl dX4_takeWord_19 ?_
      refine g_callIs C (m_X4_isSmall l D cA ad h) hv_X4_isSmall tw_X4_38 (As := [vI (σ 2 (w32 (σ 1 4)).toNat)]) (st := []) rfl rfl ⟨Nat.le_of_ble_eq_true rfl, Nat.le_of_ble_eq_true rfl⟩ rfl rfl (Nat.le_of_ble_eq_true rfl) dX4_takeWord_20 (fun r2 σ1 h => ?_)
      try dsimp only at h
      refine g_if_eq C rfl 39 (by decide) dX4_takeWord_23 (fun hc => ?_) (fun hc => ?_)
      · have h := h.1 hc
        exact g_pick [0] rfl (m_X4_takeWord_B39 C hlocks hr h)
      · have h := h.2 hc
        refine g_aload_n C 0 0 rfl rfl dX4_takeWord_26 ?_
        refine g_dup C rfl dX4_takeWord_27 ?_
        refine g_get C iX4 (ci := 4) (o := 1) (v := vI (σ1 1 4)) rfl rfl 4 (by decide) rfl tw_X4_19 dX4_takeWord_28 ?_
        refine g_iconst C dX4_takeWord_31 ?_
        refine g_iadd C dX4_takeWord_32 ?_
        refine g_put C iX4 (ci := 4) (o := 1) (z := ((σ1 1 4) + 1)) (ty := .int) rfl tyX4_ok nmX4 rfl 4 (by decide) rfl rfl tw_X4_19 rfl (by decide +kernel) rfl rfl dX4_takeWord_33 (fun σ3 eσ3 => ?_)
        have h := h σ3 eσ3
        refine g_goto C 0 (by decide) dX4_takeWord_36 ?_
        exact g_pick [0] rfl (ih  _ h)
set_option maxRecDepth 100000 in
set_option maxHeartbeats 4000000 in
theorem m_X4_takeWord (l : Launch) (D : va_G) (cA : Nat → ClassId) (ad : Nat → Nat) {Q : St → Prop} {σ : St} (h : wp_X4_takeWord Q σ) : CtV l yX4_takeWord (.code yX4_takeWord cX4_takeWord 1 none) rm_X4_takeWord D cA shC ad zsC [.ref (ad 1)] σ Q :=
  ct_V RX4 (by decide +kernel) rfl (Nat.le_of_ble_eq_true rfl) (fun p e s m args below meth c C hlocks hr => by
    obtain ⟨n, h⟩ := h
    exact g_pick [0] rfl (m_X4_takeWord_L0 C hlocks hr n _ h))
abbrev rm_X4_isDigit : Room := { frames := 1, cells := 0, slots := 0, locals := 0 }
set_option maxRecDepth 100000 in
set_option maxHeartbeats 4000000 in
theorem m_X4_isDigit_E {p : Program} {l : Launch} {e : Env} {s : State} {m : MethodId} {args : Array Value} {below : List Frame} {meth : Method} {c : Code} {D : va_G} {cA : Nat → ClassId} {ad : Nat → Nat} (C : Cx p s m args c cX4_isDigit RX4 1 D cA shC ad zsC) (hlocks : meth.locks = false) (hr : meth.sig.returnType = (some .boolean)) {Q : Int → St → Prop} {a0 : Int} {σ : St} (h : wp_X4_isDigit a0 Q σ) : G p l e rm_X4_isDigit s m args below meth c 0 0 1 D cA shC ad (QI D cA shC ad zsC below args s Q) σ [(0, vI a0)] [] 0 := by
  unfold wp_X4_isDigit at h
  refine g_iload_n C 0 0 rfl rfl dX4_isDigit_0 ?_
  refine g_bipush C dX4_isDigit_1 (by decide) ?_
  refine g_icmp_lt C (y' := 48) rfl (by decide) 16 (by decide) dX4_isDigit_3 (fun hc => ?_) (fun hc => ?_)
  · have h := h.1 hc
    refine g_iconst C dX4_isDigit_16 ?_
    exact g_zret C hlocks hr (by decide) h dX4_isDigit_17
  · have h := h.2 hc
    refine g_iload_n C 0 0 rfl rfl dX4_isDigit_6 ?_
    refine g_bipush C dX4_isDigit_7 (by decide) ?_
    refine g_icmp_gt C (y' := 57) rfl (by decide) 16 (by decide) dX4_isDigit_9 (fun hc => ?_) (fun hc => ?_)
    · have h := h.1 hc
      refine g_iconst C dX4_isDigit_16 ?_
      exact g_zret C hlocks hr (by decide) h dX4_isDigit_17
    · have h := h.2 hc
      refine g_iconst C dX4_isDigit_12 ?_
      refine g_goto C 17 (by decide) dX4_isDigit_13 ?_
      exact g_zret C hlocks hr (by decide) h dX4_isDigit_17
set_option maxRecDepth 100000 in
set_option maxHeartbeats 4000000 in
theorem m_X4_isDigit (l : Launch) (D : va_G) (cA : Nat → ClassId) (ad : Nat → Nat) {a0 : Int} {Q : Int → St → Prop} {σ : St} (h : wp_X4_isDigit a0 Q σ) : CtI l yX4_isDigit (.code yX4_isDigit cX4_isDigit 1 (some .boolean)) rm_X4_isDigit D cA shC ad zsC [vI a0] σ Q :=
  ct_I RX4 (by decide +kernel) rfl (Nat.le_of_ble_eq_true rfl) (fun p e s m args below meth c C hlocks hr => m_X4_isDigit_E C hlocks hr h)
abbrev rm_X4_takeLabel : Room := { frames := 2, cells := 0, slots := 0, locals := 20 }
set_option maxRecDepth 100000 in
set_option maxHeartbeats 4000000 in
theorem m_X4_takeLabel_B41 {p : Program} {l : Launch} {e : Env} {s : State} {m : MethodId} {args : Array Value} {below : List Frame} {meth : Method} {c : Code} {D : va_G} {cA : Nat → ClassId} {ad : Nat → Nat} (C : Cx p s m args c cX4_takeLabel RX4 1 D cA shC ad zsC) (hlocks : meth.locks = false) (hr : meth.sig.returnType = none) {Q : St → Prop} {K0 : St → Prop} (hK0 : ∀ (σ : St), K0 σ → G p l e rm_X4_takeLabel s m args below meth c 0 0 1 D cA shC ad (QV D cA shC ad zsC below args s Q) σ [(0, .ref (ad 1))] [] 0) {σ : St} (h : wp_X4_takeLabel_B41 K0 Q σ) : G p l e rm_X4_takeLabel s m args below meth c 0 0 1 D cA shC ad (QV D cA shC ad zsC below args s Q) σ [(0, .ref (ad 1))] [] 41 := by
  unfold wp_X4_takeLabel_B41 at h
  refine g_aload_n C 0 0 rfl rfl dX4_takeLabel_41 ?_
  refine g_dup C rfl dX4_takeLabel_42 ?_
  refine g_get C iX4 (ci := 4) (o := 1) (v := vI (σ 1 4)) rfl rfl 4 (by decide) rfl tw_X4_19 dX4_takeLabel_43 ?_
  refine g_iconst C dX4_takeLabel_46 ?_
  refine g_iadd C dX4_takeLabel_47 ?_
  refine g_put C iX4 (ci := 4) (o := 1) (z := ((σ 1 4) + 1)) (ty := .int) rfl tyX4_ok nmX4 rfl 4 (by decide) rfl rfl tw_X4_19 rfl (by decide +kernel) rfl rfl dX4_takeLabel_48 (fun σ1 eσ1 => ?_)
  have h := h σ1 eσ1
  refine g_goto C 0 (by decide) dX4_takeLabel_51 ?_
  exact g_pick [0] rfl (hK0  _ h)
set_option maxRecDepth 100000 in
set_option maxHeartbeats 4000000 in
theorem m_X4_takeLabel_B74 {p : Program} {l : Launch} {e : Env} {s : State} {m : MethodId} {args : Array Value} {below : List Frame} {meth : Method} {c : Code} {D : va_G} {cA : Nat → ClassId} {ad : Nat → Nat} (C : Cx p s m args c cX4_takeLabel RX4 1 D cA shC ad zsC) (hlocks : meth.locks = false) (hr : meth.sig.returnType = none) {Q : St → Prop} {y1 : Int} {σ : St} (h : wp_X4_takeLabel_B74 y1 Q σ) : G p l e rm_X4_takeLabel s m args below meth c 0 0 1 D cA shC ad (QV D cA shC ad zsC below args s Q) σ [] [vI y1, .ref (ad 1)] 74 := by
  unfold wp_X4_takeLabel_B74 at h
  refine g_put C iX4 (ci := 4) (o := 1) (z := y1) (ty := .int) rfl tyX4_ok nmX4 rfl 2 (by decide) rfl rfl tw_X4_28 rfl (by decide +kernel) rfl rfl dX4_takeLabel_74 (fun σ1 eσ1 => ?_)
  have h := h σ1 eσ1
  exact g_vret C hlocks hr h dX4_takeLabel_77
set_option maxRecDepth 100000 in
set_option maxHeartbeats 4000000 in
theorem m_X4_takeLabel_B54 {p : Program} {l : Launch} {e : Env} {s : State} {m : MethodId} {args : Array Value} {below : List Frame} {meth : Method} {c : Code} {D : va_G} {cA : Nat → ClassId} {ad : Nat → Nat} (C : Cx p s m args c cX4_takeLabel RX4 1 D cA shC ad zsC) (hlocks : meth.locks = false) (hr : meth.sig.returnType = none) {Q : St → Prop} {σ : St} (h : wp_X4_takeLabel_B54 Q σ) : G p l e rm_X4_takeLabel s m args below meth c 0 0 1 D cA shC ad (QV D cA shC ad zsC below args s Q) σ [(0, .ref (ad 1))] [] 54 := by
  unfold wp_X4_takeLabel_B54 at h
  refine g_aload_n C 0 0 rfl rfl dX4_takeLabel_54 ?_
  refine g_aload_n C 0 0 rfl rfl dX4_takeLabel_55 ?_
  refine g_get C iX4 (ci := 4) (o := 1) (v := vI (σ 1 4)) rfl rfl 4 (by decide) rfl tw_X4_19 dX4_takeLabel_56 ?_
  refine g_aload_n C 0 0 rfl rfl dX4_takeLabel_59 ?_
  refine g_get C iX4 (ci := 4) (o := 1) (v := vI (σ 1 3)) rfl rfl 3 (by decide) rfl tw_X4_25 dX4_takeLabel_60 ?_
  refine g_isub C dX4_takeLabel_63 ?_
  refine g_bipush C dX4_takeLabel_64 (by decide) ?_
  refine g_icmp_le C (y' := 8) rfl (by decide) 73 (by decide) dX4_takeLabel_66 (fun hc => ?_) (fun hc => ?_)
  · have h := h.1 hc
    refine g_iconst C dX4_takeLabel_73 ?_
    exact g_pick [] rfl (m_X4_takeLabel_B74 C hlocks hr h)
  · have h := h.2 hc
    refine g_iconst C dX4_takeLabel_69 ?_
    refine g_goto C 74 (by decide) dX4_takeLabel_70 ?_
    exact g_pick [] rfl (m_X4_takeLabel_B74 C hlocks hr h)
set_option maxRecDepth 100000 in
set_option maxHeartbeats 4000000 in
theorem m_X4_takeLabel_L0 {p : Program} {l : Launch} {e : Env} {s : State} {m : MethodId} {args : Array Value} {below : List Frame} {meth : Method} {c : Code} {D : va_G} {cA : Nat → ClassId} {ad : Nat → Nat} (C : Cx p s m args c cX4_takeLabel RX4 1 D cA shC ad zsC) (hlocks : meth.locks = false) (hr : meth.sig.returnType = none) {Q : St → Prop} : ∀ (n : Nat) (σ : St), wp_X4_takeLabel_L0 Q n σ → G p l e rm_X4_takeLabel s m args below meth c 0 0 1 D cA shC ad (QV D cA shC ad zsC below args s Q) σ [(0, .ref (ad 1))] [] 0 := by
  intro n
  induction n with
  | zero => intro _ h; exact h.elim
  | succ n ih =>
    intro σ h
    simp only [wp_X4_takeLabel_L0] at h
    refine g_aload_n C 0 0 rfl rfl dX4_takeLabel_0 ?_
    refine g_get C iX4 (ci := 4) (o := 1) (v := vI (σ 1 4)) rfl rfl 4 (by decide) rfl tw_X4_19 dX4_takeLabel_1 ?_
    refine g_aload_n C 0 0 rfl rfl dX4_takeLabel_4 ?_
    refine g_get C iX4 (ci := 4) (o := 1) (v := vI (σ 1 1)) rfl rfl 1 (by decide) rfl tw_X4_15 dX4_takeLabel_5 ?_
    refine g_icmp_ge C rfl rfl 54 (by decide) dX4_takeLabel_8 (fun hc => ?_) (fun hc => ?_)
    · have h := h.1 hc
      exact g_pick [0] rfl (m_X4_takeLabel_B54 C hlocks hr h)
    · have h := h.2 hc
      refine g_aload_n C 0 0 rfl rfl dX4_takeLabel_11 ?_
      refine g_get C iX4 (ci := 4) (o := 1) (v := .ref (ad 2)) rfl rfl 0 (by decide) rfl tw_X4_9 dX4_takeLabel_12 ?_
      refine g_aload_n C 0 0 rfl rfl dX4_takeLabel_15 ?_
      refine g_get C iX4 (ci := 4) (o := 1) (v := vI (σ 1 4)) rfl rfl 4 (by decide) rfl tw_X4_19 dX4_takeLabel_16 ?_
      obtain ⟨hi, h⟩ := h
      refine g_iald C (o := 2) (N := 1000) rfl rfl hi rfl dX4_takeLabel_19 ?_
      refine g_callIs C (m_X4_isGreat l D cA ad h) hv_X4_isGreat tw_X4_31 (As := [vI (σ 2 (w32 (σ 1 4)).toNat)]) (st := []) rfl rfl ⟨Nat.le_of_ble_eq_true rfl, Nat.le_of_ble_eq_true rfl⟩ rfl rfl (Nat.le_of_ble_eq_true rfl) dX4_takeLabel_20 (fun r2 σ1 h => ?_)
      try dsimp only at h
      refine g_if_ne C rfl 41 (by decide) dX4_takeLabel_23 (fun hc => ?_) (fun hc => ?_)
      · have h := h.1 hc
        exact g_pick [0] rfl (m_X4_takeLabel_B41 C hlocks hr (fun  _ h => ih  _ h) h)
      · have h := h.2 hc
        refine g_aload_n C 0 0 rfl rfl dX4_takeLabel_26 ?_
        refine g_get C iX4 (ci := 4) (o := 1) (v := .ref (ad 2)) rfl rfl 0 (by decide) rfl tw_X4_9 dX4_takeLabel_27 ?_
        refine g_aload_n C 0 0 rfl rfl dX4_takeLabel_30 ?_
        refine g_get C iX4 (ci := 4) (o := 1) (v := vI (σ1 1 4)) rfl rfl 4 (by decide) rfl tw_X4_19 dX4_takeLabel_31 ?_
        obtain ⟨hi, h⟩ := h
        refine g_iald C (o := 2) (N := 1000) rfl rfl hi rfl dX4_takeLabel_34 ?_
        refine g_callIs C (m_X4_isDigit l D cA ad h) hv_X4_isDigit tw_X4_50 (As := [vI (σ1 2 (w32 (σ1 1 4)).toNat)]) (st := []) rfl rfl ⟨Nat.le_of_ble_eq_true rfl, Nat.le_of_ble_eq_true rfl⟩ rfl rfl (Nat.le_of_ble_eq_true rfl) dX4_takeLabel_35 (fun r4 σ3 h => ?_)
        try dsimp only at h
        refine g_if_eq C rfl 54 (by decide) dX4_takeLabel_38 (fun hc => ?_) (fun hc => ?_)
        · have h := h.1 hc
          exact g_pick [0] rfl (m_X4_takeLabel_B54 C hlocks hr h)
        · have h := h.2 hc
          exact g_pick [0] rfl (m_X4_takeLabel_B41 C hlocks hr (fun  _ h => ih  _ h) h)
set_option maxRecDepth 100000 in
set_option maxHeartbeats 4000000 in
theorem m_X4_takeLabel (l : Launch) (D : va_G) (cA : Nat → ClassId) (ad : Nat → Nat) {Q : St → Prop} {σ : St} (h : wp_X4_takeLabel Q σ) : CtV l yX4_takeLabel (.code yX4_takeLabel cX4_takeLabel 1 none) rm_X4_takeLabel D cA shC ad zsC [.ref (ad 1)] σ Q :=
  ct_V RX4 (by decide +kernel) rfl (Nat.le_of_ble_eq_true rfl) (fun p e s m args below meth c C hlocks hr => by
    obtain ⟨n, h⟩ := h
    exact g_pick [0] rfl (m_X4_takeLabel_L0 C hlocks hr n _ h))
abbrev rm_X4_advance : Room := { frames := 3, cells := 0, slots := 0, locals := 40 }
set_option maxRecDepth 100000 in
set_option maxHeartbeats 4000000 in
theorem m_X4_advance_B90 {p : Program} {l : Launch} {e : Env} {s : State} {m : MethodId} {args : Array Value} {below : List Frame} {meth : Method} {c : Code} {D : va_G} {cA : Nat → ClassId} {ad : Nat → Nat} (C : Cx p s m args c cX4_advance RX4 2 D cA shC ad zsC) (hlocks : meth.locks = false) (hr : meth.sig.returnType = none) {Q : St → Prop} {y1 : Int} {σ : St} (h : wp_X4_advance_B90 y1 Q σ) : G p l e rm_X4_advance s m args below meth c 0 0 2 D cA shC ad (QV D cA shC ad zsC below args s Q) σ [] [vI y1, .ref (ad 1)] 90 := by
  unfold wp_X4_advance_B90 at h
  refine g_put C iX4 (ci := 4) (o := 1) (z := y1) (ty := .int) rfl tyX4_ok nmX4 rfl 2 (by decide) rfl rfl tw_X4_28 rfl (by decide +kernel) rfl rfl dX4_advance_90 (fun σ1 eσ1 => ?_)
  have h := h σ1 eσ1
  exact g_vret C hlocks hr h dX4_advance_93
set_option maxRecDepth 100000 in
set_option maxHeartbeats 4000000 in
theorem m_X4_advance_E {p : Program} {l : Launch} {e : Env} {s : State} {m : MethodId} {args : Array Value} {below : List Frame} {meth : Method} {c : Code} {D : va_G} {cA : Nat → ClassId} {ad : Nat → Nat} (C : Cx p s m args c cX4_advance RX4 2 D cA shC ad zsC) (hlocks : meth.locks = false) (hr : meth.sig.returnType = none) {Q : St → Prop} {σ : St} (h : wp_X4_advance Q σ) : G p l e rm_X4_advance s m args below meth c 0 0 2 D cA shC ad (QV D cA shC ad zsC below args s Q) σ [(0, .ref (ad 1))] [] 0 := by
  unfold wp_X4_advance at h
  refine g_aload_n C 0 0 rfl rfl dX4_advance_0 ?_
  refine g_callVv C (m_X4_skipBlanks l D cA ad h) hv_X4_skipBlanks tw_X4_22 (o := 1) (ci := 4) (As := []) (st := []) rfl rfl rfl rfl ⟨Nat.le_of_ble_eq_true rfl, Nat.le_of_ble_eq_true rfl⟩ rfl rfl (Nat.le_of_ble_eq_true rfl) dX4_advance_1 (fun σ1 h => ?_)
  try dsimp only at h
  refine g_aload_n C 0 0 rfl rfl dX4_advance_4 ?_
  refine g_aload_n C 0 0 rfl rfl dX4_advance_5 ?_
  refine g_get C iX4 (ci := 4) (o := 1) (v := vI (σ1 1 4)) rfl rfl 4 (by decide) rfl tw_X4_19 dX4_advance_6 ?_
  refine g_put C iX4 (ci := 4) (o := 1) (z := (σ1 1 4)) (ty := .int) rfl tyX4_ok nmX4 rfl 3 (by decide) rfl rfl tw_X4_25 rfl (by decide +kernel) rfl rfl dX4_advance_9 (fun σ2 eσ2 => ?_)
  have h := h σ2 eσ2
  refine g_aload_n C 0 0 rfl rfl dX4_advance_12 ?_
  refine g_get C iX4 (ci := 4) (o := 1) (v := vI (σ2 1 3)) rfl rfl 3 (by decide) rfl tw_X4_25 dX4_advance_13 ?_
  refine g_aload_n C 0 0 rfl rfl dX4_advance_16 ?_
  refine g_get C iX4 (ci := 4) (o := 1) (v := vI (σ2 1 1)) rfl rfl 1 (by decide) rfl tw_X4_15 dX4_advance_17 ?_
  refine g_icmp_lt C rfl rfl 29 (by decide) dX4_advance_20 (fun hc => ?_) (fun hc => ?_)
  · have h := h.1 hc
    refine g_aload_n C 0 0 rfl rfl dX4_advance_29 ?_
    refine g_get C iX4 (ci := 4) (o := 1) (v := .ref (ad 2)) rfl rfl 0 (by decide) rfl tw_X4_9 dX4_advance_30 ?_
    refine g_aload_n C 0 0 rfl rfl dX4_advance_33 ?_
    refine g_get C iX4 (ci := 4) (o := 1) (v := vI (σ2 1 3)) rfl rfl 3 (by decide) rfl tw_X4_25 dX4_advance_34 ?_
    obtain ⟨hi, h⟩ := h
    refine g_iald C (o := 2) (N := 1000) rfl rfl hi rfl dX4_advance_37 ?_
    refine g_name (fun x_3 ex_3 => ?_)
    have h := h x_3 ex_3
    refine g_istore_n C 1 [(0, .ref (ad 1))] rfl (by decide) rfl dX4_advance_38 ?_
    refine g_aload_n C 1 0 rfl rfl dX4_advance_39 ?_
    refine g_dup C rfl dX4_advance_40 ?_
    refine g_get C iX4 (ci := 4) (o := 1) (v := vI (σ2 1 4)) rfl rfl 4 (by decide) rfl tw_X4_19 dX4_advance_41 ?_
    refine g_iconst C dX4_advance_44 ?_
    refine g_iadd C dX4_advance_45 ?_
    refine g_put C iX4 (ci := 4) (o := 1) (z := ((σ2 1 4) + 1)) (ty := .int) rfl tyX4_ok nmX4 rfl 4 (by decide) rfl rfl tw_X4_19 rfl (by decide +kernel) rfl rfl dX4_advance_46 (fun σ4 eσ4 => ?_)
    have h := h σ4 eσ4
    refine g_iload_n C 0 1 rfl rfl dX4_advance_49 ?_
    refine g_callIs C (m_X4_isGreat l D cA ad h) hv_X4_isGreat tw_X4_31 (As := [vI x_3]) (st := []) rfl rfl ⟨Nat.le_of_ble_eq_true rfl, Nat.le_of_ble_eq_true rfl⟩ rfl rfl (Nat.le_of_ble_eq_true rfl) dX4_advance_50 (fun r6 σ5 h => ?_)
    try dsimp only at h
    refine g_if_eq C rfl 63 (by decide) dX4_advance_53 (fun hc => ?_) (fun hc => ?_)
    · have h := h.1 hc
      refine g_iload_n C 0 1 rfl rfl dX4_advance_63 ?_
      refine g_callIs C (m_X4_isSmall l D cA ad h) hv_X4_isSmall tw_X4_38 (As := [vI x_3]) (st := []) rfl rfl ⟨Nat.le_of_ble_eq_true rfl, Nat.le_of_ble_eq_true rfl⟩ rfl rfl (Nat.le_of_ble_eq_true rfl) dX4_advance_64 (fun r8 σ7 h => ?_)
      try dsimp only at h
      refine g_if_eq C rfl 77 (by decide) dX4_advance_67 (fun hc => ?_) (fun hc => ?_)
      · have h := h.1 hc
        refine g_aload_n C 1 0 rfl rfl dX4_advance_77 ?_
        refine g_iload_n C 0 1 rfl rfl dX4_advance_78 ?_
        refine g_callIs C (m_X4_isSign l D cA ad h) hv_X4_isSign tw_X4_44 (As := [vI x_3]) (st := [.ref (ad 1)]) rfl rfl ⟨Nat.le_of_ble_eq_true rfl, Nat.le_of_ble_eq_true rfl⟩ rfl rfl (Nat.le_of_ble_eq_true rfl) dX4_advance_79 (fun r10 σ9 h => ?_)
        try dsimp only at h
        refine g_if_eq C rfl 89 (by decide) dX4_advance_82 (fun hc => ?_) (fun hc => ?_)
        · have h := h.1 hc
          refine g_iconst C dX4_advance_89 ?_
          exact g_pick [] rfl (m_X4_advance_B90 C hlocks hr h)
        · have h := h.2 hc
          refine g_iconst C dX4_advance_85 ?_
          refine g_goto C 90 (by decide) dX4_advance_86 ?_
          exact g_pick [] rfl (m_X4_advance_B90 C hlocks hr h)
      · have h := h.2 hc
        refine g_aload_n C 1 0 rfl rfl dX4_advance_70 ?_
        refine g_callVv C (m_X4_takeWord l D cA ad h) hv_X4_takeWord tw_X4_41 (o := 1) (ci := 4) (As := []) (st := []) rfl rfl rfl rfl ⟨Nat.le_of_ble_eq_true rfl, Nat.le_of_ble_eq_true rfl⟩ rfl rfl (Nat.le_of_ble_eq_true rfl) dX4_advance_71 (fun σ11 h => ?_)
        try dsimp only at h
        refine g_goto C 93 (by decide) dX4_advance_74 ?_
        exact g_vret C hlocks hr h dX4_advance_93
    · have h := h.2 hc
      refine g_aload_n C 1 0 rfl rfl dX4_advance_56 ?_
      refine g_callVv C (m_X4_takeLabel l D cA ad h) hv_X4_takeLabel tw_X4_35 (o := 1) (ci := 4) (As := []) (st := []) rfl rfl rfl rfl ⟨Nat.le_of_ble_eq_true rfl, Nat.le_of_ble_eq_true rfl⟩ rfl rfl (Nat.le_of_ble_eq_true rfl) dX4_advance_57 (fun σ12 h => ?_)
      try dsimp only at h
      refine g_goto C 93 (by decide) dX4_advance_60 ?_
      exact g_vret C hlocks hr h dX4_advance_93
  · have h := h.2 hc
    refine g_aload_n C 0 0 rfl rfl dX4_advance_23 ?_
    refine g_iconst C dX4_advance_24 ?_
    refine g_put C iX4 (ci := 4) (o := 1) (z := 0) (ty := .int) rfl tyX4_ok nmX4 rfl 2 (by decide) rfl rfl tw_X4_28 rfl (by decide +kernel) rfl rfl dX4_advance_25 (fun σ13 eσ13 => ?_)
    have h := h σ13 eσ13
    exact g_vret C hlocks hr h dX4_advance_28
set_option maxRecDepth 100000 in
set_option maxHeartbeats 4000000 in
theorem m_X4_advance (l : Launch) (D : va_G) (cA : Nat → ClassId) (ad : Nat → Nat) {Q : St → Prop} {σ : St} (h : wp_X4_advance Q σ) : CtV l yX4_advance (.code yX4_advance cX4_advance 2 none) rm_X4_advance D cA shC ad zsC [.ref (ad 1)] σ Q :=
  ct_V RX4 (by decide +kernel) rfl (Nat.le_of_ble_eq_true rfl) (fun p e s m args below meth c C hlocks hr => m_X4_advance_E C hlocks hr h)
abbrev rm_X2_begin_4 : Room := { frames := 1, cells := 0, slots := 0, locals := 0 }
set_option maxRecDepth 100000 in
set_option maxHeartbeats 4000000 in
theorem m_X2_begin_4_E {p : Program} {l : Launch} {e : Env} {s : State} {m : MethodId} {args : Array Value} {below : List Frame} {meth : Method} {c : Code} {D : va_G} {cA : Nat → ClassId} {ad : Nat → Nat} (C : Cx p s m args c cX2_begin RX2 2 D cA shC ad zsC) (hlocks : meth.locks = false) (hr : meth.sig.returnType = (some .int)) {Q : Int → St → Prop} {a1 : Int} {σ : St} (h : wp_X2_begin 4 128 16 a1 Q σ) : G p l e rm_X2_begin_4 s m args below meth c 0 0 2 D cA shC ad (QI D cA shC ad zsC below args s Q) σ [(0, .ref (ad 4)), (1, vI a1)] [] 0 := by
  unfold wp_X2_begin at h
  refine g_iload_n C 1 1 rfl rfl dX2_begin_0 ?_
  refine g_aload_n C 0 0 rfl rfl dX2_begin_1 ?_
  refine g_get C iX2 (ci := 2) (o := 4) (v := vI (σ 4 0)) rfl rfl 0 (by decide) rfl tw_X2_9 dX2_begin_2 ?_
  refine g_imul C dX2_begin_5 ?_
  exact g_iret C hlocks hr h dX2_begin_6
set_option maxRecDepth 100000 in
set_option maxHeartbeats 4000000 in
theorem m_X2_begin_4 (l : Launch) (D : va_G) (cA : Nat → ClassId) (ad : Nat → Nat) {a1 : Int} {Q : Int → St → Prop} {σ : St} (h : wp_X2_begin 4 128 16 a1 Q σ) : CtI l yX2_begin (.code yX2_begin cX2_begin 2 (some .int)) rm_X2_begin_4 D cA shC ad zsC [.ref (ad 4), vI a1] σ Q :=
  ct_I RX2 (by decide +kernel) rfl (Nat.le_of_ble_eq_true rfl) (fun p e s m args below meth c C hlocks hr => m_X2_begin_4_E C hlocks hr h)
abbrev rm_X2_isSame_4_2 : Room := { frames := 1, cells := 0, slots := 0, locals := 0 }
set_option maxRecDepth 100000 in
set_option maxHeartbeats 4000000 in
theorem m_X2_isSame_L3_4_2 {p : Program} {l : Launch} {e : Env} {s : State} {m : MethodId} {args : Array Value} {below : List Frame} {meth : Method} {c : Code} {D : va_G} {cA : Nat → ClassId} {ad : Nat → Nat} (C : Cx p s m args c cX2_isSame RX2 6 D cA shC ad zsC) (hlocks : meth.locks = false) (hr : meth.sig.returnType = (some .boolean)) {Q : Int → St → Prop} : ∀ (n : Nat) (x1 : Int) (x3 : Int) (x4 : Int) (x5 : Int) (σ : St), wp_X2_isSame_L3 4 2 128 16 1000 Q n x1 x3 x4 x5 σ → G p l e rm_X2_isSame_4_2 s m args below meth c 0 0 6 D cA shC ad (QI D cA shC ad zsC below args s Q) σ [(0, .ref (ad 4)), (1, vI x1), (2, .ref (ad 2)), (3, vI x3), (4, vI x4), (5, vI x5)] [] 3 := by
  intro n
  induction n with
  | zero => intro _ _ _ _ _ h; exact h.elim
  | succ n ih =>
    intro x1 x3 x4 x5 σ h
    simp only [wp_X2_isSame_L3] at h
    refine g_iload C 5 5 rfl dX2_isSame_3 ?_
    refine g_iload C 4 4 rfl dX2_isSame_5 ?_
    refine g_icmp_ge C rfl rfl 36 (by decide) dX2_isSame_7 (fun hc => ?_) (fun hc => ?_)
    · have h := h.1 hc
      refine g_iconst C dX2_isSame_36 ?_
      exact g_zret C hlocks hr (by decide) h dX2_isSame_37
    · have h := h.2 hc
      refine g_aload_n C 2 2 rfl rfl dX2_isSame_10 ?_
      refine g_iload C 5 5 rfl dX2_isSame_11 ?_
      obtain ⟨hi, h⟩ := h
      refine g_iald C (o := 2) (N := 1000) rfl rfl hi rfl dX2_isSame_13 ?_
      refine g_aload_n C 0 0 rfl rfl dX2_isSame_14 ?_
      refine g_get C iX2 (ci := 2) (o := 4) (v := .ref (ad 5)) rfl rfl 1 (by decide) rfl tw_X2_15 dX2_isSame_15 ?_
      refine g_iload_n C 1 1 rfl rfl dX2_isSame_18 ?_
      refine g_iload C 5 5 rfl dX2_isSame_19 ?_
      refine g_iadd C dX2_isSame_21 ?_
      refine g_iload_n C 3 3 rfl rfl dX2_isSame_22 ?_
      refine g_isub C dX2_isSame_23 ?_
      obtain ⟨hi, h⟩ := h
      refine g_iald C (o := 5) (N := 128) rfl rfl hi rfl dX2_isSame_24 ?_
      refine g_icmp_eq C rfl rfl 30 (by decide) dX2_isSame_25 (fun hc => ?_) (fun hc => ?_)
      · have h := h.1 hc
        refine g_iinc C 5 5 [(0, .ref (ad 4)), (1, vI x1), (2, .ref (ad 2)), (3, vI x3), (4, vI x4)] rfl (by decide) rfl dX2_isSame_30 (fun x_1 ex_1 => ?_)
        have h := h x_1 ex_1
        refine g_goto C 3 (by decide) dX2_isSame_33 ?_
        exact g_pick [1, 2, 3, 4, 5, 0] rfl (ih _ _ _ _ _ h)
      · have h := h.2 hc
        refine g_iconst C dX2_isSame_28 ?_
        exact g_zret C hlocks hr (by decide) h dX2_isSame_29
set_option maxRecDepth 100000 in
set_option maxHeartbeats 4000000 in
theorem m_X2_isSame_4_2_E {p : Program} {l : Launch} {e : Env} {s : State} {m : MethodId} {args : Array Value} {below : List Frame} {meth : Method} {c : Code} {D : va_G} {cA : Nat → ClassId} {ad : Nat → Nat} (C : Cx p s m args c cX2_isSame RX2 6 D cA shC ad zsC) (hlocks : meth.locks = false) (hr : meth.sig.returnType = (some .boolean)) {Q : Int → St → Prop} {a1 a3 a4 : Int} {σ : St} (h : wp_X2_isSame 4 2 128 16 1000 a1 a3 a4 Q σ) : G p l e rm_X2_isSame_4_2 s m args below meth c 0 0 6 D cA shC ad (QI D cA shC ad zsC below args s Q) σ [(0, .ref (ad 4)), (1, vI a1), (2, .ref (ad 2)), (3, vI a3), (4, vI a4)] [] 0 := by
  unfold wp_X2_isSame at h
  refine g_iload_n C 3 3 rfl rfl dX2_isSame_0 ?_
  refine g_istore C 5 [(0, .ref (ad 4)), (1, vI a1), (2, .ref (ad 2)), (3, vI a3), (4, vI a4)] (by decide) rfl dX2_isSame_1 ?_
  obtain ⟨nn, h⟩ := h
  exact g_pick [1, 2, 3, 4, 5, 0] rfl (m_X2_isSame_L3_4_2 C hlocks hr nn _ _ _ _ _ h)
set_option maxRecDepth 100000 in
set_option maxHeartbeats 4000000 in
theorem m_X2_isSame_4_2 (l : Launch) (D : va_G) (cA : Nat → ClassId) (ad : Nat → Nat) {a1 a3 a4 : Int} {Q : Int → St → Prop} {σ : St} (h : wp_X2_isSame 4 2 128 16 1000 a1 a3 a4 Q σ) : CtI l yX2_isSame (.code yX2_isSame cX2_isSame 6 (some .boolean)) rm_X2_isSame_4_2 D cA shC ad zsC [.ref (ad 4), vI a1, .ref (ad 2), vI a3, vI a4] σ Q :=
  ct_I RX2 (by decide +kernel) rfl (Nat.le_of_ble_eq_true rfl) (fun p e s m args below meth c C hlocks hr => m_X2_isSame_4_2_E C hlocks hr h)
abbrev rm_X2_find_4_2 : Room := { frames := 2, cells := 0, slots := 0, locals := 25 }
set_option maxRecDepth 100000 in
set_option maxHeartbeats 4000000 in
theorem m_X2_find_B44_4_2 {p : Program} {l : Launch} {e : Env} {s : State} {m : MethodId} {args : Array Value} {below : List Frame} {meth : Method} {c : Code} {D : va_G} {cA : Nat → ClassId} {ad : Nat → Nat} (C : Cx p s m args c cX2_find RX2 5 D cA shC ad zsC) (hlocks : meth.locks = false) (hr : meth.sig.returnType = (some .int)) {Q : Int → St → Prop} {K3 : Int → Int → Int → St → Prop} (hK3 : ∀ (x2 : Int) (x3 : Int) (x4 : Int) (σ : St), K3 x2 x3 x4 σ → G p l e rm_X2_find_4_2 s m args below meth c 0 0 5 D cA shC ad (QI D cA shC ad zsC below args s Q) σ [(0, .ref (ad 4)), (1, .ref (ad 2)), (2, vI x2), (3, vI x3), (4, vI x4)] [] 3) {x2 x3 x4 : Int} {σ : St} (h : wp_X2_find_B44 4 2 128 16 1000 K3 x2 x3 x4 Q σ) : G p l e rm_X2_find_4_2 s m args below meth c 0 0 5 D cA shC ad (QI D cA shC ad zsC below args s Q) σ [(0, .ref (ad 4)), (1, .ref (ad 2)), (2, vI x2), (3, vI x3), (4, vI x4)] [] 44 := by
  unfold wp_X2_find_B44 at h
  refine g_iinc C 4 4 [(0, .ref (ad 4)), (1, .ref (ad 2)), (2, vI x2), (3, vI x3)] rfl (by decide) rfl dX2_find_44 (fun x_1 ex_1 => ?_)
  have h := h x_1 ex_1
  refine g_goto C 3 (by decide) dX2_find_47 ?_
  exact g_pick [1, 2, 3, 4, 0] rfl (hK3 _ _ _ _ h)
set_option maxRecDepth 100000 in
set_option maxHeartbeats 4000000 in
theorem m_X2_find_L3_4_2 {p : Program} {l : Launch} {e : Env} {s : State} {m : MethodId} {args : Array Value} {below : List Frame} {meth : Method} {c : Code} {D : va_G} {cA : Nat → ClassId} {ad : Nat → Nat} (C : Cx p s m args c cX2_find RX2 5 D cA shC ad zsC) (hlocks : meth.locks = false) (hr : meth.sig.returnType = (some .int)) {Q : Int → St → Prop} : ∀ (n : Nat) (x2 : Int) (x3 : Int) (x4 : Int) (σ : St), wp_X2_find_L3 4 2 128 16 1000 Q n x2 x3 x4 σ → G p l e rm_X2_find_4_2 s m args below meth c 0 0 5 D cA shC ad (QI D cA shC ad zsC below args s Q) σ [(0, .ref (ad 4)), (1, .ref (ad 2)), (2, vI x2), (3, vI x3), (4, vI x4)] [] 3 := by
  intro n
  induction n with
  | zero => intro _ _ _ _ h; exact h.elim
  | succ n ih =>
    intro x2 x3 x4 σ h
    simp only [wp_X2_find_L3] at h
    refine g_iload C 4 4 rfl dX2_find_3 ?_
    refine g_aload_n C 0 0 rfl rfl dX2_find_5 ?_
    refine g_get C iX2 (ci := 2) (o := 4) (v := vI (σ 4 3)) rfl rfl 3 (by decide) rfl tw_X2_22 dX2_find_6 ?_
    refine g_icmp_ge C rfl rfl 50 (by decide) dX2_find_9 (fun hc => ?_) (fun hc => ?_)
    · have h := h.1 hc
      refine g_iconst C dX2_find_50 ?_
      exact g_iret C hlocks hr h dX2_find_51
    · have h := h.2 hc
      refine g_aload_n C 0 0 rfl rfl dX2_find_12 ?_
      refine g_get C iX2 (ci := 2) (o := 4) (v := .ref (ad 6)) rfl rfl 2 (by decide) rfl tw_X2_19 dX2_find_13 ?_
      refine g_iload C 4 4 rfl dX2_find_16 ?_
      obtain ⟨hi, h⟩ := h
      refine g_iald C (o := 6) (N := 16) rfl rfl hi rfl dX2_find_18 ?_
      refine g_iload_n C 3 3 rfl rfl dX2_find_19 ?_
      refine g_iload_n C 2 2 rfl rfl dX2_find_20 ?_
      refine g_isub C dX2_find_21 ?_
      refine g_icmp_ne C rfl rfl 44 (by decide) dX2_find_22 (fun hc => ?_) (fun hc => ?_)
      · have h := h.1 hc
        exact g_pick [0, 1, 2, 3, 4] rfl (m_X2_find_B44_4_2 C hlocks hr (fun _ _ _ _ h => ih _ _ _ _ h) h)
      · have h := h.2 hc
        refine g_aload_n C 0 0 rfl rfl dX2_find_25 ?_
        refine g_aload_n C 0 0 rfl rfl dX2_find_26 ?_
        refine g_iload C 4 4 rfl dX2_find_27 ?_
        refine g_callIv C (m_X2_begin_4 l D cA ad h) hv_X2_begin tw_X2_29 (o := 4) (ci := 2) (As := [vI x4]) (st := [.ref (ad 4)]) rfl rfl rfl rfl ⟨Nat.le_of_ble_eq_true rfl, Nat.le_of_ble_eq_true rfl⟩ rfl rfl (Nat.le_of_ble_eq_true rfl) dX2_find_29 (fun r2 σ1 h => ?_)
        try dsimp only at h
        refine g_aload_n C 1 1 rfl rfl dX2_find_32 ?_
        refine g_iload_n C 2 2 rfl rfl dX2_find_33 ?_
        refine g_iload_n C 3 3 rfl rfl dX2_find_34 ?_
        refine g_callIv C (m_X2_isSame_4_2 l D cA ad h) hv_X2_isSame tw_X2_39 (o := 4) (ci := 2) (As := [vI r2, .ref (ad 2), vI x2, vI x3]) (st := []) rfl rfl rfl rfl ⟨Nat.le_of_ble_eq_true rfl, Nat.le_of_ble_eq_true rfl⟩ rfl rfl (Nat.le_of_ble_eq_true rfl) dX2_find_35 (fun r4 σ3 h => ?_)
        try dsimp only at h
        refine g_if_eq C rfl 44 (by decide) dX2_find_38 (fun hc => ?_) (fun hc => ?_)
        · have h := h.1 hc
          exact g_pick [0, 1, 2, 3, 4] rfl (m_X2_find_B44_4_2 C hlocks hr (fun _ _ _ _ h => ih _ _ _ _ h) h)
        · have h := h.2 hc
          refine g_iload C 4 4 rfl dX2_find_41 ?_
          exact g_iret C hlocks hr h dX2_find_43
set_option maxRecDepth 100000 in
set_option maxHeartbeats 4000000 in
theorem m_X2_find_4_2_E {p : Program} {l : Launch} {e : Env} {s : State} {m : MethodId} {args : Array Value} {below : List Frame} {meth : Method} {c : Code} {D : va_G} {cA : Nat → ClassId} {ad : Nat → Nat} (C : Cx p s m args c cX2_find RX2 5 D cA shC ad zsC) (hlocks : meth.locks = false) (hr : meth.sig.returnType = (some .int)) {Q : Int → St → Prop} {a2 a3 : Int} {σ : St} (h : wp_X2_find 4 2 128 16 1000 a2 a3 Q σ) : G p l e rm_X2_find_4_2 s m args below meth c 0 0 5 D cA shC ad (QI D cA shC ad zsC below args s Q) σ [(0, .ref (ad 4)), (1, .ref (ad 2)), (2, vI a2), (3, vI a3)] [] 0 := by
  unfold wp_X2_find at h
  refine g_iconst C dX2_find_0 ?_
  refine g_istore C 4 [(0, .ref (ad 4)), (1, .ref (ad 2)), (2, vI a2), (3, vI a3)] (by decide) rfl dX2_find_1 ?_
  obtain ⟨nn, h⟩ := h
  exact g_pick [1, 2, 3, 4, 0] rfl (m_X2_find_L3_4_2 C hlocks hr nn _ _ _ _ h)
set_option maxRecDepth 100000 in
set_option maxHeartbeats 4000000 in
theorem m_X2_find_4_2 (l : Launch) (D : va_G) (cA : Nat → ClassId) (ad : Nat → Nat) {a2 a3 : Int} {Q : Int → St → Prop} {σ : St} (h : wp_X2_find 4 2 128 16 1000 a2 a3 Q σ) : CtI l yX2_find (.code yX2_find cX2_find 5 (some .int)) rm_X2_find_4_2 D cA shC ad zsC [.ref (ad 4), .ref (ad 2), vI a2, vI a3] σ Q :=
  ct_I RX2 (by decide +kernel) rfl (Nat.le_of_ble_eq_true rfl) (fun p e s m args below meth c C hlocks hr => m_X2_find_4_2_E C hlocks hr h)
abbrev rm_X2_isFull_4 : Room := { frames := 1, cells := 0, slots := 0, locals := 0 }
set_option maxRecDepth 100000 in
set_option maxHeartbeats 4000000 in
theorem m_X2_isFull_4_E {p : Program} {l : Launch} {e : Env} {s : State} {m : MethodId} {args : Array Value} {below : List Frame} {meth : Method} {c : Code} {D : va_G} {cA : Nat → ClassId} {ad : Nat → Nat} (C : Cx p s m args c cX2_isFull RX2 1 D cA shC ad zsC) (hlocks : meth.locks = false) (hr : meth.sig.returnType = (some .boolean)) {Q : Int → St → Prop} {σ : St} (h : wp_X2_isFull 4 128 16 Q σ) : G p l e rm_X2_isFull_4 s m args below meth c 0 0 1 D cA shC ad (QI D cA shC ad zsC below args s Q) σ [(0, .ref (ad 4))] [] 0 := by
  unfold wp_X2_isFull at h
  refine g_aload_n C 0 0 rfl rfl dX2_isFull_0 ?_
  refine g_get C iX2 (ci := 2) (o := 4) (v := vI (σ 4 3)) rfl rfl 3 (by decide) rfl tw_X2_22 dX2_isFull_1 ?_
  refine g_aload_n C 0 0 rfl rfl dX2_isFull_4 ?_
  refine g_get C iX2 (ci := 2) (o := 4) (v := .ref (ad 6)) rfl rfl 2 (by decide) rfl tw_X2_19 dX2_isFull_5 ?_
  refine g_alen C (o := 6) (N := 16) rfl rfl dX2_isFull_8 ?_
  refine g_icmp_lt C rfl rfl 16 (by decide) dX2_isFull_9 (fun hc => ?_) (fun hc => ?_)
  · have h := h.1 hc
    refine g_iconst C dX2_isFull_16 ?_
    exact g_zret C hlocks hr (by decide) h dX2_isFull_17
  · have h := h.2 hc
    refine g_iconst C dX2_isFull_12 ?_
    refine g_goto C 17 (by decide) dX2_isFull_13 ?_
    exact g_zret C hlocks hr (by decide) h dX2_isFull_17
set_option maxRecDepth 100000 in
set_option maxHeartbeats 4000000 in
theorem m_X2_isFull_4 (l : Launch) (D : va_G) (cA : Nat → ClassId) (ad : Nat → Nat) {Q : Int → St → Prop} {σ : St} (h : wp_X2_isFull 4 128 16 Q σ) : CtI l yX2_isFull (.code yX2_isFull cX2_isFull 1 (some .boolean)) rm_X2_isFull_4 D cA shC ad zsC [.ref (ad 4)] σ Q :=
  ct_I RX2 (by decide +kernel) rfl (Nat.le_of_ble_eq_true rfl) (fun p e s m args below meth c C hlocks hr => m_X2_isFull_4_E C hlocks hr h)
abbrev rm_X2_add_4_2 : Room := { frames := 2, cells := 0, slots := 0, locals := 40 }
set_option maxRecDepth 100000 in
set_option maxHeartbeats 4000000 in
theorem m_X2_add_4_2_E {p : Program} {l : Launch} {e : Env} {s : State} {m : MethodId} {args : Array Value} {below : List Frame} {meth : Method} {c : Code} {D : va_G} {cA : Nat → ClassId} {ad : Nat → Nat} (C : Cx p s m args c cX2_add RX2 4 D cA shC ad zsC) (hlocks : meth.locks = false) (hr : meth.sig.returnType = none) {Q : St → Prop} {a2 a3 : Int} {σ : St} (h : wp_X2_add 4 2 128 16 1000 a2 a3 Q σ) : G p l e rm_X2_add_4_2 s m args below meth c 0 0 4 D cA shC ad (QV D cA shC ad zsC below args s Q) σ [(0, .ref (ad 4)), (1, .ref (ad 2)), (2, vI a2), (3, vI a3)] [] 0 := by
  unfold wp_X2_add at h
  refine g_aload_n C 0 0 rfl rfl dX2_add_0 ?_
  refine g_callIv C (m_X2_isFull_4 l D cA ad h) hv_X2_isFull tw_X2_25 (o := 4) (ci := 2) (As := []) (st := []) rfl rfl rfl rfl ⟨Nat.le_of_ble_eq_true rfl, Nat.le_of_ble_eq_true rfl⟩ rfl rfl (Nat.le_of_ble_eq_true rfl) dX2_add_1 (fun r2 σ1 h => ?_)
  try dsimp only at h
  refine g_if_ne C rfl 17 (by decide) dX2_add_4 (fun hc => ?_) (fun hc => ?_)
  · have h := h.1 hc
    exact g_vret C hlocks hr h dX2_add_17
  · have h := h.2 hc
    refine g_iload_n C 3 3 rfl rfl dX2_add_7 ?_
    refine g_iload_n C 2 2 rfl rfl dX2_add_8 ?_
    refine g_isub C dX2_add_9 ?_
    refine g_aload_n C 0 0 rfl rfl dX2_add_10 ?_
    refine g_get C iX2 (ci := 2) (o := 4) (v := vI (σ1 4 0)) rfl rfl 0 (by decide) rfl tw_X2_9 dX2_add_11 ?_
    refine g_icmp_le C rfl rfl 18 (by decide) dX2_add_14 (fun hc => ?_) (fun hc => ?_)
    · have h := h.1 hc
      refine g_aload_n C 1 1 rfl rfl dX2_add_18 ?_
      refine g_iload_n C 2 2 rfl rfl dX2_add_19 ?_
      refine g_aload_n C 0 0 rfl rfl dX2_add_20 ?_
      refine g_get C iX2 (ci := 2) (o := 4) (v := .ref (ad 5)) rfl rfl 1 (by decide) rfl tw_X2_15 dX2_add_21 ?_
      refine g_aload_n C 0 0 rfl rfl dX2_add_24 ?_
      refine g_aload_n C 0 0 rfl rfl dX2_add_25 ?_
      refine g_get C iX2 (ci := 2) (o := 4) (v := vI (σ1 4 3)) rfl rfl 3 (by decide) rfl tw_X2_22 dX2_add_26 ?_
      refine g_callIv C (m_X2_begin_4 l D cA ad h) hv_X2_begin tw_X2_29 (o := 4) (ci := 2) (As := [vI (σ1 4 3)]) (st := [.ref (ad 5), vI a2, .ref (ad 2)]) rfl rfl rfl rfl ⟨Nat.le_of_ble_eq_true rfl, Nat.le_of_ble_eq_true rfl⟩ rfl rfl (Nat.le_of_ble_eq_true rfl) dX2_add_29 (fun r4 σ3 h => ?_)
      try dsimp only at h
      refine g_iload_n C 3 3 rfl rfl dX2_add_32 ?_
      refine g_iload_n C 2 2 rfl rfl dX2_add_33 ?_
      refine g_isub C dX2_add_34 ?_
      obtain ⟨hi, h⟩ := h
      refine g_copy C (o := 2) (o1 := 5) (N := 1000) (N1 := 128) rfl rfl rfl rfl (by decide) hi tw_X2_33 tw_cpN tw_cpS tw_cpI (Nat.le_of_ble_eq_true rfl) (Nat.le_of_ble_eq_true (by decide +kernel)) dX2_add_35 (fun σ5 eσ5 => ?_)
      have h := h σ5 eσ5
      refine g_aload_n C 0 0 rfl rfl dX2_add_38 ?_
      refine g_get C iX2 (ci := 2) (o := 4) (v := .ref (ad 6)) rfl rfl 2 (by decide) rfl tw_X2_19 dX2_add_39 ?_
      refine g_aload_n C 0 0 rfl rfl dX2_add_42 ?_
      refine g_get C iX2 (ci := 2) (o := 4) (v := vI (σ5 4 3)) rfl rfl 3 (by decide) rfl tw_X2_22 dX2_add_43 ?_
      refine g_iload_n C 3 3 rfl rfl dX2_add_46 ?_
      refine g_iload_n C 2 2 rfl rfl dX2_add_47 ?_
      refine g_isub C dX2_add_48 ?_
      obtain ⟨hi, h⟩ := h
      refine g_iast C (o := 6) (N := 16) rfl rfl hi rfl dX2_add_49 (fun σ6 eσ6 => ?_)
      have h := h σ6 eσ6
      refine g_aload_n C 0 0 rfl rfl dX2_add_50 ?_
      refine g_dup C rfl dX2_add_51 ?_
      refine g_get C iX2 (ci := 2) (o := 4) (v := vI (σ6 4 3)) rfl rfl 3 (by decide) rfl tw_X2_22 dX2_add_52 ?_
      refine g_iconst C dX2_add_55 ?_
      refine g_iadd C dX2_add_56 ?_
      refine g_put C iX2 (ci := 2) (o := 4) (z := ((σ6 4 3) + 1)) (ty := .int) rfl tyX2_ok nmX2 rfl 3 (by decide) rfl rfl tw_X2_22 rfl (by decide +kernel) rfl rfl dX2_add_57 (fun σ7 eσ7 => ?_)
      have h := h σ7 eσ7
      exact g_vret C hlocks hr h dX2_add_60
    · have h := h.2 hc
      exact g_vret C hlocks hr h dX2_add_17
set_option maxRecDepth 100000 in
set_option maxHeartbeats 4000000 in
theorem m_X2_add_4_2 (l : Launch) (D : va_G) (cA : Nat → ClassId) (ad : Nat → Nat) {a2 a3 : Int} {Q : St → Prop} {σ : St} (h : wp_X2_add 4 2 128 16 1000 a2 a3 Q σ) : CtV l yX2_add (.code yX2_add cX2_add 4 none) rm_X2_add_4_2 D cA shC ad zsC [.ref (ad 4), .ref (ad 2), vI a2, vI a3] σ Q :=
  ct_V RX2 (by decide +kernel) rfl (Nat.le_of_ble_eq_true rfl) (fun p e s m args below meth c C hlocks hr => m_X2_add_4_2_E C hlocks hr h)
abbrev rm_X5_takeName_4 : Room := { frames := 3, cells := 0, slots := 0, locals := 63 }
set_option maxRecDepth 100000 in
set_option maxHeartbeats 4000000 in
theorem m_X5_takeName_4_E {p : Program} {l : Launch} {e : Env} {s : State} {m : MethodId} {args : Array Value} {below : List Frame} {meth : Method} {c : Code} {D : va_G} {cA : Nat → ClassId} {ad : Nat → Nat} (C : Cx p s m args c cX5_takeName RX5 3 D cA shC ad zsC) (hlocks : meth.locks = false) (hr : meth.sig.returnType = (some .int)) {Q : Int → St → Prop} {σ : St} (h : wp_X5_takeName 4 128 16 Q σ) : G p l e rm_X5_takeName_4 s m args below meth c 0 0 3 D cA shC ad (QI D cA shC ad zsC below args s Q) σ [(0, .ref (ad 12)), (1, .ref (ad 4))] [] 0 := by
  unfold wp_X5_takeName at h
  refine g_aload_n C 1 1 rfl rfl dX5_takeName_0 ?_
  refine g_aload_n C 0 0 rfl rfl dX5_takeName_1 ?_
  refine g_get C iX5 (ci := 5) (o := 12) (v := .ref (ad 1)) rfl rfl 2 (by decide) rfl tw_X5_9 dX5_takeName_2 ?_
  refine g_get C iX4 (ci := 4) (o := 1) (v := .ref (ad 2)) rfl rfl 0 (by decide) rfl tw_X5_124 dX5_takeName_5 ?_
  refine g_aload_n C 0 0 rfl rfl dX5_takeName_8 ?_
  refine g_get C iX5 (ci := 5) (o := 12) (v := .ref (ad 1)) rfl rfl 2 (by decide) rfl tw_X5_9 dX5_takeName_9 ?_
  refine g_get C iX4 (ci := 4) (o := 1) (v := vI (σ 1 3)) rfl rfl 3 (by decide) rfl tw_X5_88 dX5_takeName_12 ?_
  refine g_aload_n C 0 0 rfl rfl dX5_takeName_15 ?_
  refine g_get C iX5 (ci := 5) (o := 12) (v := .ref (ad 1)) rfl rfl 2 (by decide) rfl tw_X5_9 dX5_takeName_16 ?_
  refine g_get C iX4 (ci := 4) (o := 1) (v := vI (σ 1 4)) rfl rfl 4 (by decide) rfl tw_X5_127 dX5_takeName_19 ?_
  refine g_callIv C (m_X2_find_4_2 l D cA ad h) hv_X2_find tw_X5_130 (o := 4) (ci := 2) (As := [.ref (ad 2), vI (σ 1 3), vI (σ 1 4)]) (st := []) rfl rfl rfl rfl ⟨Nat.le_of_ble_eq_true rfl, Nat.le_of_ble_eq_true rfl⟩ rfl rfl (Nat.le_of_ble_eq_true rfl) dX5_takeName_22 (fun r2 σ1 h => ?_)
  try dsimp only at h
  refine g_istore_n C 2 [(0, .ref (ad 12)), (1, .ref (ad 4))] rfl (by decide) rfl dX5_takeName_25 ?_
  refine g_iload_n C 0 2 rfl rfl dX5_takeName_26 ?_
  refine g_iconst C dX5_takeName_27 ?_
  refine g_icmp_ne C (y' := (-1)) rfl (by decide) 38 (by decide) dX5_takeName_28 (fun hc => ?_) (fun hc => ?_)
  · have h := h.1 hc
    refine g_iload_n C 0 2 rfl rfl dX5_takeName_38 ?_
    exact g_iret C hlocks hr h dX5_takeName_39
  · have h := h.2 hc
    refine g_aload_n C 2 1 rfl rfl dX5_takeName_31 ?_
    refine g_callIv C (m_X2_isFull_4 l D cA ad h) hv_X2_isFull tw_X5_134 (o := 4) (ci := 2) (As := []) (st := []) rfl rfl rfl rfl ⟨Nat.le_of_ble_eq_true rfl, Nat.le_of_ble_eq_true rfl⟩ rfl rfl (Nat.le_of_ble_eq_true rfl) dX5_takeName_32 (fun r4 σ3 h => ?_)
    try dsimp only at h
    refine g_if_eq C rfl 40 (by decide) dX5_takeName_35 (fun hc => ?_) (fun hc => ?_)
    · have h := h.1 hc
      refine g_aload_n C 2 1 rfl rfl dX5_takeName_40 ?_
      refine g_aload_n C 1 0 rfl rfl dX5_takeName_41 ?_
      refine g_get C iX5 (ci := 5) (o := 12) (v := .ref (ad 1)) rfl rfl 2 (by decide) rfl tw_X5_9 dX5_takeName_42 ?_
      refine g_get C iX4 (ci := 4) (o := 1) (v := .ref (ad 2)) rfl rfl 0 (by decide) rfl tw_X5_124 dX5_takeName_45 ?_
      refine g_aload_n C 1 0 rfl rfl dX5_takeName_48 ?_
      refine g_get C iX5 (ci := 5) (o := 12) (v := .ref (ad 1)) rfl rfl 2 (by decide) rfl tw_X5_9 dX5_takeName_49 ?_
      refine g_get C iX4 (ci := 4) (o := 1) (v := vI (σ3 1 3)) rfl rfl 3 (by decide) rfl tw_X5_88 dX5_takeName_52 ?_
      refine g_aload_n C 1 0 rfl rfl dX5_takeName_55 ?_
      refine g_get C iX5 (ci := 5) (o := 12) (v := .ref (ad 1)) rfl rfl 2 (by decide) rfl tw_X5_9 dX5_takeName_56 ?_
      refine g_get C iX4 (ci := 4) (o := 1) (v := vI (σ3 1 4)) rfl rfl 4 (by decide) rfl tw_X5_127 dX5_takeName_59 ?_
      refine g_callVv C (m_X2_add_4_2 l D cA ad h) hv_X2_add tw_X5_138 (o := 4) (ci := 2) (As := [.ref (ad 2), vI (σ3 1 3), vI (σ3 1 4)]) (st := []) rfl rfl rfl rfl ⟨Nat.le_of_ble_eq_true rfl, Nat.le_of_ble_eq_true rfl⟩ rfl rfl (Nat.le_of_ble_eq_true rfl) dX5_takeName_62 (fun σ5 h => ?_)
      try dsimp only at h
      refine g_aload_n C 2 1 rfl rfl dX5_takeName_65 ?_
      refine g_get C iX2 (ci := 2) (o := 4) (v := vI (σ5 4 3)) rfl rfl 3 (by decide) rfl tw_X5_25 dX5_takeName_66 ?_
      refine g_iconst C dX5_takeName_69 ?_
      refine g_isub C dX5_takeName_70 ?_
      exact g_iret C hlocks hr h dX5_takeName_71
    · have h := h.2 hc
      refine g_iload_n C 0 2 rfl rfl dX5_takeName_38 ?_
      exact g_iret C hlocks hr h dX5_takeName_39
set_option maxRecDepth 100000 in
set_option maxHeartbeats 4000000 in
theorem m_X5_takeName_4 (l : Launch) (D : va_G) (cA : Nat → ClassId) (ad : Nat → Nat) {Q : Int → St → Prop} {σ : St} (h : wp_X5_takeName 4 128 16 Q σ) : CtI l yX5_takeName (.code yX5_takeName cX5_takeName 3 (some .int)) rm_X5_takeName_4 D cA shC ad zsC [.ref (ad 12), .ref (ad 4)] σ Q :=
  ct_I RX5 (by decide +kernel) rfl (Nat.le_of_ble_eq_true rfl) (fun p e s m args below meth c C hlocks hr => m_X5_takeName_4_E C hlocks hr h)
abbrev rm_X1_row : Room := { frames := 1, cells := 0, slots := 0, locals := 0 }
set_option maxRecDepth 100000 in
set_option maxHeartbeats 4000000 in
theorem m_X1_row_E {p : Program} {l : Launch} {e : Env} {s : State} {m : MethodId} {args : Array Value} {below : List Frame} {meth : Method} {c : Code} {D : va_G} {cA : Nat → ClassId} {ad : Nat → Nat} (C : Cx p s m args c cX1_row RX1 2 D cA shC ad zsC) (hlocks : meth.locks = false) (hr : meth.sig.returnType = (some .int)) {Q : Int → St → Prop} {a0 a1 : Int} {σ : St} (h : wp_X1_row a0 a1 Q σ) : G p l e rm_X1_row s m args below meth c 0 0 2 D cA shC ad (QI D cA shC ad zsC below args s Q) σ [(0, vI a0), (1, vI a1)] [] 0 := by
  unfold wp_X1_row at h
  refine g_iload_n C 0 0 rfl rfl dX1_row_0 ?_
  refine g_bipush C dX1_row_1 (by decide) ?_
  refine g_imul C dX1_row_3 ?_
  refine g_iload_n C 1 1 rfl rfl dX1_row_4 ?_
  refine g_iadd C dX1_row_5 ?_
  exact g_iret C hlocks hr h dX1_row_6
set_option maxRecDepth 100000 in
set_option maxHeartbeats 4000000 in
theorem m_X1_row (l : Launch) (D : va_G) (cA : Nat → ClassId) (ad : Nat → Nat) {a0 a1 : Int} {Q : Int → St → Prop} {σ : St} (h : wp_X1_row a0 a1 Q σ) : CtI l yX1_row (.code yX1_row cX1_row 2 (some .int)) rm_X1_row D cA shC ad zsC [vI a0, vI a1] σ Q :=
  ct_I RX1 (by decide +kernel) rfl (Nat.le_of_ble_eq_true rfl) (fun p e s m args below meth c C hlocks hr => m_X1_row_E C hlocks hr h)
abbrev rm_X1_set : Room := { frames := 1, cells := 0, slots := 0, locals := 0 }
set_option maxRecDepth 100000 in
set_option maxHeartbeats 4000000 in
theorem m_X1_set_E {p : Program} {l : Launch} {e : Env} {s : State} {m : MethodId} {args : Array Value} {below : List Frame} {meth : Method} {c : Code} {D : va_G} {cA : Nat → ClassId} {ad : Nat → Nat} (C : Cx p s m args c cX1_set RX1 4 D cA shC ad zsC) (hlocks : meth.locks = false) (hr : meth.sig.returnType = none) {Q : St → Prop} {a1 a2 a3 : Int} {σ : St} (h : wp_X1_set a1 a2 a3 Q σ) : G p l e rm_X1_set s m args below meth c 0 0 4 D cA shC ad (QV D cA shC ad zsC below args s Q) σ [(0, .ref (ad 3)), (1, vI a1), (2, vI a2), (3, vI a3)] [] 0 := by
  unfold wp_X1_set at h
  refine g_aload_n C 0 0 rfl rfl dX1_set_0 ?_
  refine g_get C iX1 (ci := 1) (o := 3) (v := .ref (ad 11)) rfl rfl 3 (by decide) rfl tw_X1_27 dX1_set_1 ?_
  refine g_iload_n C 1 1 rfl rfl dX1_set_4 ?_
  refine g_bipush C dX1_set_5 (by decide) ?_
  refine g_imul C dX1_set_7 ?_
  refine g_iload_n C 2 2 rfl rfl dX1_set_8 ?_
  refine g_iadd C dX1_set_9 ?_
  refine g_iload_n C 3 3 rfl rfl dX1_set_10 ?_
  obtain ⟨hi, h⟩ := h
  refine g_iast C (o := 11) (N := 2448) rfl rfl hi rfl dX1_set_11 (fun σ1 eσ1 => ?_)
  have h := h σ1 eσ1
  exact g_vret C hlocks hr h dX1_set_12
set_option maxRecDepth 100000 in
set_option maxHeartbeats 4000000 in
theorem m_X1_set (l : Launch) (D : va_G) (cA : Nat → ClassId) (ad : Nat → Nat) {a1 a2 a3 : Int} {Q : St → Prop} {σ : St} (h : wp_X1_set a1 a2 a3 Q σ) : CtV l yX1_set (.code yX1_set cX1_set 4 none) rm_X1_set D cA shC ad zsC [.ref (ad 3), vI a1, vI a2, vI a3] σ Q :=
  ct_V RX1 (by decide +kernel) rfl (Nat.le_of_ble_eq_true rfl) (fun p e s m args below meth c C hlocks hr => m_X1_set_E C hlocks hr h)
abbrev rm_X1_cell : Room := { frames := 1, cells := 0, slots := 0, locals := 0 }
set_option maxRecDepth 100000 in
set_option maxHeartbeats 4000000 in
theorem m_X1_cell_E {p : Program} {l : Launch} {e : Env} {s : State} {m : MethodId} {args : Array Value} {below : List Frame} {meth : Method} {c : Code} {D : va_G} {cA : Nat → ClassId} {ad : Nat → Nat} (C : Cx p s m args c cX1_cell RX1 3 D cA shC ad zsC) (hlocks : meth.locks = false) (hr : meth.sig.returnType = (some .int)) {Q : Int → St → Prop} {a1 a2 : Int} {σ : St} (h : wp_X1_cell a1 a2 Q σ) : G p l e rm_X1_cell s m args below meth c 0 0 3 D cA shC ad (QI D cA shC ad zsC below args s Q) σ [(0, .ref (ad 3)), (1, vI a1), (2, vI a2)] [] 0 := by
  unfold wp_X1_cell at h
  refine g_aload_n C 0 0 rfl rfl dX1_cell_0 ?_
  refine g_get C iX1 (ci := 1) (o := 3) (v := .ref (ad 11)) rfl rfl 3 (by decide) rfl tw_X1_27 dX1_cell_1 ?_
  refine g_iload_n C 1 1 rfl rfl dX1_cell_4 ?_
  refine g_bipush C dX1_cell_5 (by decide) ?_
  refine g_imul C dX1_cell_7 ?_
  refine g_iload_n C 2 2 rfl rfl dX1_cell_8 ?_
  refine g_iadd C dX1_cell_9 ?_
  obtain ⟨hi, h⟩ := h
  refine g_iald C (o := 11) (N := 2448) rfl rfl hi rfl dX1_cell_10 ?_
  exact g_iret C hlocks hr h dX1_cell_11
set_option maxRecDepth 100000 in
set_option maxHeartbeats 4000000 in
theorem m_X1_cell (l : Launch) (D : va_G) (cA : Nat → ClassId) (ad : Nat → Nat) {a1 a2 : Int} {Q : Int → St → Prop} {σ : St} (h : wp_X1_cell a1 a2 Q σ) : CtI l yX1_cell (.code yX1_cell cX1_cell 3 (some .int)) rm_X1_cell D cA shC ad zsC [.ref (ad 3), vI a1, vI a2] σ Q :=
  ct_I RX1 (by decide +kernel) rfl (Nat.le_of_ble_eq_true rfl) (fun p e s m args below meth c C hlocks hr => m_X1_cell_E C hlocks hr h)
abbrev rm_X1_addRow : Room := { frames := 2, cells := 0, slots := 0, locals := 23 }
set_option maxRecDepth 100000 in
set_option maxHeartbeats 4000000 in
theorem m_X1_addRow_E {p : Program} {l : Launch} {e : Env} {s : State} {m : MethodId} {args : Array Value} {below : List Frame} {meth : Method} {c : Code} {D : va_G} {cA : Nat → ClassId} {ad : Nat → Nat} (C : Cx p s m args c cX1_addRow RX1 7 D cA shC ad zsC) (hlocks : meth.locks = false) (hr : meth.sig.returnType = none) {Q : St → Prop} {a1 a2 a3 a4 : Int} {σ : St} (h : wp_X1_addRow a1 a2 a3 a4 Q σ) : G p l e rm_X1_addRow s m args below meth c 0 0 7 D cA shC ad (QV D cA shC ad zsC below args s Q) σ [(0, .ref (ad 3)), (1, vI a1), (2, vI a2), (3, vI a3), (4, vI a4)] [] 0 := by
  unfold wp_X1_addRow at h
  refine g_iload_n C 1 1 rfl rfl dX1_addRow_0 ?_
  refine g_aload_n C 0 0 rfl rfl dX1_addRow_1 ?_
  refine g_get C iX1 (ci := 1) (o := 3) (v := .ref (ad 10)) rfl rfl 2 (by decide) rfl tw_X1_23 dX1_addRow_2 ?_
  refine g_iload_n C 1 1 rfl rfl dX1_addRow_5 ?_
  obtain ⟨hi, h⟩ := h
  refine g_iald C (o := 10) (N := 17) rfl rfl hi rfl dX1_addRow_6 ?_
  refine g_callIs C (m_X1_row l D cA ad h) hv_X1_row tw_X1_34 (As := [vI a1, vI (σ 10 (w32 a1).toNat)]) (st := []) rfl rfl ⟨Nat.le_of_ble_eq_true rfl, Nat.le_of_ble_eq_true rfl⟩ rfl rfl (Nat.le_of_ble_eq_true rfl) dX1_addRow_7 (fun r2 σ1 h => ?_)
  try dsimp only at h
  refine g_istore C 5 [(0, .ref (ad 3)), (1, vI a1), (2, vI a2), (3, vI a3), (4, vI a4)] (by decide) rfl dX1_addRow_10 ?_
  refine g_aload_n C 1 0 rfl rfl dX1_addRow_12 ?_
  refine g_get C iX1 (ci := 1) (o := 3) (v := .ref (ad 10)) rfl rfl 2 (by decide) rfl tw_X1_23 dX1_addRow_13 ?_
  refine g_iload_n C 2 1 rfl rfl dX1_addRow_16 ?_
  refine g_dup2 C rfl rfl dX1_addRow_17 ?_
  obtain ⟨hi, h⟩ := h
  refine g_iald C (o := 10) (N := 17) rfl rfl hi rfl dX1_addRow_18 ?_
  refine g_iconst C dX1_addRow_19 ?_
  refine g_iadd C dX1_addRow_20 ?_
  obtain ⟨hi, h⟩ := h
  refine g_iast C (o := 10) (N := 17) rfl rfl hi rfl dX1_addRow_21 (fun σ3 eσ3 => ?_)
  have h := h σ3 eσ3
  refine g_aload_n C 1 0 rfl rfl dX1_addRow_22 ?_
  refine g_iload C 0 5 rfl dX1_addRow_23 ?_
  refine g_iconst C dX1_addRow_25 ?_
  refine g_iload_n C 3 2 rfl rfl dX1_addRow_26 ?_
  refine g_callVv C (m_X1_set l D cA ad h) hv_X1_set tw_X1_41 (o := 3) (ci := 1) (As := [vI r2, vI 0, vI a2]) (st := []) rfl rfl rfl rfl ⟨Nat.le_of_ble_eq_true rfl, Nat.le_of_ble_eq_true rfl⟩ rfl rfl (Nat.le_of_ble_eq_true rfl) dX1_addRow_27 (fun σ4 h => ?_)
  try dsimp only at h
  refine g_aload_n C 1 0 rfl rfl dX1_addRow_30 ?_
  refine g_iload C 0 5 rfl dX1_addRow_31 ?_
  refine g_iconst C dX1_addRow_33 ?_
  refine g_iload_n C 4 3 rfl rfl dX1_addRow_34 ?_
  refine g_callVv C (m_X1_set l D cA ad h) hv_X1_set tw_X1_41 (o := 3) (ci := 1) (As := [vI r2, vI 1, vI a3]) (st := []) rfl rfl rfl rfl ⟨Nat.le_of_ble_eq_true rfl, Nat.le_of_ble_eq_true rfl⟩ rfl rfl (Nat.le_of_ble_eq_true rfl) dX1_addRow_35 (fun σ5 h => ?_)
  try dsimp only at h
  refine g_aload_n C 1 0 rfl rfl dX1_addRow_38 ?_
  refine g_iload C 0 5 rfl dX1_addRow_39 ?_
  refine g_iconst C dX1_addRow_41 ?_
  refine g_iload C 5 4 rfl dX1_addRow_42 ?_
  refine g_callVv C (m_X1_set l D cA ad h) hv_X1_set tw_X1_41 (o := 3) (ci := 1) (As := [vI r2, vI 2, vI a4]) (st := []) rfl rfl rfl rfl ⟨Nat.le_of_ble_eq_true rfl, Nat.le_of_ble_eq_true rfl⟩ rfl rfl (Nat.le_of_ble_eq_true rfl) dX1_addRow_44 (fun σ6 h => ?_)
  try dsimp only at h
  refine g_aload_n C 1 0 rfl rfl dX1_addRow_47 ?_
  refine g_iload C 0 5 rfl dX1_addRow_48 ?_
  refine g_iconst C dX1_addRow_50 ?_
  refine g_iconst C dX1_addRow_51 ?_
  refine g_callVv C (m_X1_set l D cA ad h) hv_X1_set tw_X1_41 (o := 3) (ci := 1) (As := [vI r2, vI 3, vI 0]) (st := []) rfl rfl rfl rfl ⟨Nat.le_of_ble_eq_true rfl, Nat.le_of_ble_eq_true rfl⟩ rfl rfl (Nat.le_of_ble_eq_true rfl) dX1_addRow_52 (fun σ7 h => ?_)
  try dsimp only at h
  refine g_aload_n C 1 0 rfl rfl dX1_addRow_55 ?_
  refine g_iload C 0 5 rfl dX1_addRow_56 ?_
  refine g_iconst C dX1_addRow_58 ?_
  refine g_iconst C dX1_addRow_59 ?_
  refine g_callVv C (m_X1_set l D cA ad h) hv_X1_set tw_X1_41 (o := 3) (ci := 1) (As := [vI r2, vI 4, vI 0]) (st := []) rfl rfl rfl rfl ⟨Nat.le_of_ble_eq_true rfl, Nat.le_of_ble_eq_true rfl⟩ rfl rfl (Nat.le_of_ble_eq_true rfl) dX1_addRow_60 (fun σ8 h => ?_)
  try dsimp only at h
  refine g_iload C 5 4 rfl dX1_addRow_63 ?_
  refine g_iconst C dX1_addRow_65 ?_
  refine g_icmp_eq C (y' := (-1)) rfl (by decide) 93 (by decide) dX1_addRow_66 (fun hc => ?_) (fun hc => ?_)
  · have h := h.1 hc
    exact g_vret C hlocks hr h dX1_addRow_93
  · have h := h.2 hc
    refine g_iload_n C 2 1 rfl rfl dX1_addRow_69 ?_
    refine g_iload C 5 4 rfl dX1_addRow_70 ?_
    refine g_callIs C (m_X1_row l D cA ad h) hv_X1_row tw_X1_34 (As := [vI a1, vI a4]) (st := []) rfl rfl ⟨Nat.le_of_ble_eq_true rfl, Nat.le_of_ble_eq_true rfl⟩ rfl rfl (Nat.le_of_ble_eq_true rfl) dX1_addRow_72 (fun r10 σ9 h => ?_)
    try dsimp only at h
    refine g_istore C 6 [(5, vI r2), (0, .ref (ad 3)), (1, vI a1), (2, vI a2), (3, vI a3), (4, vI a4)] (by decide) rfl dX1_addRow_75 ?_
    refine g_aload_n C 2 0 rfl rfl dX1_addRow_77 ?_
    refine g_iload C 0 6 rfl dX1_addRow_78 ?_
    refine g_iconst C dX1_addRow_80 ?_
    refine g_aload_n C 2 0 rfl rfl dX1_addRow_81 ?_
    refine g_iload C 0 6 rfl dX1_addRow_82 ?_
    refine g_iconst C dX1_addRow_84 ?_
    refine g_callIv C (m_X1_cell l D cA ad h) hv_X1_cell tw_X1_30 (o := 3) (ci := 1) (As := [vI r10, vI 3]) (st := [vI 3, vI r10, .ref (ad 3)]) rfl rfl rfl rfl ⟨Nat.le_of_ble_eq_true rfl, Nat.le_of_ble_eq_true rfl⟩ rfl rfl (Nat.le_of_ble_eq_true rfl) dX1_addRow_85 (fun r12 σ11 h => ?_)
    try dsimp only at h
    refine g_iconst C dX1_addRow_88 ?_
    refine g_iadd C dX1_addRow_89 ?_
    refine g_callVv C (m_X1_set l D cA ad h) hv_X1_set tw_X1_41 (o := 3) (ci := 1) (As := [vI r10, vI 3, vI (r12 + 1)]) (st := []) rfl rfl rfl rfl ⟨Nat.le_of_ble_eq_true rfl, Nat.le_of_ble_eq_true rfl⟩ rfl rfl (Nat.le_of_ble_eq_true rfl) dX1_addRow_90 (fun σ13 h => ?_)
    try dsimp only at h
    exact g_vret C hlocks hr h dX1_addRow_93
set_option maxRecDepth 100000 in
set_option maxHeartbeats 4000000 in
theorem m_X1_addRow (l : Launch) (D : va_G) (cA : Nat → ClassId) (ad : Nat → Nat) {a1 a2 a3 a4 : Int} {Q : St → Prop} {σ : St} (h : wp_X1_addRow a1 a2 a3 a4 Q σ) : CtV l yX1_addRow (.code yX1_addRow cX1_addRow 7 none) rm_X1_addRow D cA shC ad zsC [.ref (ad 3), vI a1, vI a2, vI a3, vI a4] σ Q :=
  ct_V RX1 (by decide +kernel) rfl (Nat.le_of_ble_eq_true rfl) (fun p e s m args below meth c C hlocks hr => m_X1_addRow_E C hlocks hr h)
abbrev rm_X5_addLeaf : Room := { frames := 3, cells := 0, slots := 0, locals := 49 }
set_option maxRecDepth 100000 in
set_option maxHeartbeats 4000000 in
theorem m_X5_addLeaf_B34 {p : Program} {l : Launch} {e : Env} {s : State} {m : MethodId} {args : Array Value} {below : List Frame} {meth : Method} {c : Code} {D : va_G} {cA : Nat → ClassId} {ad : Nat → Nat} (C : Cx p s m args c cX5_addLeaf RX5 3 D cA shC ad zsC) (hlocks : meth.locks = false) (hr : meth.sig.returnType = none) {Q : St → Prop} {y1 : Int} {σ : St} (h : wp_X5_addLeaf_B34 y1 Q σ) : G p l e rm_X5_addLeaf s m args below meth c 0 0 3 D cA shC ad (QV D cA shC ad zsC below args s Q) σ [] [vI y1, .ref (ad 12)] 34 := by
  unfold wp_X5_addLeaf_B34 at h
  refine g_put C iX5 (ci := 5) (o := 12) (z := y1) (ty := .int) rfl tyX5_ok nmX5 rfl 4 (by decide) rfl rfl tw_X5_56 rfl (by decide +kernel) rfl rfl dX5_addLeaf_34 (fun σ1 eσ1 => ?_)
  have h := h σ1 eσ1
  exact g_vret C hlocks hr h dX5_addLeaf_37
set_option maxRecDepth 100000 in
set_option maxHeartbeats 4000000 in
theorem m_X5_addLeaf_E {p : Program} {l : Launch} {e : Env} {s : State} {m : MethodId} {args : Array Value} {below : List Frame} {meth : Method} {c : Code} {D : va_G} {cA : Nat → ClassId} {ad : Nat → Nat} (C : Cx p s m args c cX5_addLeaf RX5 3 D cA shC ad zsC) (hlocks : meth.locks = false) (hr : meth.sig.returnType = none) {Q : St → Prop} {a1 a2 : Int} {σ : St} (h : wp_X5_addLeaf a1 a2 Q σ) : G p l e rm_X5_addLeaf s m args below meth c 0 0 3 D cA shC ad (QV D cA shC ad zsC below args s Q) σ [(0, .ref (ad 12)), (1, vI a1), (2, vI a2)] [] 0 := by
  unfold wp_X5_addLeaf at h
  refine g_aload_n C 0 0 rfl rfl dX5_addLeaf_0 ?_
  refine g_get C iX5 (ci := 5) (o := 12) (v := .ref (ad 3)) rfl rfl 3 (by decide) rfl tw_X5_15 dX5_addLeaf_1 ?_
  refine g_aload_n C 0 0 rfl rfl dX5_addLeaf_4 ?_
  refine g_get C iX5 (ci := 5) (o := 12) (v := .ref (ad 3)) rfl rfl 3 (by decide) rfl tw_X5_15 dX5_addLeaf_5 ?_
  refine g_get C iX1 (ci := 1) (o := 3) (v := vI (σ 3 4)) rfl rfl 4 (by decide) rfl tw_X5_46 dX5_addLeaf_8 ?_
  refine g_iload_n C 1 1 rfl rfl dX5_addLeaf_11 ?_
  refine g_iload_n C 2 2 rfl rfl dX5_addLeaf_12 ?_
  refine g_aload_n C 0 0 rfl rfl dX5_addLeaf_13 ?_
  refine g_get C iX5 (ci := 5) (o := 12) (v := vI (σ 12 5)) rfl rfl 5 (by decide) rfl tw_X5_59 dX5_addLeaf_14 ?_
  refine g_callVv C (m_X1_addRow l D cA ad h) hv_X1_addRow tw_X5_151 (o := 3) (ci := 1) (As := [vI (σ 3 4), vI a1, vI a2, vI (σ 12 5)]) (st := []) rfl rfl rfl rfl ⟨Nat.le_of_ble_eq_true rfl, Nat.le_of_ble_eq_true rfl⟩ rfl rfl (Nat.le_of_ble_eq_true rfl) dX5_addLeaf_17 (fun σ1 h => ?_)
  try dsimp only at h
  refine g_aload_n C 0 0 rfl rfl dX5_addLeaf_20 ?_
  refine g_aload_n C 0 0 rfl rfl dX5_addLeaf_21 ?_
  refine g_get C iX5 (ci := 5) (o := 12) (v := vI (σ1 12 5)) rfl rfl 5 (by decide) rfl tw_X5_59 dX5_addLeaf_22 ?_
  refine g_iconst C dX5_addLeaf_25 ?_
  refine g_icmp_ne C (y' := (-1)) rfl (by decide) 33 (by decide) dX5_addLeaf_26 (fun hc => ?_) (fun hc => ?_)
  · have h := h.1 hc
    refine g_iconst C dX5_addLeaf_33 ?_
    exact g_pick [] rfl (m_X5_addLeaf_B34 C hlocks hr h)
  · have h := h.2 hc
    refine g_iconst C dX5_addLeaf_29 ?_
    refine g_goto C 34 (by decide) dX5_addLeaf_30 ?_
    exact g_pick [] rfl (m_X5_addLeaf_B34 C hlocks hr h)
set_option maxRecDepth 100000 in
set_option maxHeartbeats 4000000 in
theorem m_X5_addLeaf (l : Launch) (D : va_G) (cA : Nat → ClassId) (ad : Nat → Nat) {a1 a2 : Int} {Q : St → Prop} {σ : St} (h : wp_X5_addLeaf a1 a2 Q σ) : CtV l yX5_addLeaf (.code yX5_addLeaf cX5_addLeaf 3 none) rm_X5_addLeaf D cA shC ad zsC [.ref (ad 12), vI a1, vI a2] σ Q :=
  ct_V RX5 (by decide +kernel) rfl (Nat.le_of_ble_eq_true rfl) (fun p e s m args below meth c C hlocks hr => m_X5_addLeaf_E C hlocks hr h)
abbrev rm_X2_begin_7 : Room := { frames := 1, cells := 0, slots := 0, locals := 0 }
set_option maxRecDepth 100000 in
set_option maxHeartbeats 4000000 in
theorem m_X2_begin_7_E {p : Program} {l : Launch} {e : Env} {s : State} {m : MethodId} {args : Array Value} {below : List Frame} {meth : Method} {c : Code} {D : va_G} {cA : Nat → ClassId} {ad : Nat → Nat} (C : Cx p s m args c cX2_begin RX2 2 D cA shC ad zsC) (hlocks : meth.locks = false) (hr : meth.sig.returnType = (some .int)) {Q : Int → St → Prop} {a1 : Int} {σ : St} (h : wp_X2_begin 7 384 32 a1 Q σ) : G p l e rm_X2_begin_7 s m args below meth c 0 0 2 D cA shC ad (QI D cA shC ad zsC below args s Q) σ [(0, .ref (ad 7)), (1, vI a1)] [] 0 := by
  unfold wp_X2_begin at h
  refine g_iload_n C 1 1 rfl rfl dX2_begin_0 ?_
  refine g_aload_n C 0 0 rfl rfl dX2_begin_1 ?_
  refine g_get C iX2 (ci := 2) (o := 7) (v := vI (σ 7 0)) rfl rfl 0 (by decide) rfl tw_X2_9 dX2_begin_2 ?_
  refine g_imul C dX2_begin_5 ?_
  exact g_iret C hlocks hr h dX2_begin_6
set_option maxRecDepth 100000 in
set_option maxHeartbeats 4000000 in
theorem m_X2_begin_7 (l : Launch) (D : va_G) (cA : Nat → ClassId) (ad : Nat → Nat) {a1 : Int} {Q : Int → St → Prop} {σ : St} (h : wp_X2_begin 7 384 32 a1 Q σ) : CtI l yX2_begin (.code yX2_begin cX2_begin 2 (some .int)) rm_X2_begin_7 D cA shC ad zsC [.ref (ad 7), vI a1] σ Q :=
  ct_I RX2 (by decide +kernel) rfl (Nat.le_of_ble_eq_true rfl) (fun p e s m args below meth c C hlocks hr => m_X2_begin_7_E C hlocks hr h)
abbrev rm_X2_isSame_7_2 : Room := { frames := 1, cells := 0, slots := 0, locals := 0 }
set_option maxRecDepth 100000 in
set_option maxHeartbeats 4000000 in
theorem m_X2_isSame_L3_7_2 {p : Program} {l : Launch} {e : Env} {s : State} {m : MethodId} {args : Array Value} {below : List Frame} {meth : Method} {c : Code} {D : va_G} {cA : Nat → ClassId} {ad : Nat → Nat} (C : Cx p s m args c cX2_isSame RX2 6 D cA shC ad zsC) (hlocks : meth.locks = false) (hr : meth.sig.returnType = (some .boolean)) {Q : Int → St → Prop} : ∀ (n : Nat) (x1 : Int) (x3 : Int) (x4 : Int) (x5 : Int) (σ : St), wp_X2_isSame_L3 7 2 384 32 1000 Q n x1 x3 x4 x5 σ → G p l e rm_X2_isSame_7_2 s m args below meth c 0 0 6 D cA shC ad (QI D cA shC ad zsC below args s Q) σ [(0, .ref (ad 7)), (1, vI x1), (2, .ref (ad 2)), (3, vI x3), (4, vI x4), (5, vI x5)] [] 3 := by
  intro n
  induction n with
  | zero => intro _ _ _ _ _ h; exact h.elim
  | succ n ih =>
    intro x1 x3 x4 x5 σ h
    simp only [wp_X2_isSame_L3] at h
    refine g_iload C 5 5 rfl dX2_isSame_3 ?_
    refine g_iload C 4 4 rfl dX2_isSame_5 ?_
    refine g_icmp_ge C rfl rfl 36 (by decide) dX2_isSame_7 (fun hc => ?_) (fun hc => ?_)
    · have h := h.1 hc
      refine g_iconst C dX2_isSame_36 ?_
      exact g_zret C hlocks hr (by decide) h dX2_isSame_37
    · have h := h.2 hc
      refine g_aload_n C 2 2 rfl rfl dX2_isSame_10 ?_
      refine g_iload C 5 5 rfl dX2_isSame_11 ?_
      obtain ⟨hi, h⟩ := h
      refine g_iald C (o := 2) (N := 1000) rfl rfl hi rfl dX2_isSame_13 ?_
      refine g_aload_n C 0 0 rfl rfl dX2_isSame_14 ?_
      refine g_get C iX2 (ci := 2) (o := 7) (v := .ref (ad 8)) rfl rfl 1 (by decide) rfl tw_X2_15 dX2_isSame_15 ?_
      refine g_iload_n C 1 1 rfl rfl dX2_isSame_18 ?_
      refine g_iload C 5 5 rfl dX2_isSame_19 ?_
      refine g_iadd C dX2_isSame_21 ?_
      refine g_iload_n C 3 3 rfl rfl dX2_isSame_22 ?_
      refine g_isub C dX2_isSame_23 ?_
      obtain ⟨hi, h⟩ := h
      refine g_iald C (o := 8) (N := 384) rfl rfl hi rfl dX2_isSame_24 ?_
      refine g_icmp_eq C rfl rfl 30 (by decide) dX2_isSame_25 (fun hc => ?_) (fun hc => ?_)
      · have h := h.1 hc
        refine g_iinc C 5 5 [(0, .ref (ad 7)), (1, vI x1), (2, .ref (ad 2)), (3, vI x3), (4, vI x4)] rfl (by decide) rfl dX2_isSame_30 (fun x_1 ex_1 => ?_)
        have h := h x_1 ex_1
        refine g_goto C 3 (by decide) dX2_isSame_33 ?_
        exact g_pick [1, 2, 3, 4, 5, 0] rfl (ih _ _ _ _ _ h)
      · have h := h.2 hc
        refine g_iconst C dX2_isSame_28 ?_
        exact g_zret C hlocks hr (by decide) h dX2_isSame_29
set_option maxRecDepth 100000 in
set_option maxHeartbeats 4000000 in
theorem m_X2_isSame_7_2_E {p : Program} {l : Launch} {e : Env} {s : State} {m : MethodId} {args : Array Value} {below : List Frame} {meth : Method} {c : Code} {D : va_G} {cA : Nat → ClassId} {ad : Nat → Nat} (C : Cx p s m args c cX2_isSame RX2 6 D cA shC ad zsC) (hlocks : meth.locks = false) (hr : meth.sig.returnType = (some .boolean)) {Q : Int → St → Prop} {a1 a3 a4 : Int} {σ : St} (h : wp_X2_isSame 7 2 384 32 1000 a1 a3 a4 Q σ) : G p l e rm_X2_isSame_7_2 s m args below meth c 0 0 6 D cA shC ad (QI D cA shC ad zsC below args s Q) σ [(0, .ref (ad 7)), (1, vI a1), (2, .ref (ad 2)), (3, vI a3), (4, vI a4)] [] 0 := by
  unfold wp_X2_isSame at h
  refine g_iload_n C 3 3 rfl rfl dX2_isSame_0 ?_
  refine g_istore C 5 [(0, .ref (ad 7)), (1, vI a1), (2, .ref (ad 2)), (3, vI a3), (4, vI a4)] (by decide) rfl dX2_isSame_1 ?_
  obtain ⟨nn, h⟩ := h
  exact g_pick [1, 2, 3, 4, 5, 0] rfl (m_X2_isSame_L3_7_2 C hlocks hr nn _ _ _ _ _ h)
set_option maxRecDepth 100000 in
set_option maxHeartbeats 4000000 in
theorem m_X2_isSame_7_2 (l : Launch) (D : va_G) (cA : Nat → ClassId) (ad : Nat → Nat) {a1 a3 a4 : Int} {Q : Int → St → Prop} {σ : St} (h : wp_X2_isSame 7 2 384 32 1000 a1 a3 a4 Q σ) : CtI l yX2_isSame (.code yX2_isSame cX2_isSame 6 (some .boolean)) rm_X2_isSame_7_2 D cA shC ad zsC [.ref (ad 7), vI a1, .ref (ad 2), vI a3, vI a4] σ Q :=
  ct_I RX2 (by decide +kernel) rfl (Nat.le_of_ble_eq_true rfl) (fun p e s m args below meth c C hlocks hr => m_X2_isSame_7_2_E C hlocks hr h)
abbrev rm_X2_find_7_2 : Room := { frames := 2, cells := 0, slots := 0, locals := 25 }
set_option maxRecDepth 100000 in
set_option maxHeartbeats 4000000 in
theorem m_X2_find_B44_7_2 {p : Program} {l : Launch} {e : Env} {s : State} {m : MethodId} {args : Array Value} {below : List Frame} {meth : Method} {c : Code} {D : va_G} {cA : Nat → ClassId} {ad : Nat → Nat} (C : Cx p s m args c cX2_find RX2 5 D cA shC ad zsC) (hlocks : meth.locks = false) (hr : meth.sig.returnType = (some .int)) {Q : Int → St → Prop} {K3 : Int → Int → Int → St → Prop} (hK3 : ∀ (x2 : Int) (x3 : Int) (x4 : Int) (σ : St), K3 x2 x3 x4 σ → G p l e rm_X2_find_7_2 s m args below meth c 0 0 5 D cA shC ad (QI D cA shC ad zsC below args s Q) σ [(0, .ref (ad 7)), (1, .ref (ad 2)), (2, vI x2), (3, vI x3), (4, vI x4)] [] 3) {x2 x3 x4 : Int} {σ : St} (h : wp_X2_find_B44 7 2 384 32 1000 K3 x2 x3 x4 Q σ) : G p l e rm_X2_find_7_2 s m args below meth c 0 0 5 D cA shC ad (QI D cA shC ad zsC below args s Q) σ [(0, .ref (ad 7)), (1, .ref (ad 2)), (2, vI x2), (3, vI x3), (4, vI x4)] [] 44 := by
  unfold wp_X2_find_B44 at h
  refine g_iinc C 4 4 [(0, .ref (ad 7)), (1, .ref (ad 2)), (2, vI x2), (3, vI x3)] rfl (by decide) rfl dX2_find_44 (fun x_1 ex_1 => ?_)
  have h := h x_1 ex_1
  refine g_goto C 3 (by decide) dX2_find_47 ?_
  exact g_pick [1, 2, 3, 4, 0] rfl (hK3 _ _ _ _ h)
set_option maxRecDepth 100000 in
set_option maxHeartbeats 4000000 in
theorem m_X2_find_L3_7_2 {p : Program} {l : Launch} {e : Env} {s : State} {m : MethodId} {args : Array Value} {below : List Frame} {meth : Method} {c : Code} {D : va_G} {cA : Nat → ClassId} {ad : Nat → Nat} (C : Cx p s m args c cX2_find RX2 5 D cA shC ad zsC) (hlocks : meth.locks = false) (hr : meth.sig.returnType = (some .int)) {Q : Int → St → Prop} : ∀ (n : Nat) (x2 : Int) (x3 : Int) (x4 : Int) (σ : St), wp_X2_find_L3 7 2 384 32 1000 Q n x2 x3 x4 σ → G p l e rm_X2_find_7_2 s m args below meth c 0 0 5 D cA shC ad (QI D cA shC ad zsC below args s Q) σ [(0, .ref (ad 7)), (1, .ref (ad 2)), (2, vI x2), (3, vI x3), (4, vI x4)] [] 3 := by
  intro n
  induction n with
  | zero => intro _ _ _ _ h; exact h.elim
  | succ n ih =>
    intro x2 x3 x4 σ h
    simp only [wp_X2_find_L3] at h
    refine g_iload C 4 4 rfl dX2_find_3 ?_
    refine g_aload_n C 0 0 rfl rfl dX2_find_5 ?_
    refine g_get C iX2 (ci := 2) (o := 7) (v := vI (σ 7 3)) rfl rfl 3 (by decide) rfl tw_X2_22 dX2_find_6 ?_
    refine g_icmp_ge C rfl rfl 50 (by decide) dX2_find_9 (fun hc => ?_) (fun hc => ?_)
    · have h := h.1 hc
      refine g_iconst C dX2_find_50 ?_
      exact g_iret C hlocks hr h dX2_find_51
    · have h := h.2 hc
      refine g_aload_n C 0 0 rfl rfl dX2_find_12 ?_
      refine g_get C iX2 (ci := 2) (o := 7) (v := .ref (ad 9)) rfl rfl 2 (by decide) rfl tw_X2_19 dX2_find_13 ?_
      refine g_iload C 4 4 rfl dX2_find_16 ?_
      obtain ⟨hi, h⟩ := h
      refine g_iald C (o := 9) (N := 32) rfl rfl hi rfl dX2_find_18 ?_
      refine g_iload_n C 3 3 rfl rfl dX2_find_19 ?_
      refine g_iload_n C 2 2 rfl rfl dX2_find_20 ?_
      refine g_isub C dX2_find_21 ?_
      refine g_icmp_ne C rfl rfl 44 (by decide) dX2_find_22 (fun hc => ?_) (fun hc => ?_)
      · have h := h.1 hc
        exact g_pick [0, 1, 2, 3, 4] rfl (m_X2_find_B44_7_2 C hlocks hr (fun _ _ _ _ h => ih _ _ _ _ h) h)
      · have h := h.2 hc
        refine g_aload_n C 0 0 rfl rfl dX2_find_25 ?_
        refine g_aload_n C 0 0 rfl rfl dX2_find_26 ?_
        refine g_iload C 4 4 rfl dX2_find_27 ?_
        refine g_callIv C (m_X2_begin_7 l D cA ad h) hv_X2_begin tw_X2_29 (o := 7) (ci := 2) (As := [vI x4]) (st := [.ref (ad 7)]) rfl rfl rfl rfl ⟨Nat.le_of_ble_eq_true rfl, Nat.le_of_ble_eq_true rfl⟩ rfl rfl (Nat.le_of_ble_eq_true rfl) dX2_find_29 (fun r2 σ1 h => ?_)
        try dsimp only at h
        refine g_aload_n C 1 1 rfl rfl dX2_find_32 ?_
        refine g_iload_n C 2 2 rfl rfl dX2_find_33 ?_
        refine g_iload_n C 3 3 rfl rfl dX2_find_34 ?_
        refine g_callIv C (m_X2_isSame_7_2 l D cA ad h) hv_X2_isSame tw_X2_39 (o := 7) (ci := 2) (As := [vI r2, .ref (ad 2), vI x2, vI x3]) (st := []) rfl rfl rfl rfl ⟨Nat.le_of_ble_eq_true rfl, Nat.le_of_ble_eq_true rfl⟩ rfl rfl (Nat.le_of_ble_eq_true rfl) dX2_find_35 (fun r4 σ3 h => ?_)
        try dsimp only at h
        refine g_if_eq C rfl 44 (by decide) dX2_find_38 (fun hc => ?_) (fun hc => ?_)
        · have h := h.1 hc
          exact g_pick [0, 1, 2, 3, 4] rfl (m_X2_find_B44_7_2 C hlocks hr (fun _ _ _ _ h => ih _ _ _ _ h) h)
        · have h := h.2 hc
          refine g_iload C 4 4 rfl dX2_find_41 ?_
          exact g_iret C hlocks hr h dX2_find_43
set_option maxRecDepth 100000 in
set_option maxHeartbeats 4000000 in
theorem m_X2_find_7_2_E {p : Program} {l : Launch} {e : Env} {s : State} {m : MethodId} {args : Array Value} {below : List Frame} {meth : Method} {c : Code} {D : va_G} {cA : Nat → ClassId} {ad : Nat → Nat} (C : Cx p s m args c cX2_find RX2 5 D cA shC ad zsC) (hlocks : meth.locks = false) (hr : meth.sig.returnType = (some .int)) {Q : Int → St → Prop} {a2 a3 : Int} {σ : St} (h : wp_X2_find 7 2 384 32 1000 a2 a3 Q σ) : G p l e rm_X2_find_7_2 s m args below meth c 0 0 5 D cA shC ad (QI D cA shC ad zsC below args s Q) σ [(0, .ref (ad 7)), (1, .ref (ad 2)), (2, vI a2), (3, vI a3)] [] 0 := by
  unfold wp_X2_find at h
  refine g_iconst C dX2_find_0 ?_
  refine g_istore C 4 [(0, .ref (ad 7)), (1, .ref (ad 2)), (2, vI a2), (3, vI a3)] (by decide) rfl dX2_find_1 ?_
  obtain ⟨nn, h⟩ := h
  exact g_pick [1, 2, 3, 4, 0] rfl (m_X2_find_L3_7_2 C hlocks hr nn _ _ _ _ h)
set_option maxRecDepth 100000 in
set_option maxHeartbeats 4000000 in
theorem m_X2_find_7_2 (l : Launch) (D : va_G) (cA : Nat → ClassId) (ad : Nat → Nat) {a2 a3 : Int} {Q : Int → St → Prop} {σ : St} (h : wp_X2_find 7 2 384 32 1000 a2 a3 Q σ) : CtI l yX2_find (.code yX2_find cX2_find 5 (some .int)) rm_X2_find_7_2 D cA shC ad zsC [.ref (ad 7), .ref (ad 2), vI a2, vI a3] σ Q :=
  ct_I RX2 (by decide +kernel) rfl (Nat.le_of_ble_eq_true rfl) (fun p e s m args below meth c C hlocks hr => m_X2_find_7_2_E C hlocks hr h)
abbrev rm_X2_isFull_7 : Room := { frames := 1, cells := 0, slots := 0, locals := 0 }
set_option maxRecDepth 100000 in
set_option maxHeartbeats 4000000 in
theorem m_X2_isFull_7_E {p : Program} {l : Launch} {e : Env} {s : State} {m : MethodId} {args : Array Value} {below : List Frame} {meth : Method} {c : Code} {D : va_G} {cA : Nat → ClassId} {ad : Nat → Nat} (C : Cx p s m args c cX2_isFull RX2 1 D cA shC ad zsC) (hlocks : meth.locks = false) (hr : meth.sig.returnType = (some .boolean)) {Q : Int → St → Prop} {σ : St} (h : wp_X2_isFull 7 384 32 Q σ) : G p l e rm_X2_isFull_7 s m args below meth c 0 0 1 D cA shC ad (QI D cA shC ad zsC below args s Q) σ [(0, .ref (ad 7))] [] 0 := by
  unfold wp_X2_isFull at h
  refine g_aload_n C 0 0 rfl rfl dX2_isFull_0 ?_
  refine g_get C iX2 (ci := 2) (o := 7) (v := vI (σ 7 3)) rfl rfl 3 (by decide) rfl tw_X2_22 dX2_isFull_1 ?_
  refine g_aload_n C 0 0 rfl rfl dX2_isFull_4 ?_
  refine g_get C iX2 (ci := 2) (o := 7) (v := .ref (ad 9)) rfl rfl 2 (by decide) rfl tw_X2_19 dX2_isFull_5 ?_
  refine g_alen C (o := 9) (N := 32) rfl rfl dX2_isFull_8 ?_
  refine g_icmp_lt C rfl rfl 16 (by decide) dX2_isFull_9 (fun hc => ?_) (fun hc => ?_)
  · have h := h.1 hc
    refine g_iconst C dX2_isFull_16 ?_
    exact g_zret C hlocks hr (by decide) h dX2_isFull_17
  · have h := h.2 hc
    refine g_iconst C dX2_isFull_12 ?_
    refine g_goto C 17 (by decide) dX2_isFull_13 ?_
    exact g_zret C hlocks hr (by decide) h dX2_isFull_17
set_option maxRecDepth 100000 in
set_option maxHeartbeats 4000000 in
theorem m_X2_isFull_7 (l : Launch) (D : va_G) (cA : Nat → ClassId) (ad : Nat → Nat) {Q : Int → St → Prop} {σ : St} (h : wp_X2_isFull 7 384 32 Q σ) : CtI l yX2_isFull (.code yX2_isFull cX2_isFull 1 (some .boolean)) rm_X2_isFull_7 D cA shC ad zsC [.ref (ad 7)] σ Q :=
  ct_I RX2 (by decide +kernel) rfl (Nat.le_of_ble_eq_true rfl) (fun p e s m args below meth c C hlocks hr => m_X2_isFull_7_E C hlocks hr h)
abbrev rm_X2_add_7_2 : Room := { frames := 2, cells := 0, slots := 0, locals := 40 }
set_option maxRecDepth 100000 in
set_option maxHeartbeats 4000000 in
theorem m_X2_add_7_2_E {p : Program} {l : Launch} {e : Env} {s : State} {m : MethodId} {args : Array Value} {below : List Frame} {meth : Method} {c : Code} {D : va_G} {cA : Nat → ClassId} {ad : Nat → Nat} (C : Cx p s m args c cX2_add RX2 4 D cA shC ad zsC) (hlocks : meth.locks = false) (hr : meth.sig.returnType = none) {Q : St → Prop} {a2 a3 : Int} {σ : St} (h : wp_X2_add 7 2 384 32 1000 a2 a3 Q σ) : G p l e rm_X2_add_7_2 s m args below meth c 0 0 4 D cA shC ad (QV D cA shC ad zsC below args s Q) σ [(0, .ref (ad 7)), (1, .ref (ad 2)), (2, vI a2), (3, vI a3)] [] 0 := by
  unfold wp_X2_add at h
  refine g_aload_n C 0 0 rfl rfl dX2_add_0 ?_
  refine g_callIv C (m_X2_isFull_7 l D cA ad h) hv_X2_isFull tw_X2_25 (o := 7) (ci := 2) (As := []) (st := []) rfl rfl rfl rfl ⟨Nat.le_of_ble_eq_true rfl, Nat.le_of_ble_eq_true rfl⟩ rfl rfl (Nat.le_of_ble_eq_true rfl) dX2_add_1 (fun r2 σ1 h => ?_)
  try dsimp only at h
  refine g_if_ne C rfl 17 (by decide) dX2_add_4 (fun hc => ?_) (fun hc => ?_)
  · have h := h.1 hc
    exact g_vret C hlocks hr h dX2_add_17
  · have h := h.2 hc
    refine g_iload_n C 3 3 rfl rfl dX2_add_7 ?_
    refine g_iload_n C 2 2 rfl rfl dX2_add_8 ?_
    refine g_isub C dX2_add_9 ?_
    refine g_aload_n C 0 0 rfl rfl dX2_add_10 ?_
    refine g_get C iX2 (ci := 2) (o := 7) (v := vI (σ1 7 0)) rfl rfl 0 (by decide) rfl tw_X2_9 dX2_add_11 ?_
    refine g_icmp_le C rfl rfl 18 (by decide) dX2_add_14 (fun hc => ?_) (fun hc => ?_)
    · have h := h.1 hc
      refine g_aload_n C 1 1 rfl rfl dX2_add_18 ?_
      refine g_iload_n C 2 2 rfl rfl dX2_add_19 ?_
      refine g_aload_n C 0 0 rfl rfl dX2_add_20 ?_
      refine g_get C iX2 (ci := 2) (o := 7) (v := .ref (ad 8)) rfl rfl 1 (by decide) rfl tw_X2_15 dX2_add_21 ?_
      refine g_aload_n C 0 0 rfl rfl dX2_add_24 ?_
      refine g_aload_n C 0 0 rfl rfl dX2_add_25 ?_
      refine g_get C iX2 (ci := 2) (o := 7) (v := vI (σ1 7 3)) rfl rfl 3 (by decide) rfl tw_X2_22 dX2_add_26 ?_
      refine g_callIv C (m_X2_begin_7 l D cA ad h) hv_X2_begin tw_X2_29 (o := 7) (ci := 2) (As := [vI (σ1 7 3)]) (st := [.ref (ad 8), vI a2, .ref (ad 2)]) rfl rfl rfl rfl ⟨Nat.le_of_ble_eq_true rfl, Nat.le_of_ble_eq_true rfl⟩ rfl rfl (Nat.le_of_ble_eq_true rfl) dX2_add_29 (fun r4 σ3 h => ?_)
      try dsimp only at h
      refine g_iload_n C 3 3 rfl rfl dX2_add_32 ?_
      refine g_iload_n C 2 2 rfl rfl dX2_add_33 ?_
      refine g_isub C dX2_add_34 ?_
      obtain ⟨hi, h⟩ := h
      refine g_copy C (o := 2) (o1 := 8) (N := 1000) (N1 := 384) rfl rfl rfl rfl (by decide) hi tw_X2_33 tw_cpN tw_cpS tw_cpI (Nat.le_of_ble_eq_true rfl) (Nat.le_of_ble_eq_true (by decide +kernel)) dX2_add_35 (fun σ5 eσ5 => ?_)
      have h := h σ5 eσ5
      refine g_aload_n C 0 0 rfl rfl dX2_add_38 ?_
      refine g_get C iX2 (ci := 2) (o := 7) (v := .ref (ad 9)) rfl rfl 2 (by decide) rfl tw_X2_19 dX2_add_39 ?_
      refine g_aload_n C 0 0 rfl rfl dX2_add_42 ?_
      refine g_get C iX2 (ci := 2) (o := 7) (v := vI (σ5 7 3)) rfl rfl 3 (by decide) rfl tw_X2_22 dX2_add_43 ?_
      refine g_iload_n C 3 3 rfl rfl dX2_add_46 ?_
      refine g_iload_n C 2 2 rfl rfl dX2_add_47 ?_
      refine g_isub C dX2_add_48 ?_
      obtain ⟨hi, h⟩ := h
      refine g_iast C (o := 9) (N := 32) rfl rfl hi rfl dX2_add_49 (fun σ6 eσ6 => ?_)
      have h := h σ6 eσ6
      refine g_aload_n C 0 0 rfl rfl dX2_add_50 ?_
      refine g_dup C rfl dX2_add_51 ?_
      refine g_get C iX2 (ci := 2) (o := 7) (v := vI (σ6 7 3)) rfl rfl 3 (by decide) rfl tw_X2_22 dX2_add_52 ?_
      refine g_iconst C dX2_add_55 ?_
      refine g_iadd C dX2_add_56 ?_
      refine g_put C iX2 (ci := 2) (o := 7) (z := ((σ6 7 3) + 1)) (ty := .int) rfl tyX2_ok nmX2 rfl 3 (by decide) rfl rfl tw_X2_22 rfl (by decide +kernel) rfl rfl dX2_add_57 (fun σ7 eσ7 => ?_)
      have h := h σ7 eσ7
      exact g_vret C hlocks hr h dX2_add_60
    · have h := h.2 hc
      exact g_vret C hlocks hr h dX2_add_17
set_option maxRecDepth 100000 in
set_option maxHeartbeats 4000000 in
theorem m_X2_add_7_2 (l : Launch) (D : va_G) (cA : Nat → ClassId) (ad : Nat → Nat) {a2 a3 : Int} {Q : St → Prop} {σ : St} (h : wp_X2_add 7 2 384 32 1000 a2 a3 Q σ) : CtV l yX2_add (.code yX2_add cX2_add 4 none) rm_X2_add_7_2 D cA shC ad zsC [.ref (ad 7), .ref (ad 2), vI a2, vI a3] σ Q :=
  ct_V RX2 (by decide +kernel) rfl (Nat.le_of_ble_eq_true rfl) (fun p e s m args below meth c C hlocks hr => m_X2_add_7_2_E C hlocks hr h)
abbrev rm_X5_takeName_7 : Room := { frames := 3, cells := 0, slots := 0, locals := 63 }
set_option maxRecDepth 100000 in
set_option maxHeartbeats 4000000 in
theorem m_X5_takeName_7_E {p : Program} {l : Launch} {e : Env} {s : State} {m : MethodId} {args : Array Value} {below : List Frame} {meth : Method} {c : Code} {D : va_G} {cA : Nat → ClassId} {ad : Nat → Nat} (C : Cx p s m args c cX5_takeName RX5 3 D cA shC ad zsC) (hlocks : meth.locks = false) (hr : meth.sig.returnType = (some .int)) {Q : Int → St → Prop} {σ : St} (h : wp_X5_takeName 7 384 32 Q σ) : G p l e rm_X5_takeName_7 s m args below meth c 0 0 3 D cA shC ad (QI D cA shC ad zsC below args s Q) σ [(0, .ref (ad 12)), (1, .ref (ad 7))] [] 0 := by
  unfold wp_X5_takeName at h
  refine g_aload_n C 1 1 rfl rfl dX5_takeName_0 ?_
  refine g_aload_n C 0 0 rfl rfl dX5_takeName_1 ?_
  refine g_get C iX5 (ci := 5) (o := 12) (v := .ref (ad 1)) rfl rfl 2 (by decide) rfl tw_X5_9 dX5_takeName_2 ?_
  refine g_get C iX4 (ci := 4) (o := 1) (v := .ref (ad 2)) rfl rfl 0 (by decide) rfl tw_X5_124 dX5_takeName_5 ?_
  refine g_aload_n C 0 0 rfl rfl dX5_takeName_8 ?_
  refine g_get C iX5 (ci := 5) (o := 12) (v := .ref (ad 1)) rfl rfl 2 (by decide) rfl tw_X5_9 dX5_takeName_9 ?_
  refine g_get C iX4 (ci := 4) (o := 1) (v := vI (σ 1 3)) rfl rfl 3 (by decide) rfl tw_X5_88 dX5_takeName_12 ?_
  refine g_aload_n C 0 0 rfl rfl dX5_takeName_15 ?_
  refine g_get C iX5 (ci := 5) (o := 12) (v := .ref (ad 1)) rfl rfl 2 (by decide) rfl tw_X5_9 dX5_takeName_16 ?_
  refine g_get C iX4 (ci := 4) (o := 1) (v := vI (σ 1 4)) rfl rfl 4 (by decide) rfl tw_X5_127 dX5_takeName_19 ?_
  refine g_callIv C (m_X2_find_7_2 l D cA ad h) hv_X2_find tw_X5_130 (o := 7) (ci := 2) (As := [.ref (ad 2), vI (σ 1 3), vI (σ 1 4)]) (st := []) rfl rfl rfl rfl ⟨Nat.le_of_ble_eq_true rfl, Nat.le_of_ble_eq_true rfl⟩ rfl rfl (Nat.le_of_ble_eq_true rfl) dX5_takeName_22 (fun r2 σ1 h => ?_)
  try dsimp only at h
  refine g_istore_n C 2 [(0, .ref (ad 12)), (1, .ref (ad 7))] rfl (by decide) rfl dX5_takeName_25 ?_
  refine g_iload_n C 0 2 rfl rfl dX5_takeName_26 ?_
  refine g_iconst C dX5_takeName_27 ?_
  refine g_icmp_ne C (y' := (-1)) rfl (by decide) 38 (by decide) dX5_takeName_28 (fun hc => ?_) (fun hc => ?_)
  · have h := h.1 hc
    refine g_iload_n C 0 2 rfl rfl dX5_takeName_38 ?_
    exact g_iret C hlocks hr h dX5_takeName_39
  · have h := h.2 hc
    refine g_aload_n C 2 1 rfl rfl dX5_takeName_31 ?_
    refine g_callIv C (m_X2_isFull_7 l D cA ad h) hv_X2_isFull tw_X5_134 (o := 7) (ci := 2) (As := []) (st := []) rfl rfl rfl rfl ⟨Nat.le_of_ble_eq_true rfl, Nat.le_of_ble_eq_true rfl⟩ rfl rfl (Nat.le_of_ble_eq_true rfl) dX5_takeName_32 (fun r4 σ3 h => ?_)
    try dsimp only at h
    refine g_if_eq C rfl 40 (by decide) dX5_takeName_35 (fun hc => ?_) (fun hc => ?_)
    · have h := h.1 hc
      refine g_aload_n C 2 1 rfl rfl dX5_takeName_40 ?_
      refine g_aload_n C 1 0 rfl rfl dX5_takeName_41 ?_
      refine g_get C iX5 (ci := 5) (o := 12) (v := .ref (ad 1)) rfl rfl 2 (by decide) rfl tw_X5_9 dX5_takeName_42 ?_
      refine g_get C iX4 (ci := 4) (o := 1) (v := .ref (ad 2)) rfl rfl 0 (by decide) rfl tw_X5_124 dX5_takeName_45 ?_
      refine g_aload_n C 1 0 rfl rfl dX5_takeName_48 ?_
      refine g_get C iX5 (ci := 5) (o := 12) (v := .ref (ad 1)) rfl rfl 2 (by decide) rfl tw_X5_9 dX5_takeName_49 ?_
      refine g_get C iX4 (ci := 4) (o := 1) (v := vI (σ3 1 3)) rfl rfl 3 (by decide) rfl tw_X5_88 dX5_takeName_52 ?_
      refine g_aload_n C 1 0 rfl rfl dX5_takeName_55 ?_
      refine g_get C iX5 (ci := 5) (o := 12) (v := .ref (ad 1)) rfl rfl 2 (by decide) rfl tw_X5_9 dX5_takeName_56 ?_
      refine g_get C iX4 (ci := 4) (o := 1) (v := vI (σ3 1 4)) rfl rfl 4 (by decide) rfl tw_X5_127 dX5_takeName_59 ?_
      refine g_callVv C (m_X2_add_7_2 l D cA ad h) hv_X2_add tw_X5_138 (o := 7) (ci := 2) (As := [.ref (ad 2), vI (σ3 1 3), vI (σ3 1 4)]) (st := []) rfl rfl rfl rfl ⟨Nat.le_of_ble_eq_true rfl, Nat.le_of_ble_eq_true rfl⟩ rfl rfl (Nat.le_of_ble_eq_true rfl) dX5_takeName_62 (fun σ5 h => ?_)
      try dsimp only at h
      refine g_aload_n C 2 1 rfl rfl dX5_takeName_65 ?_
      refine g_get C iX2 (ci := 2) (o := 7) (v := vI (σ5 7 3)) rfl rfl 3 (by decide) rfl tw_X5_25 dX5_takeName_66 ?_
      refine g_iconst C dX5_takeName_69 ?_
      refine g_isub C dX5_takeName_70 ?_
      exact g_iret C hlocks hr h dX5_takeName_71
    · have h := h.2 hc
      refine g_iload_n C 0 2 rfl rfl dX5_takeName_38 ?_
      exact g_iret C hlocks hr h dX5_takeName_39
set_option maxRecDepth 100000 in
set_option maxHeartbeats 4000000 in
theorem m_X5_takeName_7 (l : Launch) (D : va_G) (cA : Nat → ClassId) (ad : Nat → Nat) {Q : Int → St → Prop} {σ : St} (h : wp_X5_takeName 7 384 32 Q σ) : CtI l yX5_takeName (.code yX5_takeName cX5_takeName 3 (some .int)) rm_X5_takeName_7 D cA shC ad zsC [.ref (ad 12), .ref (ad 7)] σ Q :=
  ct_I RX5 (by decide +kernel) rfl (Nat.le_of_ble_eq_true rfl) (fun p e s m args below meth c C hlocks hr => m_X5_takeName_7_E C hlocks hr h)
abbrev rm_X5_takeNode : Room := { frames := 4, cells := 0, slots := 0, locals := 85 }
set_option maxRecDepth 100000 in
set_option maxHeartbeats 4000000 in
theorem m_X5_takeNode_B85 {p : Program} {l : Launch} {e : Env} {s : State} {m : MethodId} {args : Array Value} {below : List Frame} {meth : Method} {c : Code} {D : va_G} {cA : Nat → ClassId} {ad : Nat → Nat} (C : Cx p s m args c cX5_takeNode RX5 3 D cA shC ad zsC) (hlocks : meth.locks = false) (hr : meth.sig.returnType = (some .int)) {Q : Int → St → Prop} {x1 : Int} {σ : St} (h : wp_X5_takeNode_B85 x1 Q σ) : G p l e rm_X5_takeNode s m args below meth c 0 0 3 D cA shC ad (QI D cA shC ad zsC below args s Q) σ [(0, .ref (ad 12)), (1, vI x1)] [.ref (ad 4), .ref (ad 12)] 85 := by
  unfold wp_X5_takeNode_B85 at h
  refine g_callIv C (m_X5_takeName_4 l D cA ad h) hv_X5_takeName tw_X5_107 (o := 12) (ci := 5) (As := [.ref (ad 4)]) (st := []) rfl rfl rfl rfl ⟨Nat.le_of_ble_eq_true rfl, Nat.le_of_ble_eq_true rfl⟩ rfl rfl (Nat.le_of_ble_eq_true rfl) dX5_takeNode_85 (fun r2 σ1 h => ?_)
  try dsimp only at h
  refine g_istore_n C 2 [(0, .ref (ad 12)), (1, vI x1)] rfl (by decide) rfl dX5_takeNode_88 ?_
  refine g_iload_n C 0 2 rfl rfl dX5_takeNode_89 ?_
  refine g_iconst C dX5_takeNode_90 ?_
  refine g_icmp_ne C (y' := (-1)) rfl (by decide) 96 (by decide) dX5_takeNode_91 (fun hc => ?_) (fun hc => ?_)
  · have h := h.1 hc
    refine g_iload_n C 2 1 rfl rfl dX5_takeNode_96 ?_
    refine g_if_eq C rfl 114 (by decide) dX5_takeNode_97 (fun hc => ?_) (fun hc => ?_)
    · have h := h.1 hc
      refine g_aload_n C 1 0 rfl rfl dX5_takeNode_114 ?_
      refine g_iload_n C 0 2 rfl rfl dX5_takeNode_115 ?_
      refine g_put C iX5 (ci := 5) (o := 12) (z := r2) (ty := .int) rfl tyX5_ok nmX5 rfl 6 (by decide) rfl rfl tw_X5_115 rfl (by decide +kernel) rfl rfl dX5_takeNode_116 (fun σ3 eσ3 => ?_)
      have h := h σ3 eσ3
      refine g_aload_n C 1 0 rfl rfl dX5_takeNode_119 ?_
      refine g_aload_n C 1 0 rfl rfl dX5_takeNode_120 ?_
      refine g_get C iX5 (ci := 5) (o := 12) (v := .ref (ad 1)) rfl rfl 2 (by decide) rfl tw_X5_9 dX5_takeNode_121 ?_
      refine g_get C iX4 (ci := 4) (o := 1) (v := vI (σ3 1 3)) rfl rfl 3 (by decide) rfl tw_X5_88 dX5_takeNode_124 ?_
      refine g_put C iX5 (ci := 5) (o := 12) (z := (σ3 1 3)) (ty := .int) rfl tyX5_ok nmX5 rfl 7 (by decide) rfl rfl tw_X5_118 rfl (by decide +kernel) rfl rfl dX5_takeNode_127 (fun σ4 eσ4 => ?_)
      have h := h σ4 eσ4
      refine g_aload_n C 1 0 rfl rfl dX5_takeNode_130 ?_
      refine g_iconst C dX5_takeNode_131 ?_
      refine g_put C iX5 (ci := 5) (o := 12) (z := 0) (ty := .int) rfl tyX5_ok nmX5 rfl 8 (by decide) rfl rfl tw_X5_121 rfl (by decide +kernel) rfl rfl dX5_takeNode_132 (fun σ5 eσ5 => ?_)
      have h := h σ5 eσ5
      refine g_aload_n C 1 0 rfl rfl dX5_takeNode_135 ?_
      refine g_iconst C dX5_takeNode_136 ?_
      refine g_put C iX5 (ci := 5) (o := 12) (z := 1) (ty := .int) rfl tyX5_ok nmX5 rfl 4 (by decide) rfl rfl tw_X5_56 rfl (by decide +kernel) rfl rfl dX5_takeNode_137 (fun σ6 eσ6 => ?_)
      have h := h σ6 eσ6
      refine g_iconst C dX5_takeNode_140 ?_
      exact g_iret C hlocks hr h dX5_takeNode_141
    · have h := h.2 hc
      refine g_aload_n C 1 0 rfl rfl dX5_takeNode_100 ?_
      refine g_iconst C dX5_takeNode_101 ?_
      refine g_put C iX5 (ci := 5) (o := 12) (z := 1) (ty := .boolean) rfl tyX5_ok nmX5 rfl 12 (by decide) rfl rfl tw_X5_65 rfl (by decide +kernel) (nar_z (by decide)) (fit_z (by decide)) dX5_takeNode_102 (fun σ7 eσ7 => ?_)
      have h := h σ7 eσ7
      refine g_aload_n C 1 0 rfl rfl dX5_takeNode_105 ?_
      refine g_iconst C dX5_takeNode_106 ?_
      refine g_iload_n C 0 2 rfl rfl dX5_takeNode_107 ?_
      refine g_callVv C (m_X5_addLeaf l D cA ad h) hv_X5_addLeaf tw_X5_111 (o := 12) (ci := 5) (As := [vI 3, vI r2]) (st := []) rfl rfl rfl rfl ⟨Nat.le_of_ble_eq_true rfl, Nat.le_of_ble_eq_true rfl⟩ rfl rfl (Nat.le_of_ble_eq_true rfl) dX5_takeNode_108 (fun σ8 h => ?_)
      try dsimp only at h
      refine g_goto C 140 (by decide) dX5_takeNode_111 ?_
      refine g_iconst C dX5_takeNode_140 ?_
      exact g_iret C hlocks hr h dX5_takeNode_141
  · have h := h.2 hc
    refine g_iconst C dX5_takeNode_94 ?_
    exact g_iret C hlocks hr h dX5_takeNode_95
set_option maxRecDepth 100000 in
set_option maxHeartbeats 4000000 in
theorem m_X5_takeNode_B85_1 {p : Program} {l : Launch} {e : Env} {s : State} {m : MethodId} {args : Array Value} {below : List Frame} {meth : Method} {c : Code} {D : va_G} {cA : Nat → ClassId} {ad : Nat → Nat} (C : Cx p s m args c cX5_takeNode RX5 3 D cA shC ad zsC) (hlocks : meth.locks = false) (hr : meth.sig.returnType = (some .int)) {Q : Int → St → Prop} {x1 : Int} {σ : St} (h : wp_X5_takeNode_B85_1 x1 Q σ) : G p l e rm_X5_takeNode s m args below meth c 0 0 3 D cA shC ad (QI D cA shC ad zsC below args s Q) σ [(0, .ref (ad 12)), (1, vI x1)] [.ref (ad 7), .ref (ad 12)] 85 := by
  unfold wp_X5_takeNode_B85_1 at h
  refine g_callIv C (m_X5_takeName_7 l D cA ad h) hv_X5_takeName tw_X5_107 (o := 12) (ci := 5) (As := [.ref (ad 7)]) (st := []) rfl rfl rfl rfl ⟨Nat.le_of_ble_eq_true rfl, Nat.le_of_ble_eq_true rfl⟩ rfl rfl (Nat.le_of_ble_eq_true rfl) dX5_takeNode_85 (fun r2 σ1 h => ?_)
  try dsimp only at h
  refine g_istore_n C 2 [(0, .ref (ad 12)), (1, vI x1)] rfl (by decide) rfl dX5_takeNode_88 ?_
  refine g_iload_n C 0 2 rfl rfl dX5_takeNode_89 ?_
  refine g_iconst C dX5_takeNode_90 ?_
  refine g_icmp_ne C (y' := (-1)) rfl (by decide) 96 (by decide) dX5_takeNode_91 (fun hc => ?_) (fun hc => ?_)
  · have h := h.1 hc
    refine g_iload_n C 2 1 rfl rfl dX5_takeNode_96 ?_
    refine g_if_eq C rfl 114 (by decide) dX5_takeNode_97 (fun hc => ?_) (fun hc => ?_)
    · have h := h.1 hc
      refine g_aload_n C 1 0 rfl rfl dX5_takeNode_114 ?_
      refine g_iload_n C 0 2 rfl rfl dX5_takeNode_115 ?_
      refine g_put C iX5 (ci := 5) (o := 12) (z := r2) (ty := .int) rfl tyX5_ok nmX5 rfl 6 (by decide) rfl rfl tw_X5_115 rfl (by decide +kernel) rfl rfl dX5_takeNode_116 (fun σ3 eσ3 => ?_)
      have h := h σ3 eσ3
      refine g_aload_n C 1 0 rfl rfl dX5_takeNode_119 ?_
      refine g_aload_n C 1 0 rfl rfl dX5_takeNode_120 ?_
      refine g_get C iX5 (ci := 5) (o := 12) (v := .ref (ad 1)) rfl rfl 2 (by decide) rfl tw_X5_9 dX5_takeNode_121 ?_
      refine g_get C iX4 (ci := 4) (o := 1) (v := vI (σ3 1 3)) rfl rfl 3 (by decide) rfl tw_X5_88 dX5_takeNode_124 ?_
      refine g_put C iX5 (ci := 5) (o := 12) (z := (σ3 1 3)) (ty := .int) rfl tyX5_ok nmX5 rfl 7 (by decide) rfl rfl tw_X5_118 rfl (by decide +kernel) rfl rfl dX5_takeNode_127 (fun σ4 eσ4 => ?_)
      have h := h σ4 eσ4
      refine g_aload_n C 1 0 rfl rfl dX5_takeNode_130 ?_
      refine g_iconst C dX5_takeNode_131 ?_
      refine g_put C iX5 (ci := 5) (o := 12) (z := 0) (ty := .int) rfl tyX5_ok nmX5 rfl 8 (by decide) rfl rfl tw_X5_121 rfl (by decide +kernel) rfl rfl dX5_takeNode_132 (fun σ5 eσ5 => ?_)
      have h := h σ5 eσ5
      refine g_aload_n C 1 0 rfl rfl dX5_takeNode_135 ?_
      refine g_iconst C dX5_takeNode_136 ?_
      refine g_put C iX5 (ci := 5) (o := 12) (z := 1) (ty := .int) rfl tyX5_ok nmX5 rfl 4 (by decide) rfl rfl tw_X5_56 rfl (by decide +kernel) rfl rfl dX5_takeNode_137 (fun σ6 eσ6 => ?_)
      have h := h σ6 eσ6
      refine g_iconst C dX5_takeNode_140 ?_
      exact g_iret C hlocks hr h dX5_takeNode_141
    · have h := h.2 hc
      refine g_aload_n C 1 0 rfl rfl dX5_takeNode_100 ?_
      refine g_iconst C dX5_takeNode_101 ?_
      refine g_put C iX5 (ci := 5) (o := 12) (z := 1) (ty := .boolean) rfl tyX5_ok nmX5 rfl 12 (by decide) rfl rfl tw_X5_65 rfl (by decide +kernel) (nar_z (by decide)) (fit_z (by decide)) dX5_takeNode_102 (fun σ7 eσ7 => ?_)
      have h := h σ7 eσ7
      refine g_aload_n C 1 0 rfl rfl dX5_takeNode_105 ?_
      refine g_iconst C dX5_takeNode_106 ?_
      refine g_iload_n C 0 2 rfl rfl dX5_takeNode_107 ?_
      refine g_callVv C (m_X5_addLeaf l D cA ad h) hv_X5_addLeaf tw_X5_111 (o := 12) (ci := 5) (As := [vI 3, vI r2]) (st := []) rfl rfl rfl rfl ⟨Nat.le_of_ble_eq_true rfl, Nat.le_of_ble_eq_true rfl⟩ rfl rfl (Nat.le_of_ble_eq_true rfl) dX5_takeNode_108 (fun σ8 h => ?_)
      try dsimp only at h
      refine g_goto C 140 (by decide) dX5_takeNode_111 ?_
      refine g_iconst C dX5_takeNode_140 ?_
      exact g_iret C hlocks hr h dX5_takeNode_141
  · have h := h.2 hc
    refine g_iconst C dX5_takeNode_94 ?_
    exact g_iret C hlocks hr h dX5_takeNode_95
set_option maxRecDepth 100000 in
set_option maxHeartbeats 4000000 in
theorem m_X5_takeNode_B62 {p : Program} {l : Launch} {e : Env} {s : State} {m : MethodId} {args : Array Value} {below : List Frame} {meth : Method} {c : Code} {D : va_G} {cA : Nat → ClassId} {ad : Nat → Nat} (C : Cx p s m args c cX5_takeNode RX5 3 D cA shC ad zsC) (hlocks : meth.locks = false) (hr : meth.sig.returnType = (some .int)) {Q : Int → St → Prop} {y0 : Int} {σ : St} (h : wp_X5_takeNode_B62 y0 Q σ) : G p l e rm_X5_takeNode s m args below meth c 0 0 3 D cA shC ad (QI D cA shC ad zsC below args s Q) σ [(0, .ref (ad 12))] [vI y0] 62 := by
  unfold wp_X5_takeNode_B62 at h
  refine g_istore_n C 1 [(0, .ref (ad 12))] rfl (by decide) rfl dX5_takeNode_62 ?_
  refine g_aload_n C 1 0 rfl rfl dX5_takeNode_63 ?_
  refine g_iload_n C 0 1 rfl rfl dX5_takeNode_64 ?_
  refine g_if_eq C rfl 78 (by decide) dX5_takeNode_65 (fun hc => ?_) (fun hc => ?_)
  · have h := h.1 hc
    refine g_aload_n C 1 0 rfl rfl dX5_takeNode_78 ?_
    refine g_get C iX5 (ci := 5) (o := 12) (v := .ref (ad 3)) rfl rfl 3 (by decide) rfl tw_X5_15 dX5_takeNode_79 ?_
    refine g_get C iX1 (ci := 1) (o := 3) (v := .ref (ad 4)) rfl rfl 0 (by decide) rfl tw_X5_19 dX5_takeNode_82 ?_
    exact g_pick [1, 0] rfl (m_X5_takeNode_B85 C hlocks hr h)
  · have h := h.2 hc
    refine g_aload_n C 1 0 rfl rfl dX5_takeNode_68 ?_
    refine g_get C iX5 (ci := 5) (o := 12) (v := .ref (ad 3)) rfl rfl 3 (by decide) rfl tw_X5_15 dX5_takeNode_69 ?_
    refine g_get C iX1 (ci := 1) (o := 3) (v := .ref (ad 7)) rfl rfl 1 (by decide) rfl tw_X5_31 dX5_takeNode_72 ?_
    refine g_goto C 85 (by decide) dX5_takeNode_75 ?_
    exact g_pick [1, 0] rfl (m_X5_takeNode_B85_1 C hlocks hr h)
