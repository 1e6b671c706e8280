abbrev rm_X9_use : Room := { frames := 1, cells := 0, slots := 0, locals := 0 }
set_option maxRecDepth 100000 in
set_option maxHeartbeats 4000000 in
theorem m_X9_use_B32 {p : Program} {l : Launch} {e : Env} {s : State} {m : MethodId} {args : Array Value} {below : List Frame} {meth : Method} {c : Code} {D : va_G} {cA : Nat → ClassId} {ad : Nat → Nat} (C : Cx p s m args c cX9_use RX9 3 D cA shM ad zsM) (hlocks : meth.locks = false) (hr : meth.sig.returnType = (some .int)) {Q : Int → St → Prop} {x1 x2 y1 : Int} {σ : St} (h : wp_X9_use_B32 x1 x2 y1 Q σ) : G p l e rm_X9_use s m args below meth c 0 0 3 D cA shM ad (QI D cA shM ad zsM below args s Q) σ [(0, .ref (ad 0)), (1, vI x1), (2, vI x2)] [vI y1, .ref (ad 0)] 32 := by
  unfold wp_X9_use_B32 at h
  refine g_put C iX9 (ci := 9) (o := 0) (z := y1) (ty := .int) rfl tyX9_ok nmX9 rfl 0 (by decide) rfl rfl tw_X9_107 rfl (by decide +kernel) rfl rfl dX9_use_32 (fun σ1 eσ1 => ?_)
  have h := h σ1 eσ1
  refine g_aload_n C 0 0 rfl rfl dX9_use_35 ?_
  refine g_get C iX9 (ci := 9) (o := 0) (v := vI (σ1 0 0)) rfl rfl 0 (by decide) rfl tw_X9_107 dX9_use_36 ?_
  refine g_if_le C rfl 46 (by decide) dX9_use_39 (fun hc => ?_) (fun hc => ?_)
  · have h := h.1 hc
    refine g_aload_n C 0 0 rfl rfl dX9_use_46 ?_
    refine g_get C iX9 (ci := 9) (o := 0) (v := .ref (ad 23)) rfl rfl 41 (by decide) rfl tw_X9_86 dX9_use_47 ?_
    refine g_bipush C dX9_use_50 (by decide) ?_
    refine g_iload_n C 1 1 rfl rfl dX9_use_52 ?_
    refine g_imul C dX9_use_53 ?_
    refine g_iload_n C 2 2 rfl rfl dX9_use_54 ?_
    refine g_iadd C dX9_use_55 ?_
    obtain ⟨hi, h⟩ := h
    refine g_iald C (o := 23) (N := 70) rfl rfl hi rfl dX9_use_56 ?_
    exact g_iret C hlocks hr h dX9_use_57
  · have h := h.2 hc
    refine g_iconst C dX9_use_42 ?_
    refine g_goto C 57 (by decide) dX9_use_43 ?_
    exact g_iret C hlocks hr h dX9_use_57
set_option maxRecDepth 100000 in
set_option maxHeartbeats 4000000 in
theorem m_X9_use_B13 {p : Program} {l : Launch} {e : Env} {s : State} {m : MethodId} {args : Array Value} {below : List Frame} {meth : Method} {c : Code} {D : va_G} {cA : Nat → ClassId} {ad : Nat → Nat} (C : Cx p s m args c cX9_use RX9 3 D cA shM ad zsM) (hlocks : meth.locks = false) (hr : meth.sig.returnType = (some .int)) {Q : Int → St → Prop} {x1 x2 : Int} {σ : St} (h : wp_X9_use_B13 x1 x2 Q σ) : G p l e rm_X9_use s m args below meth c 0 0 3 D cA shM ad (QI D cA shM ad zsM below args s Q) σ [(0, .ref (ad 0)), (1, vI x1), (2, vI x2)] [.ref (ad 0)] 13 := by
  unfold wp_X9_use_B13 at h
  refine g_iconst C dX9_use_13 ?_
  refine g_goto C 32 (by decide) dX9_use_14 ?_
  exact g_pick [0, 1, 2] rfl (m_X9_use_B32 C hlocks hr h)
set_option maxRecDepth 100000 in
set_option maxHeartbeats 4000000 in
theorem m_X9_use_B27 {p : Program} {l : Launch} {e : Env} {s : State} {m : MethodId} {args : Array Value} {below : List Frame} {meth : Method} {c : Code} {D : va_G} {cA : Nat → ClassId} {ad : Nat → Nat} (C : Cx p s m args c cX9_use RX9 3 D cA shM ad zsM) (hlocks : meth.locks = false) (hr : meth.sig.returnType = (some .int)) {Q : Int → St → Prop} {x1 x2 : Int} {σ : St} (h : wp_X9_use_B27 x1 x2 Q σ) : G p l e rm_X9_use s m args below meth c 0 0 3 D cA shM ad (QI D cA shM ad zsM below args s Q) σ [(0, .ref (ad 0)), (1, vI x1), (2, vI x2)] [.ref (ad 0)] 27 := by
  unfold wp_X9_use_B27 at h
  refine g_iconst C dX9_use_27 ?_
  refine g_goto C 32 (by decide) dX9_use_28 ?_
  exact g_pick [0, 1, 2] rfl (m_X9_use_B32 C hlocks hr h)
set_option maxRecDepth 100000 in
set_option maxHeartbeats 4000000 in
theorem m_X9_use_E {p : Program} {l : Launch} {e : Env} {s : State} {m : MethodId} {args : Array Value} {below : List Frame} {meth : Method} {c : Code} {D : va_G} {cA : Nat → ClassId} {ad : Nat → Nat} (C : Cx p s m args c cX9_use RX9 3 D cA shM ad zsM) (hlocks : meth.locks = false) (hr : meth.sig.returnType = (some .int)) {Q : Int → St → Prop} {a1 a2 : Int} {σ : St} (h : wp_X9_use a1 a2 Q σ) : G p l e rm_X9_use s m args below meth c 0 0 3 D cA shM ad (QI D cA shM ad zsM below args s Q) σ [(0, .ref (ad 0)), (1, vI a1), (2, vI a2)] [] 0 := by
  unfold wp_X9_use at h
  refine g_aload_n C 0 0 rfl rfl dX9_use_0 ?_
  refine g_iload_n C 1 1 rfl rfl dX9_use_1 ?_
  refine g_if_lt C rfl 13 (by decide) dX9_use_2 (fun hc => ?_) (fun hc => ?_)
  · have h := h.1 hc
    exact g_pick [0, 1, 2] rfl (m_X9_use_B13 C hlocks hr h)
  · have h := h.2 hc
    refine g_iload_n C 1 1 rfl rfl dX9_use_5 ?_
    refine g_aload_n C 0 0 rfl rfl dX9_use_6 ?_
    refine g_get C iX9 (ci := 9) (o := 0) (v := vI (σ 0 42)) rfl rfl 42 (by decide) rfl tw_X9_214 dX9_use_7 ?_
    refine g_icmp_lt C rfl rfl 17 (by decide) dX9_use_10 (fun hc => ?_) (fun hc => ?_)
    · have h := h.1 hc
      refine g_iload_n C 2 2 rfl rfl dX9_use_17 ?_
      refine g_if_lt C rfl 27 (by decide) dX9_use_18 (fun hc => ?_) (fun hc => ?_)
      · have h := h.1 hc
        exact g_pick [0, 1, 2] rfl (m_X9_use_B27 C hlocks hr h)
      · have h := h.2 hc
        refine g_iload_n C 2 2 rfl rfl dX9_use_21 ?_
        refine g_bipush C dX9_use_22 (by decide) ?_
        refine g_icmp_le C (y' := 6) rfl (by decide) 31 (by decide) dX9_use_24 (fun hc => ?_) (fun hc => ?_)
        · have h := h.1 hc
          refine g_iconst C dX9_use_31 ?_
          exact g_pick [0, 1, 2] rfl (m_X9_use_B32 C hlocks hr h)
        · have h := h.2 hc
          exact g_pick [0, 1, 2] rfl (m_X9_use_B27 C hlocks hr h)
    · have h := h.2 hc
      exact g_pick [0, 1, 2] rfl (m_X9_use_B13 C hlocks hr h)
set_option maxRecDepth 100000 in
set_option maxHeartbeats 4000000 in
theorem m_X9_use (l : Launch) (D : va_G) (cA : Nat → ClassId) (ad : Nat → Nat) {a1 a2 : Int} {Q : Int → St → Prop} {σ : St} (h : wp_X9_use a1 a2 Q σ) : CtI l yX9_use (.code yX9_use cX9_use 3 (some .int)) rm_X9_use D cA shM ad zsM [.ref (ad 0), vI a1, vI a2] σ Q :=
  ct_I RX9 (by decide +kernel) rfl (Nat.le_of_ble_eq_true rfl) (fun p e s m args below meth c C hlocks hr => m_X9_use_E C hlocks hr h)
abbrev rm_X9_whole : Room := { frames := 1, cells := 0, slots := 0, locals := 0 }
set_option maxRecDepth 100000 in
set_option maxHeartbeats 4000000 in
theorem m_X9_whole_B31 {p : Program} {l : Launch} {e : Env} {s : State} {m : MethodId} {args : Array Value} {below : List Frame} {meth : Method} {c : Code} {D : va_G} {cA : Nat → ClassId} {ad : Nat → Nat} (C : Cx p s m args c cX9_whole RX9 3 D cA shM ad zsM) (hlocks : meth.locks = false) (hr : meth.sig.returnType = (some .int)) {Q : Int → St → Prop} {x1 x2 y1 : Int} {σ : St} (h : wp_X9_whole_B31 x1 x2 y1 Q σ) : G p l e rm_X9_whole s m args below meth c 0 0 3 D cA shM ad (QI D cA shM ad zsM below args s Q) σ [(0, .ref (ad 0)), (1, vI x1), (2, vI x2)] [vI y1, .ref (ad 0)] 31 := by
  unfold wp_X9_whole_B31 at h
  refine g_put C iX9 (ci := 9) (o := 0) (z := y1) (ty := .int) rfl tyX9_ok nmX9 rfl 0 (by decide) rfl rfl tw_X9_107 rfl (by decide +kernel) rfl rfl dX9_whole_31 (fun σ1 eσ1 => ?_)
  have h := h σ1 eσ1
  refine g_aload_n C 0 0 rfl rfl dX9_whole_34 ?_
  refine g_get C iX9 (ci := 9) (o := 0) (v := vI (σ1 0 0)) rfl rfl 0 (by decide) rfl tw_X9_107 dX9_whole_35 ?_
  refine g_if_le C rfl 45 (by decide) dX9_whole_38 (fun hc => ?_) (fun hc => ?_)
  · have h := h.1 hc
    refine g_aload_n C 0 0 rfl rfl dX9_whole_45 ?_
    refine g_get C iX9 (ci := 9) (o := 0) (v := .ref (ad 29)) rfl rfl 49 (by decide) rfl tw_X9_104 dX9_whole_46 ?_
    refine g_bipush C dX9_whole_49 (by decide) ?_
    refine g_iload_n C 1 1 rfl rfl dX9_whole_51 ?_
    refine g_imul C dX9_whole_52 ?_
    refine g_iload_n C 2 2 rfl rfl dX9_whole_53 ?_
    refine g_iadd C dX9_whole_54 ?_
    obtain ⟨hi, h⟩ := h
    refine g_iald C (o := 29) (N := 720) rfl rfl hi rfl dX9_whole_55 ?_
    exact g_iret C hlocks hr h dX9_whole_56
  · have h := h.2 hc
    refine g_iconst C dX9_whole_41 ?_
    refine g_goto C 56 (by decide) dX9_whole_42 ?_
    exact g_iret C hlocks hr h dX9_whole_56
set_option maxRecDepth 100000 in
set_option maxHeartbeats 4000000 in
theorem m_X9_whole_B13 {p : Program} {l : Launch} {e : Env} {s : State} {m : MethodId} {args : Array Value} {below : List Frame} {meth : Method} {c : Code} {D : va_G} {cA : Nat → ClassId} {ad : Nat → Nat} (C : Cx p s m args c cX9_whole RX9 3 D cA shM ad zsM) (hlocks : meth.locks = false) (hr : meth.sig.returnType = (some .int)) {Q : Int → St → Prop} {x1 x2 : Int} {σ : St} (h : wp_X9_whole_B13 x1 x2 Q σ) : G p l e rm_X9_whole s m args below meth c 0 0 3 D cA shM ad (QI D cA shM ad zsM below args s Q) σ [(0, .ref (ad 0)), (1, vI x1), (2, vI x2)] [.ref (ad 0)] 13 := by
  unfold wp_X9_whole_B13 at h
  refine g_iconst C dX9_whole_13 ?_
  refine g_goto C 31 (by decide) dX9_whole_14 ?_
  exact g_pick [0, 1, 2] rfl (m_X9_whole_B31 C hlocks hr h)
set_option maxRecDepth 100000 in
set_option maxHeartbeats 4000000 in
theorem m_X9_whole_B26 {p : Program} {l : Launch} {e : Env} {s : State} {m : MethodId} {args : Array Value} {below : List Frame} {meth : Method} {c : Code} {D : va_G} {cA : Nat → ClassId} {ad : Nat → Nat} (C : Cx p s m args c cX9_whole RX9 3 D cA shM ad zsM) (hlocks : meth.locks = false) (hr : meth.sig.returnType = (some .int)) {Q : Int → St → Prop} {x1 x2 : Int} {σ : St} (h : wp_X9_whole_B26 x1 x2 Q σ) : G p l e rm_X9_whole s m args below meth c 0 0 3 D cA shM ad (QI D cA shM ad zsM below args s Q) σ [(0, .ref (ad 0)), (1, vI x1), (2, vI x2)] [.ref (ad 0)] 26 := by
  unfold wp_X9_whole_B26 at h
  refine g_iconst C dX9_whole_26 ?_
  refine g_goto C 31 (by decide) dX9_whole_27 ?_
  exact g_pick [0, 1, 2] rfl (m_X9_whole_B31 C hlocks hr h)
set_option maxRecDepth 100000 in
set_option maxHeartbeats 4000000 in
theorem m_X9_whole_E {p : Program} {l : Launch} {e : Env} {s : State} {m : MethodId} {args : Array Value} {below : List Frame} {meth : Method} {c : Code} {D : va_G} {cA : Nat → ClassId} {ad : Nat → Nat} (C : Cx p s m args c cX9_whole RX9 3 D cA shM ad zsM) (hlocks : meth.locks = false) (hr : meth.sig.returnType = (some .int)) {Q : Int → St → Prop} {a1 a2 : Int} {σ : St} (h : wp_X9_whole a1 a2 Q σ) : G p l e rm_X9_whole s m args below meth c 0 0 3 D cA shM ad (QI D cA shM ad zsM below args s Q) σ [(0, .ref (ad 0)), (1, vI a1), (2, vI a2)] [] 0 := by
  unfold wp_X9_whole at h
  refine g_aload_n C 0 0 rfl rfl dX9_whole_0 ?_
  refine g_iload_n C 1 1 rfl rfl dX9_whole_1 ?_
  refine g_if_lt C rfl 13 (by decide) dX9_whole_2 (fun hc => ?_) (fun hc => ?_)
  · have h := h.1 hc
    exact g_pick [0, 1, 2] rfl (m_X9_whole_B13 C hlocks hr h)
  · have h := h.2 hc
    refine g_iload_n C 1 1 rfl rfl dX9_whole_5 ?_
    refine g_aload_n C 0 0 rfl rfl dX9_whole_6 ?_
    refine g_get C iX9 (ci := 9) (o := 0) (v := vI (σ 0 50)) rfl rfl 50 (by decide) rfl tw_X9_217 dX9_whole_7 ?_
    refine g_icmp_lt C rfl rfl 17 (by decide) dX9_whole_10 (fun hc => ?_) (fun hc => ?_)
    · have h := h.1 hc
      refine g_iload_n C 2 2 rfl rfl dX9_whole_17 ?_
      refine g_if_lt C rfl 26 (by decide) dX9_whole_18 (fun hc => ?_) (fun hc => ?_)
      · have h := h.1 hc
        exact g_pick [0, 1, 2] rfl (m_X9_whole_B26 C hlocks hr h)
      · have h := h.2 hc
        refine g_iload_n C 2 2 rfl rfl dX9_whole_21 ?_
        refine g_iconst C dX9_whole_22 ?_
        refine g_icmp_le C (y' := 5) rfl (by decide) 30 (by decide) dX9_whole_23 (fun hc => ?_) (fun hc => ?_)
        · have h := h.1 hc
          refine g_iconst C dX9_whole_30 ?_
          exact g_pick [0, 1, 2] rfl (m_X9_whole_B31 C hlocks hr h)
        · have h := h.2 hc
          exact g_pick [0, 1, 2] rfl (m_X9_whole_B26 C hlocks hr h)
    · have h := h.2 hc
      exact g_pick [0, 1, 2] rfl (m_X9_whole_B13 C hlocks hr h)
set_option maxRecDepth 100000 in
set_option maxHeartbeats 4000000 in
theorem m_X9_whole (l : Launch) (D : va_G) (cA : Nat → ClassId) (ad : Nat → Nat) {a1 a2 : Int} {Q : Int → St → Prop} {σ : St} (h : wp_X9_whole a1 a2 Q σ) : CtI l yX9_whole (.code yX9_whole cX9_whole 3 (some .int)) rm_X9_whole D cA shM ad zsM [.ref (ad 0), vI a1, vI a2] σ Q :=
  ct_I RX9 (by decide +kernel) rfl (Nat.le_of_ble_eq_true rfl) (fun p e s m args below meth c C hlocks hr => m_X9_whole_E C hlocks hr h)
abbrev rm_X9_node : Room := { frames := 1, cells := 0, slots := 0, locals := 0 }
set_option maxRecDepth 100000 in
set_option maxHeartbeats 4000000 in
theorem m_X9_node_B45 {p : Program} {l : Launch} {e : Env} {s : State} {m : MethodId} {args : Array Value} {below : List Frame} {meth : Method} {c : Code} {D : va_G} {cA : Nat → ClassId} {ad : Nat → Nat} (C : Cx p s m args c cX9_node RX9 5 D cA shM ad zsM) (hlocks : meth.locks = false) (hr : meth.sig.returnType = (some .int)) {Q : Int → St → Prop} {x1 x2 x3 y1 : Int} {σ : St} (h : wp_X9_node_B45 x1 x2 x3 y1 Q σ) : G p l e rm_X9_node s m args below meth c 0 0 5 D cA shM ad (QI D cA shM ad zsM below args s Q) σ [(0, .ref (ad 0)), (1, vI x1), (2, vI x2), (3, vI x3)] [vI y1, .ref (ad 0)] 45 := by
  unfold wp_X9_node_B45 at h
  refine g_put C iX9 (ci := 9) (o := 0) (z := y1) (ty := .int) rfl tyX9_ok nmX9 rfl 0 (by decide) rfl rfl tw_X9_107 rfl (by decide +kernel) rfl rfl dX9_node_45 (fun σ1 eσ1 => ?_)
  have h := h σ1 eσ1
  refine g_aload_n C 0 0 rfl rfl dX9_node_48 ?_
  refine g_get C iX9 (ci := 9) (o := 0) (v := vI (σ1 0 0)) rfl rfl 0 (by decide) rfl tw_X9_107 dX9_node_49 ?_
  refine g_if_le C rfl 57 (by decide) dX9_node_52 (fun hc => ?_) (fun hc => ?_)
  · have h := h.1 hc
    refine g_bipush C dX9_node_57 (by decide) ?_
    refine g_iload_n C 1 1 rfl rfl dX9_node_59 ?_
    refine g_imul C dX9_node_60 ?_
    refine g_iload_n C 2 2 rfl rfl dX9_node_61 ?_
    refine g_iadd C dX9_node_62 ?_
    refine g_name (fun x_2 ex_2 => ?_)
    have h := h x_2 ex_2
    refine g_istore C 4 [(0, .ref (ad 0)), (1, vI x1), (2, vI x2), (3, vI x3)] (by decide) rfl dX9_node_63 ?_
    refine g_iload_n C 4 3 rfl rfl dX9_node_65 ?_
    refine g_if_ne C rfl 79 (by decide) dX9_node_66 (fun hc => ?_) (fun hc => ?_)
    · have h := h.1 hc
      refine g_iload_n C 4 3 rfl rfl dX9_node_79 ?_
      refine g_iconst C dX9_node_80 ?_
      refine g_icmp_ne C (y' := 1) rfl (by decide) 94 (by decide) dX9_node_81 (fun hc => ?_) (fun hc => ?_)
      · have h := h.1 hc
        refine g_iload_n C 4 3 rfl rfl dX9_node_94 ?_
        refine g_iconst C dX9_node_95 ?_
        refine g_icmp_ne C (y' := 2) rfl (by decide) 109 (by decide) dX9_node_96 (fun hc => ?_) (fun hc => ?_)
        · have h := h.1 hc
          refine g_iload_n C 4 3 rfl rfl dX9_node_109 ?_
          refine g_iconst C dX9_node_110 ?_
          refine g_icmp_ne C (y' := 3) rfl (by decide) 124 (by decide) dX9_node_111 (fun hc => ?_) (fun hc => ?_)
          · have h := h.1 hc
            refine g_aload_n C 1 0 rfl rfl dX9_node_124 ?_
            refine g_get C iX9 (ci := 9) (o := 0) (v := .ref (ad 10)) rfl rfl 15 (by decide) rfl tw_X9_38 dX9_node_125 ?_
            refine g_iload C 0 4 rfl dX9_node_128 ?_
            obtain ⟨hi, h⟩ := h
            refine g_iald C (o := 10) (N := 204) rfl rfl hi rfl dX9_node_130 ?_
            exact g_iret C hlocks hr h dX9_node_131
          · have h := h.2 hc
            refine g_aload_n C 1 0 rfl rfl dX9_node_114 ?_
            refine g_get C iX9 (ci := 9) (o := 0) (v := .ref (ad 9)) rfl rfl 14 (by decide) rfl tw_X9_35 dX9_node_115 ?_
            refine g_iload C 0 4 rfl dX9_node_118 ?_
            obtain ⟨hi, h⟩ := h
            refine g_iald C (o := 9) (N := 204) rfl rfl hi rfl dX9_node_120 ?_
            refine g_goto C 131 (by decide) dX9_node_121 ?_
            exact g_iret C hlocks hr h dX9_node_131
        · have h := h.2 hc
          refine g_aload_n C 1 0 rfl rfl dX9_node_99 ?_
          refine g_get C iX9 (ci := 9) (o := 0) (v := .ref (ad 8)) rfl rfl 13 (by decide) rfl tw_X9_32 dX9_node_100 ?_
          refine g_iload C 0 4 rfl dX9_node_103 ?_
          obtain ⟨hi, h⟩ := h
          refine g_iald C (o := 8) (N := 204) rfl rfl hi rfl dX9_node_105 ?_
          refine g_goto C 131 (by decide) dX9_node_106 ?_
          exact g_iret C hlocks hr h dX9_node_131
      · have h := h.2 hc
        refine g_aload_n C 1 0 rfl rfl dX9_node_84 ?_
        refine g_get C iX9 (ci := 9) (o := 0) (v := .ref (ad 7)) rfl rfl 12 (by decide) rfl tw_X9_29 dX9_node_85 ?_
        refine g_iload C 0 4 rfl dX9_node_88 ?_
        obtain ⟨hi, h⟩ := h
        refine g_iald C (o := 7) (N := 204) rfl rfl hi rfl dX9_node_90 ?_
        refine g_goto C 131 (by decide) dX9_node_91 ?_
        exact g_iret C hlocks hr h dX9_node_131
    · have h := h.2 hc
      refine g_aload_n C 1 0 rfl rfl dX9_node_69 ?_
      refine g_get C iX9 (ci := 9) (o := 0) (v := .ref (ad 6)) rfl rfl 11 (by decide) rfl tw_X9_26 dX9_node_70 ?_
      refine g_iload C 0 4 rfl dX9_node_73 ?_
      obtain ⟨hi, h⟩ := h
      refine g_iald C (o := 6) (N := 204) rfl rfl hi rfl dX9_node_75 ?_
      refine g_goto C 131 (by decide) dX9_node_76 ?_
      exact g_iret C hlocks hr h dX9_node_131
  · have h := h.2 hc
    refine g_iconst C dX9_node_55 ?_
    exact g_iret C hlocks hr h dX9_node_56
set_option maxRecDepth 100000 in
set_option maxHeartbeats 4000000 in
theorem m_X9_node_B27 {p : Program} {l : Launch} {e : Env} {s : State} {m : MethodId} {args : Array Value} {below : List Frame} {meth : Method} {c : Code} {D : va_G} {cA : Nat → ClassId} {ad : Nat → Nat} (C : Cx p s m args c cX9_node RX9 5 D cA shM ad zsM) (hlocks : meth.locks = false) (hr : meth.sig.returnType = (some .int)) {Q : Int → St → Prop} {x1 x2 x3 : Int} {σ : St} (h : wp_X9_node_B27 x1 x2 x3 Q σ) : G p l e rm_X9_node s m args below meth c 0 0 5 D cA shM ad (QI D cA shM ad zsM below args s Q) σ [(0, .ref (ad 0)), (1, vI x1), (2, vI x2), (3, vI x3)] [.ref (ad 0)] 27 := by
  unfold wp_X9_node_B27 at h
  refine g_iconst C dX9_node_27 ?_
  refine g_goto C 45 (by decide) dX9_node_28 ?_
  exact g_pick [0, 1, 2, 3] rfl (m_X9_node_B45 C hlocks hr h)
set_option maxRecDepth 100000 in
set_option maxHeartbeats 4000000 in
theorem m_X9_node_B40 {p : Program} {l : Launch} {e : Env} {s : State} {m : MethodId} {args : Array Value} {below : List Frame} {meth : Method} {c : Code} {D : va_G} {cA : Nat → ClassId} {ad : Nat → Nat} (C : Cx p s m args c cX9_node RX9 5 D cA shM ad zsM) (hlocks : meth.locks = false) (hr : meth.sig.returnType = (some .int)) {Q : Int → St → Prop} {x1 x2 x3 : Int} {σ : St} (h : wp_X9_node_B40 x1 x2 x3 Q σ) : G p l e rm_X9_node s m args below meth c 0 0 5 D cA shM ad (QI D cA shM ad zsM below args s Q) σ [(0, .ref (ad 0)), (1, vI x1), (2, vI x2), (3, vI x3)] [.ref (ad 0)] 40 := by
  unfold wp_X9_node_B40 at h
  refine g_iconst C dX9_node_40 ?_
  refine g_goto C 45 (by decide) dX9_node_41 ?_
  exact g_pick [0, 1, 2, 3] rfl (m_X9_node_B45 C hlocks hr h)
set_option maxRecDepth 100000 in
set_option maxHeartbeats 4000000 in
theorem m_X9_node_E {p : Program} {l : Launch} {e : Env} {s : State} {m : MethodId} {args : Array Value} {below : List Frame} {meth : Method} {c : Code} {D : va_G} {cA : Nat → ClassId} {ad : Nat → Nat} (C : Cx p s m args c cX9_node RX9 5 D cA shM ad zsM) (hlocks : meth.locks = false) (hr : meth.sig.returnType = (some .int)) {Q : Int → St → Prop} {a1 a2 a3 : Int} {σ : St} (h : wp_X9_node a1 a2 a3 Q σ) : G p l e rm_X9_node s m args below meth c 0 0 5 D cA shM ad (QI D cA shM ad zsM below args s Q) σ [(0, .ref (ad 0)), (1, vI a1), (2, vI a2), (3, vI a3)] [] 0 := by
  unfold wp_X9_node at h
  refine g_aload_n C 0 0 rfl rfl dX9_node_0 ?_
  refine g_iload_n C 1 1 rfl rfl dX9_node_1 ?_
  refine g_if_lt C rfl 27 (by decide) dX9_node_2 (fun hc => ?_) (fun hc => ?_)
  · have h := h.1 hc
    exact g_pick [0, 1, 2, 3] rfl (m_X9_node_B27 C hlocks hr h)
  · have h := h.2 hc
    refine g_iload_n C 1 1 rfl rfl dX9_node_5 ?_
    refine g_aload_n C 0 0 rfl rfl dX9_node_6 ?_
    refine g_get C iX9 (ci := 9) (o := 0) (v := vI (σ 0 23)) rfl rfl 23 (by decide) rfl tw_X9_154 dX9_node_7 ?_
    refine g_icmp_ge C rfl rfl 27 (by decide) dX9_node_10 (fun hc => ?_) (fun hc => ?_)
    · have h := h.1 hc
      exact g_pick [0, 1, 2, 3] rfl (m_X9_node_B27 C hlocks hr h)
    · have h := h.2 hc
      refine g_iload_n C 2 2 rfl rfl dX9_node_13 ?_
      refine g_if_lt C rfl 27 (by decide) dX9_node_14 (fun hc => ?_) (fun hc => ?_)
      · have h := h.1 hc
        exact g_pick [0, 1, 2, 3] rfl (m_X9_node_B27 C hlocks hr h)
      · have h := h.2 hc
        refine g_iload_n C 2 2 rfl rfl dX9_node_17 ?_
        refine g_aload_n C 0 0 rfl rfl dX9_node_18 ?_
        refine g_get C iX9 (ci := 9) (o := 0) (v := .ref (ad 17)) rfl rfl 22 (by decide) rfl tw_X9_60 dX9_node_19 ?_
        refine g_iload_n C 1 1 rfl rfl dX9_node_22 ?_
        obtain ⟨hi, h⟩ := h
        refine g_iald C (o := 17) (N := 17) rfl rfl hi rfl dX9_node_23 ?_
        refine g_icmp_lt C rfl rfl 31 (by decide) dX9_node_24 (fun hc => ?_) (fun hc => ?_)
        · have h := h.1 hc
          refine g_iload_n C 3 3 rfl rfl dX9_node_31 ?_
          refine g_if_lt C rfl 40 (by decide) dX9_node_32 (fun hc => ?_) (fun hc => ?_)
          · have h := h.1 hc
            exact g_pick [0, 1, 2, 3] rfl (m_X9_node_B40 C hlocks hr h)
          · have h := h.2 hc
            refine g_iload_n C 3 3 rfl rfl dX9_node_35 ?_
            refine g_iconst C dX9_node_36 ?_
            refine g_icmp_le C (y' := 4) rfl (by decide) 44 (by decide) dX9_node_37 (fun hc => ?_) (fun hc => ?_)
            · have h := h.1 hc
              refine g_iconst C dX9_node_44 ?_
              exact g_pick [0, 1, 2, 3] rfl (m_X9_node_B45 C hlocks hr h)
            · have h := h.2 hc
              exact g_pick [0, 1, 2, 3] rfl (m_X9_node_B40 C hlocks hr h)
        · have h := h.2 hc
          exact g_pick [0, 1, 2, 3] rfl (m_X9_node_B27 C hlocks hr h)
set_option maxRecDepth 100000 in
set_option maxHeartbeats 4000000 in
theorem m_X9_node (l : Launch) (D : va_G) (cA : Nat → ClassId) (ad : Nat → Nat) {a1 a2 a3 : Int} {Q : Int → St → Prop} {σ : St} (h : wp_X9_node a1 a2 a3 Q σ) : CtI l yX9_node (.code yX9_node cX9_node 5 (some .int)) rm_X9_node D cA shM ad zsM [.ref (ad 0), vI a1, vI a2, vI a3] σ Q :=
  ct_I RX9 (by decide +kernel) rfl (Nat.le_of_ble_eq_true rfl) (fun p e s m args below meth c C hlocks hr => m_X9_node_E C hlocks hr h)
abbrev rm_X9_letter : Room := { frames := 1, cells := 0, slots := 0, locals := 0 }
set_option maxRecDepth 100000 in
set_option maxHeartbeats 4000000 in
theorem m_X9_letter_B69 {p : Program} {l : Launch} {e : Env} {s : State} {m : MethodId} {args : Array Value} {below : List Frame} {meth : Method} {c : Code} {D : va_G} {cA : Nat → ClassId} {ad : Nat → Nat} (C : Cx p s m args c cX9_letter RX9 5 D cA shM ad zsM) (hlocks : meth.locks = false) (hr : meth.sig.returnType = (some .int)) {Q : Int → St → Prop} {x1 x2 x3 y1 : Int} {σ : St} (h : wp_X9_letter_B69 x1 x2 x3 y1 Q σ) : G p l e rm_X9_letter s m args below meth c 0 0 5 D cA shM ad (QI D cA shM ad zsM below args s Q) σ [(0, .ref (ad 0)), (1, vI x1), (2, vI x2), (3, vI x3)] [vI y1, .ref (ad 0)] 69 := by
  unfold wp_X9_letter_B69 at h
  refine g_put C iX9 (ci := 9) (o := 0) (z := y1) (ty := .int) rfl tyX9_ok nmX9 rfl 0 (by decide) rfl rfl tw_X9_107 rfl (by decide +kernel) rfl rfl dX9_letter_69 (fun σ1 eσ1 => ?_)
  have h := h σ1 eσ1
  refine g_aload_n C 0 0 rfl rfl dX9_letter_72 ?_
  refine g_get C iX9 (ci := 9) (o := 0) (v := vI (σ1 0 0)) rfl rfl 0 (by decide) rfl tw_X9_107 dX9_letter_73 ?_
  refine g_if_le C rfl 83 (by decide) dX9_letter_76 (fun hc => ?_) (fun hc => ?_)
  · have h := h.1 hc
    refine g_iload_n C 1 1 rfl rfl dX9_letter_83 ?_
    refine g_if_eq C rfl 101 (by decide) dX9_letter_84 (fun hc => ?_) (fun hc => ?_)
    · have h := h.1 hc
      refine g_aload_n C 0 0 rfl rfl dX9_letter_101 ?_
      refine g_get C iX9 (ci := 9) (o := 0) (v := .ref (ad 2)) rfl rfl 5 (by decide) rfl tw_X9_13 dX9_letter_102 ?_
      refine g_bipush C dX9_letter_105 (by decide) ?_
      refine g_iload_n C 2 2 rfl rfl dX9_letter_107 ?_
      refine g_imul C dX9_letter_108 ?_
      refine g_iload_n C 3 3 rfl rfl dX9_letter_109 ?_
      refine g_iadd C dX9_letter_110 ?_
      obtain ⟨hi, h⟩ := h
      refine g_bald C (o := 2) (N := 136) rfl rfl hi rfl dX9_letter_111 ?_
      exact g_iret C hlocks hr h dX9_letter_112
    · have h := h.2 hc
      refine g_aload_n C 0 0 rfl rfl dX9_letter_87 ?_
      refine g_get C iX9 (ci := 9) (o := 0) (v := .ref (ad 4)) rfl rfl 8 (by decide) rfl tw_X9_20 dX9_letter_88 ?_
      refine g_bipush C dX9_letter_91 (by decide) ?_
      refine g_iload_n C 2 2 rfl rfl dX9_letter_93 ?_
      refine g_imul C dX9_letter_94 ?_
      refine g_iload_n C 3 3 rfl rfl dX9_letter_95 ?_
      refine g_iadd C dX9_letter_96 ?_
      obtain ⟨hi, h⟩ := h
      refine g_bald C (o := 4) (N := 396) rfl rfl hi rfl dX9_letter_97 ?_
      refine g_goto C 112 (by decide) dX9_letter_98 ?_
      exact g_iret C hlocks hr h dX9_letter_112
  · have h := h.2 hc
    refine g_iconst C dX9_letter_79 ?_
    refine g_goto C 112 (by decide) dX9_letter_80 ?_
    exact g_iret C hlocks hr h dX9_letter_112
set_option maxRecDepth 100000 in
set_option maxHeartbeats 4000000 in
theorem m_X9_letter_B56 {p : Program} {l : Launch} {e : Env} {s : State} {m : MethodId} {args : Array Value} {below : List Frame} {meth : Method} {c : Code} {D : va_G} {cA : Nat → ClassId} {ad : Nat → Nat} (C : Cx p s m args c cX9_letter RX9 5 D cA shM ad zsM) (hlocks : meth.locks = false) (hr : meth.sig.returnType = (some .int)) {Q : Int → St → Prop} {x1 x2 x3 y0 : Int} {σ : St} (h : wp_X9_letter_B56 x1 x2 x3 y0 Q σ) : G p l e rm_X9_letter s m args below meth c 0 0 5 D cA shM ad (QI D cA shM ad zsM below args s Q) σ [(0, .ref (ad 0)), (1, vI x1), (2, vI x2), (3, vI x3)] [vI y0] 56 := by
  unfold wp_X9_letter_B56 at h
  refine g_istore C 4 [(0, .ref (ad 0)), (1, vI x1), (2, vI x2), (3, vI x3)] (by decide) rfl dX9_letter_56 ?_
  refine g_aload_n C 1 0 rfl rfl dX9_letter_58 ?_
  refine g_iload C 0 4 rfl dX9_letter_59 ?_
  refine g_if_eq C rfl 68 (by decide) dX9_letter_61 (fun hc => ?_) (fun hc => ?_)
  · have h := h.1 hc
    refine g_iconst C dX9_letter_68 ?_
    exact g_pick [1, 2, 3, 4] rfl (m_X9_letter_B69 C hlocks hr h)
  · have h := h.2 hc
    refine g_iconst C dX9_letter_64 ?_
    refine g_goto C 69 (by decide) dX9_letter_65 ?_
    exact g_pick [1, 2, 3, 4] rfl (m_X9_letter_B69 C hlocks hr h)
set_option maxRecDepth 100000 in
set_option maxHeartbeats 4000000 in
theorem m_X9_letter_B51 {p : Program} {l : Launch} {e : Env} {s : State} {m : MethodId} {args : Array Value} {below : List Frame} {meth : Method} {c : Code} {D : va_G} {cA : Nat → ClassId} {ad : Nat → Nat} (C : Cx p s m args c cX9_letter RX9 5 D cA shM ad zsM) (hlocks : meth.locks = false) (hr : meth.sig.returnType = (some .int)) {Q : Int → St → Prop} {x1 x2 x3 : Int} {σ : St} (h : wp_X9_letter_B51 x1 x2 x3 Q σ) : G p l e rm_X9_letter s m args below meth c 0 0 5 D cA shM ad (QI D cA shM ad zsM below args s Q) σ [(0, .ref (ad 0)), (1, vI x1), (2, vI x2), (3, vI x3)] [] 51 := by
  unfold wp_X9_letter_B51 at h
  refine g_iconst C dX9_letter_51 ?_
  refine g_goto C 56 (by decide) dX9_letter_52 ?_
  exact g_pick [0, 1, 2, 3] rfl (m_X9_letter_B56 C hlocks hr h)
set_option maxRecDepth 100000 in
set_option maxHeartbeats 4000000 in
theorem m_X9_letter_B55 {p : Program} {l : Launch} {e : Env} {s : State} {m : MethodId} {args : Array Value} {below : List Frame} {meth : Method} {c : Code} {D : va_G} {cA : Nat → ClassId} {ad : Nat → Nat} (C : Cx p s m args c cX9_letter RX9 5 D cA shM ad zsM) (hlocks : meth.locks = false) (hr : meth.sig.returnType = (some .int)) {Q : Int → St → Prop} {x1 x2 x3 : Int} {σ : St} (h : wp_X9_letter_B55 x1 x2 x3 Q σ) : G p l e rm_X9_letter s m args below meth c 0 0 5 D cA shM ad (QI D cA shM ad zsM below args s Q) σ [(0, .ref (ad 0)), (1, vI x1), (2, vI x2), (3, vI x3)] [] 55 := by
  unfold wp_X9_letter_B55 at h
  refine g_iconst C dX9_letter_55 ?_
  exact g_pick [0, 1, 2, 3] rfl (m_X9_letter_B56 C hlocks hr h)
set_option maxRecDepth 100000 in
set_option maxHeartbeats 4000000 in
theorem m_X9_letter_E {p : Program} {l : Launch} {e : Env} {s : State} {m : MethodId} {args : Array Value} {below : List Frame} {meth : Method} {c : Code} {D : va_G} {cA : Nat → ClassId} {ad : Nat → Nat} (C : Cx p s m args c cX9_letter RX9 5 D cA shM ad zsM) (hlocks : meth.locks = false) (hr : meth.sig.returnType = (some .int)) {Q : Int → St → Prop} {a1 a2 a3 : Int} {σ : St} (h : wp_X9_letter a1 a2 a3 Q σ) : G p l e rm_X9_letter s m args below meth c 0 0 5 D cA shM ad (QI D cA shM ad zsM below args s Q) σ [(0, .ref (ad 0)), (1, vI a1), (2, vI a2), (3, vI a3)] [] 0 := by
  unfold wp_X9_letter at h
  refine g_iload_n C 2 2 rfl rfl dX9_letter_0 ?_
  refine g_if_lt C rfl 55 (by decide) dX9_letter_1 (fun hc => ?_) (fun hc => ?_)
  · have h := h.1 hc
    exact g_pick [0, 1, 2, 3] rfl (m_X9_letter_B55 C hlocks hr h)
  · have h := h.2 hc
    refine g_iload_n C 3 3 rfl rfl dX9_letter_4 ?_
    refine g_if_lt C rfl 55 (by decide) dX9_letter_5 (fun hc => ?_) (fun hc => ?_)
    · have h := h.1 hc
      exact g_pick [0, 1, 2, 3] rfl (m_X9_letter_B55 C hlocks hr h)
    · have h := h.2 hc
      refine g_iload_n C 1 1 rfl rfl dX9_letter_8 ?_
      refine g_if_eq C rfl 33 (by decide) dX9_letter_9 (fun hc => ?_) (fun hc => ?_)
      · have h := h.1 hc
        refine g_iload_n C 2 2 rfl rfl dX9_letter_33 ?_
        refine g_aload_n C 0 0 rfl rfl dX9_letter_34 ?_
        refine g_get C iX9 (ci := 9) (o := 0) (v := vI (σ 0 7)) rfl rfl 7 (by decide) rfl tw_X9_148 dX9_letter_35 ?_
        refine g_icmp_ge C rfl rfl 55 (by decide) dX9_letter_38 (fun hc => ?_) (fun hc => ?_)
        · have h := h.1 hc
          exact g_pick [0, 1, 2, 3] rfl (m_X9_letter_B55 C hlocks hr h)
        · have h := h.2 hc
          refine g_iload_n C 3 3 rfl rfl dX9_letter_41 ?_
          refine g_aload_n C 0 0 rfl rfl dX9_letter_42 ?_
          refine g_get C iX9 (ci := 9) (o := 0) (v := .ref (ad 3)) rfl rfl 6 (by decide) rfl tw_X9_16 dX9_letter_43 ?_
          refine g_iload_n C 2 2 rfl rfl dX9_letter_46 ?_
          obtain ⟨hi, h⟩ := h
          refine g_iald C (o := 3) (N := 17) rfl rfl hi rfl dX9_letter_47 ?_
          refine g_icmp_ge C rfl rfl 55 (by decide) dX9_letter_48 (fun hc => ?_) (fun hc => ?_)
          · have h := h.1 hc
            exact g_pick [0, 1, 2, 3] rfl (m_X9_letter_B55 C hlocks hr h)
          · have h := h.2 hc
            exact g_pick [0, 1, 2, 3] rfl (m_X9_letter_B51 C hlocks hr h)
      · have h := h.2 hc
        refine g_iload_n C 2 2 rfl rfl dX9_letter_12 ?_
        refine g_aload_n C 0 0 rfl rfl dX9_letter_13 ?_
        refine g_get C iX9 (ci := 9) (o := 0) (v := vI (σ 0 10)) rfl rfl 10 (by decide) rfl tw_X9_151 dX9_letter_14 ?_
        refine g_icmp_ge C rfl rfl 55 (by decide) dX9_letter_17 (fun hc => ?_) (fun hc => ?_)
        · have h := h.1 hc
          exact g_pick [0, 1, 2, 3] rfl (m_X9_letter_B55 C hlocks hr h)
        · have h := h.2 hc
          refine g_iload_n C 3 3 rfl rfl dX9_letter_20 ?_
          refine g_aload_n C 0 0 rfl rfl dX9_letter_21 ?_
          refine g_get C iX9 (ci := 9) (o := 0) (v := .ref (ad 5)) rfl rfl 9 (by decide) rfl tw_X9_23 dX9_letter_22 ?_
          refine g_iload_n C 2 2 rfl rfl dX9_letter_25 ?_
          obtain ⟨hi, h⟩ := h
          refine g_iald C (o := 5) (N := 33) rfl rfl hi rfl dX9_letter_26 ?_
          refine g_icmp_ge C rfl rfl 55 (by decide) dX9_letter_27 (fun hc => ?_) (fun hc => ?_)
          · have h := h.1 hc
            exact g_pick [0, 1, 2, 3] rfl (m_X9_letter_B55 C hlocks hr h)
          · have h := h.2 hc
            refine g_goto C 51 (by decide) dX9_letter_30 ?_
            exact g_pick [0, 1, 2, 3] rfl (m_X9_letter_B51 C hlocks hr h)
set_option maxRecDepth 100000 in
set_option maxHeartbeats 4000000 in
theorem m_X9_letter (l : Launch) (D : va_G) (cA : Nat → ClassId) (ad : Nat → Nat) {a1 a2 a3 : Int} {Q : Int → St → Prop} {σ : St} (h : wp_X9_letter a1 a2 a3 Q σ) : CtI l yX9_letter (.code yX9_letter cX9_letter 5 (some .int)) rm_X9_letter D cA shM ad zsM [.ref (ad 0), vI a1, vI a2, vI a3] σ Q :=
  ct_I RX9 (by decide +kernel) rfl (Nat.le_of_ble_eq_true rfl) (fun p e s m args below meth c C hlocks hr => m_X9_letter_E C hlocks hr h)
abbrev rm_X9_count : Room := { frames := 1, cells := 0, slots := 0, locals := 0 }
set_option maxRecDepth 100000 in
set_option maxHeartbeats 4000000 in
theorem m_X9_count_B16 {p : Program} {l : Launch} {e : Env} {s : State} {m : MethodId} {args : Array Value} {below : List Frame} {meth : Method} {c : Code} {D : va_G} {cA : Nat → ClassId} {ad : Nat → Nat} (C : Cx p s m args c cX9_count RX9 2 D cA shM ad zsM) (hlocks : meth.locks = false) (hr : meth.sig.returnType = (some .int)) {Q : Int → St → Prop} {x1 y1 : Int} {σ : St} (h : wp_X9_count_B16 x1 y1 Q σ) : G p l e rm_X9_count s m args below meth c 0 0 2 D cA shM ad (QI D cA shM ad zsM below args s Q) σ [(0, .ref (ad 0)), (1, vI x1)] [vI y1, .ref (ad 0)] 16 := by
  unfold wp_X9_count_B16 at h
  refine g_put C iX9 (ci := 9) (o := 0) (z := y1) (ty := .int) rfl tyX9_ok nmX9 rfl 0 (by decide) rfl rfl tw_X9_107 rfl (by decide +kernel) rfl rfl dX9_count_16 (fun σ1 eσ1 => ?_)
  have h := h σ1 eσ1
  refine g_aload_n C 0 0 rfl rfl dX9_count_19 ?_
  refine g_get C iX9 (ci := 9) (o := 0) (v := vI (σ1 0 0)) rfl rfl 0 (by decide) rfl tw_X9_107 dX9_count_20 ?_
  refine g_if_le C rfl 28 (by decide) dX9_count_23 (fun hc => ?_) (fun hc => ?_)
  · have h := h.1 hc
    refine g_iload_n C 1 1 rfl rfl dX9_count_28 ?_
    refine g_if_ne C rfl 39 (by decide) dX9_count_29 (fun hc => ?_) (fun hc => ?_)
    · have h := h.1 hc
      refine g_iload_n C 1 1 rfl rfl dX9_count_39 ?_
      refine g_iconst C dX9_count_40 ?_
      refine g_icmp_ne C (y' := 1) rfl (by decide) 51 (by decide) dX9_count_41 (fun hc => ?_) (fun hc => ?_)
      · have h := h.1 hc
        refine g_iload_n C 1 1 rfl rfl dX9_count_51 ?_
        refine g_iconst C dX9_count_52 ?_
        refine g_icmp_ne C (y' := 2) rfl (by decide) 63 (by decide) dX9_count_53 (fun hc => ?_) (fun hc => ?_)
        · have h := h.1 hc
          refine g_iload_n C 1 1 rfl rfl dX9_count_63 ?_
          refine g_iconst C dX9_count_64 ?_
          refine g_icmp_ne C (y' := 3) rfl (by decide) 75 (by decide) dX9_count_65 (fun hc => ?_) (fun hc => ?_)
          · have h := h.1 hc
            refine g_iload_n C 1 1 rfl rfl dX9_count_75 ?_
            refine g_iconst C dX9_count_76 ?_
            refine g_icmp_ne C (y' := 4) rfl (by decide) 88 (by decide) dX9_count_77 (fun hc => ?_) (fun hc => ?_)
            · have h := h.1 hc
              refine g_iload_n C 1 1 rfl rfl dX9_count_88 ?_
              refine g_iconst C dX9_count_89 ?_
              refine g_icmp_ne C (y' := 5) rfl (by decide) 100 (by decide) dX9_count_90 (fun hc => ?_) (fun hc => ?_)
              · have h := h.1 hc
                refine g_aload_n C 0 0 rfl rfl dX9_count_100 ?_
                refine g_get C iX9 (ci := 9) (o := 0) (v := vI (σ1 0 50)) rfl rfl 50 (by decide) rfl tw_X9_217 dX9_count_101 ?_
                exact g_iret C hlocks hr h dX9_count_104
              · have h := h.2 hc
                refine g_aload_n C 0 0 rfl rfl dX9_count_93 ?_
                refine g_get C iX9 (ci := 9) (o := 0) (v := vI (σ1 0 42)) rfl rfl 42 (by decide) rfl tw_X9_214 dX9_count_94 ?_
                refine g_goto C 104 (by decide) dX9_count_97 ?_
                exact g_iret C hlocks hr h dX9_count_104
            · have h := h.2 hc
              refine g_aload_n C 0 0 rfl rfl dX9_count_80 ?_
              refine g_get C iX9 (ci := 9) (o := 0) (v := vL (σ1 0 36)) rfl rfl 36 (by decide) rfl tw_X9_71 dX9_count_81 ?_
              refine g_l2i C dX9_count_84 ?_
              refine g_goto C 104 (by decide) dX9_count_85 ?_
              exact g_iret C hlocks hr h dX9_count_104
          · have h := h.2 hc
            refine g_aload_n C 0 0 rfl rfl dX9_count_68 ?_
            refine g_get C iX9 (ci := 9) (o := 0) (v := vI (σ1 0 26)) rfl rfl 26 (by decide) rfl tw_X9_220 dX9_count_69 ?_
            refine g_goto C 104 (by decide) dX9_count_72 ?_
            exact g_iret C hlocks hr h dX9_count_104
        · have h := h.2 hc
          refine g_aload_n C 0 0 rfl rfl dX9_count_56 ?_
          refine g_get C iX9 (ci := 9) (o := 0) (v := vI (σ1 0 10)) rfl rfl 10 (by decide) rfl tw_X9_151 dX9_count_57 ?_
          refine g_goto C 104 (by decide) dX9_count_60 ?_
          exact g_iret C hlocks hr h dX9_count_104
      · have h := h.2 hc
        refine g_aload_n C 0 0 rfl rfl dX9_count_44 ?_
        refine g_get C iX9 (ci := 9) (o := 0) (v := vI (σ1 0 7)) rfl rfl 7 (by decide) rfl tw_X9_148 dX9_count_45 ?_
        refine g_goto C 104 (by decide) dX9_count_48 ?_
        exact g_iret C hlocks hr h dX9_count_104
    · have h := h.2 hc
      refine g_aload_n C 0 0 rfl rfl dX9_count_32 ?_
      refine g_get C iX9 (ci := 9) (o := 0) (v := vI (σ1 0 23)) rfl rfl 23 (by decide) rfl tw_X9_154 dX9_count_33 ?_
      refine g_goto C 104 (by decide) dX9_count_36 ?_
      exact g_iret C hlocks hr h dX9_count_104
  · have h := h.2 hc
    refine g_iconst C dX9_count_26 ?_
    exact g_iret C hlocks hr h dX9_count_27
set_option maxRecDepth 100000 in
set_option maxHeartbeats 4000000 in
theorem m_X9_count_B11 {p : Program} {l : Launch} {e : Env} {s : State} {m : MethodId} {args : Array Value} {below : List Frame} {meth : Method} {c : Code} {D : va_G} {cA : Nat → ClassId} {ad : Nat → Nat} (C : Cx p s m args c cX9_count RX9 2 D cA shM ad zsM) (hlocks : meth.locks = false) (hr : meth.sig.returnType = (some .int)) {Q : Int → St → Prop} {x1 : Int} {σ : St} (h : wp_X9_count_B11 x1 Q σ) : G p l e rm_X9_count s m args below meth c 0 0 2 D cA shM ad (QI D cA shM ad zsM below args s Q) σ [(0, .ref (ad 0)), (1, vI x1)] [.ref (ad 0)] 11 := by
  unfold wp_X9_count_B11 at h
  refine g_iconst C dX9_count_11 ?_
  refine g_goto C 16 (by decide) dX9_count_12 ?_
  exact g_pick [0, 1] rfl (m_X9_count_B16 C hlocks hr h)
set_option maxRecDepth 100000 in
set_option maxHeartbeats 4000000 in
theorem m_X9_count_E {p : Program} {l : Launch} {e : Env} {s : State} {m : MethodId} {args : Array Value} {below : List Frame} {meth : Method} {c : Code} {D : va_G} {cA : Nat → ClassId} {ad : Nat → Nat} (C : Cx p s m args c cX9_count RX9 2 D cA shM ad zsM) (hlocks : meth.locks = false) (hr : meth.sig.returnType = (some .int)) {Q : Int → St → Prop} {a1 : Int} {σ : St} (h : wp_X9_count a1 Q σ) : G p l e rm_X9_count s m args below meth c 0 0 2 D cA shM ad (QI D cA shM ad zsM below args s Q) σ [(0, .ref (ad 0)), (1, vI a1)] [] 0 := by
  unfold wp_X9_count at h
  refine g_aload_n C 0 0 rfl rfl dX9_count_0 ?_
  refine g_iload_n C 1 1 rfl rfl dX9_count_1 ?_
  refine g_if_lt C rfl 11 (by decide) dX9_count_2 (fun hc => ?_) (fun hc => ?_)
  · have h := h.1 hc
    exact g_pick [0, 1] rfl (m_X9_count_B11 C hlocks hr h)
  · have h := h.2 hc
    refine g_iload_n C 1 1 rfl rfl dX9_count_5 ?_
    refine g_bipush C dX9_count_6 (by decide) ?_
    refine g_icmp_le C (y' := 6) rfl (by decide) 15 (by decide) dX9_count_8 (fun hc => ?_) (fun hc => ?_)
    · have h := h.1 hc
      refine g_iconst C dX9_count_15 ?_
      exact g_pick [0, 1] rfl (m_X9_count_B16 C hlocks hr h)
    · have h := h.2 hc
      exact g_pick [0, 1] rfl (m_X9_count_B11 C hlocks hr h)
set_option maxRecDepth 100000 in
set_option maxHeartbeats 4000000 in
theorem m_X9_count (l : Launch) (D : va_G) (cA : Nat → ClassId) (ad : Nat → Nat) {a1 : Int} {Q : Int → St → Prop} {σ : St} (h : wp_X9_count a1 Q σ) : CtI l yX9_count (.code yX9_count cX9_count 2 (some .int)) rm_X9_count D cA shM ad zsM [.ref (ad 0), vI a1] σ Q :=
  ct_I RX9 (by decide +kernel) rfl (Nat.le_of_ble_eq_true rfl) (fun p e s m args below meth c C hlocks hr => m_X9_count_E C hlocks hr h)
