set_option maxRecDepth 100000 in
set_option maxHeartbeats 4000000 in
theorem m_X9_labelled_B135 {p : Program} {l : Launch} {e : Env} {s : State} {m : MethodId} {args : Array Value} {below : List Frame} {meth : Method} {c : Code} {D : va_G} {cA : Nat → ClassId} {ad : Nat → Nat} (C : Cx p s m args c cX9_labelled RX9 3 D cA shM ad zsM) (hlocks : meth.locks = false) (hr : meth.sig.returnType = (some .boolean)) {Q : Int → St → Prop} {y1 : Int} {σ : St} (h : wp_X9_labelled_B135 y1 Q σ) : G p l e rm_X9_labelled s m args below meth c 0 0 3 D cA shM ad (QI D cA shM ad zsM below args s Q) σ [(0, .ref (ad 0))] [vI y1, .ref (ad 0)] 135 := by
  unfold wp_X9_labelled_B135 at h
  refine g_put C iX9 (ci := 9) (o := 0) (z := y1) (ty := .int) rfl tyX9_ok nmX9 rfl 32 (by decide) rfl rfl tw_X9_180 rfl (by decide +kernel) rfl rfl dX9_labelled_135 (fun σ1 eσ1 => ?_)
  have h := h σ1 eσ1
  refine g_aload_n C 0 0 rfl rfl dX9_labelled_138 ?_
  refine g_callIv C (m_X9_next l D cA ad h) hv_X9_next tw_X9_144 (o := 0) (ci := 9) (As := []) (st := []) rfl rfl rfl rfl ⟨Nat.le_of_ble_eq_true rfl, Nat.le_of_ble_eq_true rfl⟩ rfl rfl (Nat.le_of_ble_eq_true rfl) dX9_labelled_139 (fun r3 σ2 h => ?_)
  try dsimp only at h
  exact g_zret C hlocks hr h.1 h.2 dX9_labelled_142
set_option maxRecDepth 100000 in
set_option maxHeartbeats 4000000 in
theorem m_X9_labelled_B115 {p : Program} {l : Launch} {e : Env} {s : State} {m : MethodId} {args : Array Value} {below : List Frame} {meth : Method} {c : Code} {D : va_G} {cA : Nat → ClassId} {ad : Nat → Nat} (C : Cx p s m args c cX9_labelled RX9 3 D cA shM ad zsM) (hlocks : meth.locks = false) (hr : meth.sig.returnType = (some .boolean)) {Q : Int → St → Prop} {x2 y1 : Int} {σ : St} (h : wp_X9_labelled_B115 x2 y1 Q σ) : G p l e rm_X9_labelled s m args below meth c 0 0 3 D cA shM ad (QI D cA shM ad zsM below args s Q) σ [(0, .ref (ad 0)), (2, vI x2)] [vI y1, .ref (ad 0)] 115 := by
  unfold wp_X9_labelled_B115 at h
  refine g_put C iX9 (ci := 9) (o := 0) (z := y1) (ty := .int) rfl tyX9_ok nmX9 rfl 33 (by decide) rfl rfl tw_X9_186 rfl (by decide +kernel) rfl rfl dX9_labelled_115 (fun σ1 eσ1 => ?_)
  have h := h σ1 eσ1
  refine g_aload_n C 0 0 rfl rfl dX9_labelled_118 ?_
  refine g_aload_n C 0 0 rfl rfl dX9_labelled_119 ?_
  refine g_get C iX9 (ci := 9) (o := 0) (v := vI (σ1 0 32)) rfl rfl 32 (by decide) rfl tw_X9_180 dX9_labelled_120 ?_
  refine g_iconst C dX9_labelled_123 ?_
  refine g_icmp_ne C (y' := (-1)) rfl (by decide) 131 (by decide) dX9_labelled_124 (fun hc => ?_) (fun hc => ?_)
  · have h := h.1 hc
    refine g_aload_n C 0 0 rfl rfl dX9_labelled_131 ?_
    refine g_get C iX9 (ci := 9) (o := 0) (v := vI (σ1 0 32)) rfl rfl 32 (by decide) rfl tw_X9_180 dX9_labelled_132 ?_
    exact g_pick [0] rfl (m_X9_labelled_B135 C hlocks hr h)
  · have h := h.2 hc
    refine g_iload_n C 1 2 rfl rfl dX9_labelled_127 ?_
    refine g_goto C 135 (by decide) dX9_labelled_128 ?_
    exact g_pick [0] rfl (m_X9_labelled_B135 C hlocks hr h)
set_option maxRecDepth 100000 in
set_option maxHeartbeats 4000000 in
theorem m_X9_labelled_B95 {p : Program} {l : Launch} {e : Env} {s : State} {m : MethodId} {args : Array Value} {below : List Frame} {meth : Method} {c : Code} {D : va_G} {cA : Nat → ClassId} {ad : Nat → Nat} (C : Cx p s m args c cX9_labelled RX9 3 D cA shM ad zsM) (hlocks : meth.locks = false) (hr : meth.sig.returnType = (some .boolean)) {Q : Int → St → Prop} {x1 x2 y1 : Int} {σ : St} (h : wp_X9_labelled_B95 x1 x2 y1 Q σ) : G p l e rm_X9_labelled s m args below meth c 0 0 3 D cA shM ad (QI D cA shM ad zsM below args s Q) σ [(0, .ref (ad 0)), (1, vI x1), (2, vI x2)] [vI y1, .ref (ad 0)] 95 := by
  unfold wp_X9_labelled_B95 at h
  refine g_put C iX9 (ci := 9) (o := 0) (z := y1) (ty := .int) rfl tyX9_ok nmX9 rfl 34 (by decide) rfl rfl tw_X9_183 rfl (by decide +kernel) rfl rfl dX9_labelled_95 (fun σ1 eσ1 => ?_)
  have h := h σ1 eσ1
  refine g_aload_n C 0 0 rfl rfl dX9_labelled_98 ?_
  refine g_aload_n C 0 0 rfl rfl dX9_labelled_99 ?_
  refine g_get C iX9 (ci := 9) (o := 0) (v := vI (σ1 0 32)) rfl rfl 32 (by decide) rfl tw_X9_180 dX9_labelled_100 ?_
  refine g_iconst C dX9_labelled_103 ?_
  refine g_icmp_ne C (y' := (-1)) rfl (by decide) 111 (by decide) dX9_labelled_104 (fun hc => ?_) (fun hc => ?_)
  · have h := h.1 hc
    refine g_aload_n C 0 0 rfl rfl dX9_labelled_111 ?_
    refine g_get C iX9 (ci := 9) (o := 0) (v := vI (σ1 0 33)) rfl rfl 33 (by decide) rfl tw_X9_186 dX9_labelled_112 ?_
    exact g_pick [0, 2] rfl (m_X9_labelled_B115 C hlocks hr h)
  · have h := h.2 hc
    refine g_iload_n C 1 1 rfl rfl dX9_labelled_107 ?_
    refine g_goto C 115 (by decide) dX9_labelled_108 ?_
    exact g_pick [0, 2] rfl (m_X9_labelled_B115 C hlocks hr h)
set_option maxRecDepth 100000 in
set_option maxHeartbeats 4000000 in
theorem m_X9_labelled_B91 {p : Program} {l : Launch} {e : Env} {s : State} {m : MethodId} {args : Array Value} {below : List Frame} {meth : Method} {c : Code} {D : va_G} {cA : Nat → ClassId} {ad : Nat → Nat} (C : Cx p s m args c cX9_labelled RX9 3 D cA shM ad zsM) (hlocks : meth.locks = false) (hr : meth.sig.returnType = (some .boolean)) {Q : Int → St → Prop} {x1 x2 : Int} {σ : St} (h : wp_X9_labelled_B91 x1 x2 Q σ) : G p l e rm_X9_labelled s m args below meth c 0 0 3 D cA shM ad (QI D cA shM ad zsM below args s Q) σ [(0, .ref (ad 0)), (1, vI x1), (2, vI x2)] [.ref (ad 0)] 91 := by
  unfold wp_X9_labelled_B91 at h
  refine g_aload_n C 0 0 rfl rfl dX9_labelled_91 ?_
  refine g_get C iX9 (ci := 9) (o := 0) (v := vI (σ 0 34)) rfl rfl 34 (by decide) rfl tw_X9_183 dX9_labelled_92 ?_
  exact g_pick [0, 1, 2] rfl (m_X9_labelled_B95 C hlocks hr h)
set_option maxRecDepth 100000 in
set_option maxHeartbeats 4000000 in
theorem m_X9_labelled_E {p : Program} {l : Launch} {e : Env} {s : State} {m : MethodId} {args : Array Value} {below : List Frame} {meth : Method} {c : Code} {D : va_G} {cA : Nat → ClassId} {ad : Nat → Nat} (C : Cx p s m args c cX9_labelled RX9 3 D cA shM ad zsM) (hlocks : meth.locks = false) (hr : meth.sig.returnType = (some .boolean)) {Q : Int → St → Prop} {σ : St} (h : wp_X9_labelled Q σ) : G p l e rm_X9_labelled s m args below meth c 0 0 3 D cA shM ad (QI D cA shM ad zsM below args s Q) σ [(0, .ref (ad 0))] [] 0 := by
  unfold wp_X9_labelled at h
  refine g_aload_n C 0 0 rfl rfl dX9_labelled_0 ?_
  refine g_get C iX9 (ci := 9) (o := 0) (v := vI (σ 0 28)) rfl rfl 28 (by decide) rfl tw_X9_123 dX9_labelled_1 ?_
  refine g_name (fun x_1 ex_1 => ?_)
  have h := h x_1 ex_1
  refine g_istore_n C 1 [(0, .ref (ad 0))] rfl (by decide) rfl dX9_labelled_4 ?_
  refine g_aload_n C 1 0 rfl rfl dX9_labelled_5 ?_
  refine g_get C iX9 (ci := 9) (o := 0) (v := vI (σ 0 30)) rfl rfl 30 (by decide) rfl tw_X9_157 dX9_labelled_6 ?_
  refine g_name (fun x_2 ex_2 => ?_)
  have h := h x_2 ex_2
  refine g_istore_n C 2 [(1, vI x_1), (0, .ref (ad 0))] rfl (by decide) rfl dX9_labelled_9 ?_
  refine g_aload_n C 2 0 rfl rfl dX9_labelled_10 ?_
  refine g_callIv C (m_X9_newNode l D cA ad h) hv_X9_newNode tw_X9_177 (o := 0) (ci := 9) (As := []) (st := []) rfl rfl rfl rfl ⟨Nat.le_of_ble_eq_true rfl, Nat.le_of_ble_eq_true rfl⟩ rfl rfl (Nat.le_of_ble_eq_true rfl) dX9_labelled_11 (fun r4 σ3 h => ?_)
  try dsimp only at h
  refine g_if_eq C rfl 24 (by decide) dX9_labelled_14 (fun hc => ?_) (fun hc => ?_)
  · have h := h.1 hc
    refine g_iconst C dX9_labelled_24 ?_
    exact g_zret C hlocks hr (by decide) h dX9_labelled_25
  · have h := h.2 hc
    refine g_aload_n C 2 0 rfl rfl dX9_labelled_17 ?_
    refine g_callIv C (m_X9_next l D cA ad h) hv_X9_next tw_X9_144 (o := 0) (ci := 9) (As := []) (st := []) rfl rfl rfl rfl ⟨Nat.le_of_ble_eq_true rfl, Nat.le_of_ble_eq_true rfl⟩ rfl rfl (Nat.le_of_ble_eq_true rfl) dX9_labelled_18 (fun r6 σ5 h => ?_)
    try dsimp only at h
    refine g_if_ne C rfl 26 (by decide) dX9_labelled_21 (fun hc => ?_) (fun hc => ?_)
    · have h := h.1 hc
      refine g_aload_n C 2 0 rfl rfl dX9_labelled_26 ?_
      refine g_get C iX9 (ci := 9) (o := 0) (v := vI (σ5 0 27)) rfl rfl 27 (by decide) rfl tw_X9_130 dX9_labelled_27 ?_
      refine g_bipush C dX9_labelled_30 (by decide) ?_
      refine g_icmp_ne C (y' := 33) rfl (by decide) 51 (by decide) dX9_labelled_32 (fun hc => ?_) (fun hc => ?_)
      · have h := h.1 hc
        refine g_aload_n C 2 0 rfl rfl dX9_labelled_51 ?_
        refine g_get C iX9 (ci := 9) (o := 0) (v := vI (σ5 0 27)) rfl rfl 27 (by decide) rfl tw_X9_130 dX9_labelled_52 ?_
        refine g_bipush C dX9_labelled_55 (by decide) ?_
        refine g_icmp_ne C (y' := 42) rfl (by decide) 143 (by decide) dX9_labelled_57 (fun hc => ?_) (fun hc => ?_)
        · have h := h.1 hc
          refine g_aload_n C 2 0 rfl rfl dX9_labelled_143 ?_
          refine g_get C iX9 (ci := 9) (o := 0) (v := vI (σ5 0 27)) rfl rfl 27 (by decide) rfl tw_X9_130 dX9_labelled_144 ?_
          refine g_bipush C dX9_labelled_147 (by decide) ?_
          refine g_icmp_eq C (y' := 43) rfl (by decide) 161 (by decide) dX9_labelled_149 (fun hc => ?_) (fun hc => ?_)
          · have h := h.1 hc
            exact g_pick [2, 0] rfl (m_X9_labelled_B161 C hlocks hr h)
          · have h := h.2 hc
            refine g_aload_n C 2 0 rfl rfl dX9_labelled_152 ?_
            refine g_get C iX9 (ci := 9) (o := 0) (v := vI (σ5 0 27)) rfl rfl 27 (by decide) rfl tw_X9_130 dX9_labelled_153 ?_
            refine g_bipush C dX9_labelled_156 (by decide) ?_
            refine g_icmp_ne C (y' := 45) rfl (by decide) 194 (by decide) dX9_labelled_158 (fun hc => ?_) (fun hc => ?_)
            · have h := h.1 hc
              exact g_pick [2, 0] rfl (m_X9_labelled_B194 C hlocks hr h)
            · have h := h.2 hc
              exact g_pick [2, 0] rfl (m_X9_labelled_B161 C hlocks hr h)
        · have h := h.2 hc
          refine g_aload_n C 2 0 rfl rfl dX9_labelled_60 ?_
          refine g_get C iX9 (ci := 9) (o := 0) (v := .ref (ad 6)) rfl rfl 11 (by decide) rfl tw_X9_26 dX9_labelled_61 ?_
          refine g_aload_n C 2 0 rfl rfl dX9_labelled_64 ?_
          refine g_iload_n C 0 2 rfl rfl dX9_labelled_65 ?_
          refine g_callIv C (m_X9_here l D cA ad h) hv_X9_here tw_X9_167 (o := 0) (ci := 9) (As := [vI x_2]) (st := [.ref (ad 6)]) rfl rfl rfl rfl ⟨Nat.le_of_ble_eq_true rfl, Nat.le_of_ble_eq_true rfl⟩ rfl rfl (Nat.le_of_ble_eq_true rfl) dX9_labelled_66 (fun r8 σ7 h => ?_)
          try dsimp only at h
          refine g_iconst C dX9_labelled_69 ?_
          obtain ⟨hi, h⟩ := h
          refine g_iast C (o := 6) (N := 204) rfl rfl hi rfl dX9_labelled_70 (fun σ9 eσ9 => ?_)
          have h := h σ9 eσ9
          refine g_aload_n C 2 0 rfl rfl dX9_labelled_71 ?_
          refine g_aload_n C 2 0 rfl rfl dX9_labelled_72 ?_
          refine g_get C iX9 (ci := 9) (o := 0) (v := vI (σ9 0 32)) rfl rfl 32 (by decide) rfl tw_X9_180 dX9_labelled_73 ?_
          refine g_iconst C dX9_labelled_76 ?_
          refine g_icmp_eq C (y' := (-1)) rfl (by decide) 91 (by decide) dX9_labelled_77 (fun hc => ?_) (fun hc => ?_)
          · have h := h.1 hc
            exact g_pick [2, 1, 0] rfl (m_X9_labelled_B91 C hlocks hr h)
          · have h := h.2 hc
            refine g_aload_n C 2 0 rfl rfl dX9_labelled_80 ?_
            refine g_get C iX9 (ci := 9) (o := 0) (v := vI (σ9 0 34)) rfl rfl 34 (by decide) rfl tw_X9_183 dX9_labelled_81 ?_
            refine g_if_ge C rfl 91 (by decide) dX9_labelled_84 (fun hc => ?_) (fun hc => ?_)
            · have h := h.1 hc
              exact g_pick [2, 1, 0] rfl (m_X9_labelled_B91 C hlocks hr h)
            · have h := h.2 hc
              refine g_iload_n C 1 1 rfl rfl dX9_labelled_87 ?_
              refine g_goto C 95 (by decide) dX9_labelled_88 ?_
              exact g_pick [2, 1, 0] rfl (m_X9_labelled_B95 C hlocks hr h)
      · have h := h.2 hc
        refine g_aload_n C 2 0 rfl rfl dX9_labelled_35 ?_
        refine g_get C iX9 (ci := 9) (o := 0) (v := .ref (ad 6)) rfl rfl 11 (by decide) rfl tw_X9_26 dX9_labelled_36 ?_
        refine g_aload_n C 2 0 rfl rfl dX9_labelled_39 ?_
        refine g_iload_n C 0 2 rfl rfl dX9_labelled_40 ?_
        refine g_callIv C (m_X9_here l D cA ad h) hv_X9_here tw_X9_167 (o := 0) (ci := 9) (As := [vI x_2]) (st := [.ref (ad 6)]) rfl rfl rfl rfl ⟨Nat.le_of_ble_eq_true rfl, Nat.le_of_ble_eq_true rfl⟩ rfl rfl (Nat.le_of_ble_eq_true rfl) dX9_labelled_41 (fun r11 σ10 h => ?_)
        try dsimp only at h
        refine g_iconst C dX9_labelled_44 ?_
        obtain ⟨hi, h⟩ := h
        refine g_iast C (o := 6) (N := 204) rfl rfl hi rfl dX9_labelled_45 (fun σ12 eσ12 => ?_)
        have h := h σ12 eσ12
        refine g_aload_n C 2 0 rfl rfl dX9_labelled_46 ?_
        refine g_callIv C (m_X9_next l D cA ad h) hv_X9_next tw_X9_144 (o := 0) (ci := 9) (As := []) (st := []) rfl rfl rfl rfl ⟨Nat.le_of_ble_eq_true rfl, Nat.le_of_ble_eq_true rfl⟩ rfl rfl (Nat.le_of_ble_eq_true rfl) dX9_labelled_47 (fun r14 σ13 h => ?_)
        try dsimp only at h
        exact g_zret C hlocks hr h.1 h.2 dX9_labelled_50
    · have h := h.2 hc
      refine g_iconst C dX9_labelled_24 ?_
      exact g_zret C hlocks hr (by decide) h dX9_labelled_25
set_option maxRecDepth 100000 in
set_option maxHeartbeats 4000000 in
theorem m_X9_labelled (l : Launch) (D : va_G) (cA : Nat → ClassId) (ad : Nat → Nat) {Q : Int → St → Prop} {σ : St} (h : wp_X9_labelled Q σ) : CtI l yX9_labelled (.code yX9_labelled cX9_labelled 3 (some .boolean)) rm_X9_labelled D cA shM ad zsM [.ref (ad 0)] σ Q :=
  ct_I RX9 (by decide +kernel) rfl (Nat.le_of_ble_eq_true rfl) (fun p e s m args below meth c C hlocks hr => m_X9_labelled_E C hlocks hr h)
abbrev rm_X9_readTree : Room := { frames := 4, cells := 0, slots := 0, locals := 68 }
set_option maxRecDepth 100000 in
set_option maxHeartbeats 4000000 in
theorem m_X9_readTree_B126 {p : Program} {l : Launch} {e : Env} {s : State} {m : MethodId} {args : Array Value} {below : List Frame} {meth : Method} {c : Code} {D : va_G} {cA : Nat → ClassId} {ad : Nat → Nat} (C : Cx p s m args c cX9_readTree RX9 2 D cA shM ad zsM) (hlocks : meth.locks = false) (hr : meth.sig.returnType = (some .boolean)) {Q : Int → St → Prop} {σ : St} (h : wp_X9_readTree_B126 Q σ) : G p l e rm_X9_readTree s m args below meth c 0 0 2 D cA shM ad (QI D cA shM ad zsM below args s Q) σ [(0, .ref (ad 0))] [] 126 := by
  unfold wp_X9_readTree_B126 at h
  refine g_aload_n C 0 0 rfl rfl dX9_readTree_126 ?_
  refine g_callIv C (m_X9_cannot l D cA ad h) hv_X9_cannot tw_X9_189 (o := 0) (ci := 9) (As := []) (st := []) rfl rfl rfl rfl ⟨Nat.le_of_ble_eq_true rfl, Nat.le_of_ble_eq_true rfl⟩ rfl rfl (Nat.le_of_ble_eq_true rfl) dX9_readTree_127 (fun r2 σ1 h => ?_)
  try dsimp only at h
  exact g_zret C hlocks hr h.1 h.2 dX9_readTree_130
set_option maxRecDepth 100000 in
set_option maxHeartbeats 4000000 in
theorem m_X9_readTree_B144 {p : Program} {l : Launch} {e : Env} {s : State} {m : MethodId} {args : Array Value} {below : List Frame} {meth : Method} {c : Code} {D : va_G} {cA : Nat → ClassId} {ad : Nat → Nat} (C : Cx p s m args c cX9_readTree RX9 2 D cA shM ad zsM) (hlocks : meth.locks = false) (hr : meth.sig.returnType = (some .boolean)) {Q : Int → St → Prop} {K22 : Int → St → Prop} (hK22 : ∀ (x1 : Int) (σ : St), K22 x1 σ → G p l e rm_X9_readTree s m args below meth c 0 0 2 D cA shM ad (QI D cA shM ad zsM below args s Q) σ [(0, .ref (ad 0)), (1, vI x1)] [] 22) {y0 : Int} {σ : St} (h : wp_X9_readTree_B144 K22 y0 Q σ) : G p l e rm_X9_readTree s m args below meth c 0 0 2 D cA shM ad (QI D cA shM ad zsM below args s Q) σ [(0, .ref (ad 0))] [vI y0] 144 := by
  unfold wp_X9_readTree_B144 at h
  refine g_istore_n C 1 [(0, .ref (ad 0))] rfl (by decide) rfl dX9_readTree_144 ?_
  refine g_goto C 22 (by decide) dX9_readTree_145 ?_
  exact g_pick [1, 0] rfl (hK22 _ _ h)
set_option maxRecDepth 100000 in
set_option maxHeartbeats 4000000 in
theorem m_X9_readTree_B131 {p : Program} {l : Launch} {e : Env} {s : State} {m : MethodId} {args : Array Value} {below : List Frame} {meth : Method} {c : Code} {D : va_G} {cA : Nat → ClassId} {ad : Nat → Nat} (C : Cx p s m args c cX9_readTree RX9 2 D cA shM ad zsM) (hlocks : meth.locks = false) (hr : meth.sig.returnType = (some .boolean)) {Q : Int → St → Prop} {K22 : Int → St → Prop} (hK22 : ∀ (x1 : Int) (σ : St), K22 x1 σ → G p l e rm_X9_readTree s m args below meth c 0 0 2 D cA shM ad (QI D cA shM ad zsM below args s Q) σ [(0, .ref (ad 0)), (1, vI x1)] [] 22) {σ : St} (h : wp_X9_readTree_B131 K22 Q σ) : G p l e rm_X9_readTree s m args below meth c 0 0 2 D cA shM ad (QI D cA shM ad zsM below args s Q) σ [(0, .ref (ad 0))] [] 131 := by
  unfold wp_X9_readTree_B131 at h
  refine g_aload_n C 0 0 rfl rfl dX9_readTree_131 ?_
  refine g_get C iX9 (ci := 9) (o := 0) (v := vI (σ 0 31)) rfl rfl 31 (by decide) rfl tw_X9_170 dX9_readTree_132 ?_
  refine g_iconst C dX9_readTree_135 ?_
  refine g_icmp_eq C (y' := (-1)) rfl (by decide) 143 (by decide) dX9_readTree_136 (fun hc => ?_) (fun hc => ?_)
  · have h := h.1 hc
    refine g_iconst C dX9_readTree_143 ?_
    exact g_pick [0] rfl (m_X9_readTree_B144 C hlocks hr hK22 h)
  · have h := h.2 hc
    refine g_iconst C dX9_readTree_139 ?_
    refine g_goto C 144 (by decide) dX9_readTree_140 ?_
    exact g_pick [0] rfl (m_X9_readTree_B144 C hlocks hr hK22 h)
set_option maxRecDepth 100000 in
set_option maxHeartbeats 4000000 in
theorem m_X9_readTree_B162 {p : Program} {l : Launch} {e : Env} {s : State} {m : MethodId} {args : Array Value} {below : List Frame} {meth : Method} {c : Code} {D : va_G} {cA : Nat → ClassId} {ad : Nat → Nat} (C : Cx p s m args c cX9_readTree RX9 2 D cA shM ad zsM) (hlocks : meth.locks = false) (hr : meth.sig.returnType = (some .boolean)) {Q : Int → St → Prop} {σ : St} (h : wp_X9_readTree_B162 Q σ) : G p l e rm_X9_readTree s m args below meth c 0 0 2 D cA shM ad (QI D cA shM ad zsM below args s Q) σ [] [] 162 := by
  unfold wp_X9_readTree_B162 at h
  refine g_iconst C dX9_readTree_162 ?_
  refine g_goto C 167 (by decide) dX9_readTree_163 ?_
  exact g_zret C hlocks hr (by decide) h dX9_readTree_167
set_option maxRecDepth 100000 in
set_option maxHeartbeats 4000000 in
theorem m_X9_readTree_L22 {p : Program} {l : Launch} {e : Env} {s : State} {m : MethodId} {args : Array Value} {below : List Frame} {meth : Method} {c : Code} {D : va_G} {cA : Nat → ClassId} {ad : Nat → Nat} (C : Cx p s m args c cX9_readTree RX9 2 D cA shM ad zsM) (hlocks : meth.locks = false) (hr : meth.sig.returnType = (some .boolean)) {Q : Int → St → Prop} : ∀ (n : Nat) (x1 : Int) (σ : St), wp_X9_readTree_L22 Q n x1 σ → G p l e rm_X9_readTree s m args below meth c 0 0 2 D cA shM ad (QI D cA shM ad zsM below args s Q) σ [(0, .ref (ad 0)), (1, vI x1)] [] 22 := by
  intro n
  induction n with
  | zero => intro _ _ h; exact h.elim
  | succ n ih =>
    intro x1 σ h
    simp only [wp_X9_readTree_L22] at h
    refine g_iload_n C 1 1 rfl rfl dX9_readTree_22 ?_
    refine g_if_eq C rfl 148 (by decide) dX9_readTree_23 (fun hc => ?_) (fun hc => ?_)
    · have h := h.1 hc
      refine g_aload_n C 0 0 rfl rfl dX9_readTree_148 ?_
      refine g_get C iX9 (ci := 9) (o := 0) (v := vI (σ 0 27)) rfl rfl 27 (by decide) rfl tw_X9_130 dX9_readTree_149 ?_
      refine g_if_eq C rfl 162 (by decide) dX9_readTree_152 (fun hc => ?_) (fun hc => ?_)
      · have h := h.1 hc
        exact g_pick [] rfl (m_X9_readTree_B162 C hlocks hr h)
      · have h := h.2 hc
        refine g_aload_n C 0 0 rfl rfl dX9_readTree_155 ?_
        refine g_callIv C (m_X9_cannot l D cA ad h) hv_X9_cannot tw_X9_189 (o := 0) (ci := 9) (As := []) (st := []) rfl rfl rfl rfl ⟨Nat.le_of_ble_eq_true rfl, Nat.le_of_ble_eq_true rfl⟩ rfl rfl (Nat.le_of_ble_eq_true rfl) dX9_readTree_156 (fun r2 σ1 h => ?_)
        try dsimp only at h
        refine g_if_eq C rfl 166 (by decide) dX9_readTree_159 (fun hc => ?_) (fun hc => ?_)
        · have h := h.1 hc
          refine g_iconst C dX9_readTree_166 ?_
          exact g_zret C hlocks hr (by decide) h dX9_readTree_167
        · have h := h.2 hc
          exact g_pick [] rfl (m_X9_readTree_B162 C hlocks hr h)
    · have h := h.2 hc
      refine g_aload_n C 0 0 rfl rfl dX9_readTree_26 ?_
      refine g_get C iX9 (ci := 9) (o := 0) (v := vI (σ 0 27)) rfl rfl 27 (by decide) rfl tw_X9_130 dX9_readTree_27 ?_
      refine g_iconst C dX9_readTree_30 ?_
      refine g_icmp_ne C (y' := 1) rfl (by decide) 43 (by decide) dX9_readTree_31 (fun hc => ?_) (fun hc => ?_)
      · have h := h.1 hc
        refine g_aload_n C 0 0 rfl rfl dX9_readTree_43 ?_
        refine g_get C iX9 (ci := 9) (o := 0) (v := vI (σ 0 27)) rfl rfl 27 (by decide) rfl tw_X9_130 dX9_readTree_44 ?_
        refine g_iconst C dX9_readTree_47 ?_
        refine g_icmp_ne C (y' := 2) rfl (by decide) 67 (by decide) dX9_readTree_48 (fun hc => ?_) (fun hc => ?_)
        · have h := h.1 hc
          refine g_aload_n C 0 0 rfl rfl dX9_readTree_67 ?_
          refine g_get C iX9 (ci := 9) (o := 0) (v := vI (σ 0 27)) rfl rfl 27 (by decide) rfl tw_X9_130 dX9_readTree_68 ?_
          refine g_bipush C dX9_readTree_71 (by decide) ?_
          refine g_icmp_ne C (y' := 41) rfl (by decide) 126 (by decide) dX9_readTree_73 (fun hc => ?_) (fun hc => ?_)
          · have h := h.1 hc
            exact g_pick [0] rfl (m_X9_readTree_B126 C hlocks hr h)
          · have h := h.2 hc
            refine g_aload_n C 0 0 rfl rfl dX9_readTree_76 ?_
            refine g_get C iX9 (ci := 9) (o := 0) (v := vI (σ 0 31)) rfl rfl 31 (by decide) rfl tw_X9_170 dX9_readTree_77 ?_
            refine g_iconst C dX9_readTree_80 ?_
            refine g_icmp_eq C (y' := (-1)) rfl (by decide) 126 (by decide) dX9_readTree_81 (fun hc => ?_) (fun hc => ?_)
            · have h := h.1 hc
              exact g_pick [0] rfl (m_X9_readTree_B126 C hlocks hr h)
            · have h := h.2 hc
              refine g_aload_n C 0 0 rfl rfl dX9_readTree_84 ?_
              refine g_get C iX9 (ci := 9) (o := 0) (v := .ref (ad 9)) rfl rfl 14 (by decide) rfl tw_X9_35 dX9_readTree_85 ?_
              refine g_aload_n C 0 0 rfl rfl dX9_readTree_88 ?_
              refine g_aload_n C 0 0 rfl rfl dX9_readTree_89 ?_
              refine g_get C iX9 (ci := 9) (o := 0) (v := vI (σ 0 31)) rfl rfl 31 (by decide) rfl tw_X9_170 dX9_readTree_90 ?_
              refine g_callIv C (m_X9_here l D cA ad h) hv_X9_here tw_X9_167 (o := 0) (ci := 9) (As := [vI (σ 0 31)]) (st := [.ref (ad 9)]) rfl rfl rfl rfl ⟨Nat.le_of_ble_eq_true rfl, Nat.le_of_ble_eq_true rfl⟩ rfl rfl (Nat.le_of_ble_eq_true rfl) dX9_readTree_93 (fun r4 σ3 h => ?_)
              try dsimp only at h
              obtain ⟨hi, h⟩ := h
              refine g_iald C (o := 9) (N := 204) rfl rfl hi rfl dX9_readTree_96 ?_
              refine g_if_le C rfl 126 (by decide) dX9_readTree_97 (fun hc => ?_) (fun hc => ?_)
              · have h := h.1 hc
                exact g_pick [0] rfl (m_X9_readTree_B126 C hlocks hr h)
              · have h := h.2 hc
                refine g_aload_n C 0 0 rfl rfl dX9_readTree_100 ?_
                refine g_aload_n C 0 0 rfl rfl dX9_readTree_101 ?_
                refine g_get C iX9 (ci := 9) (o := 0) (v := .ref (ad 8)) rfl rfl 13 (by decide) rfl tw_X9_32 dX9_readTree_102 ?_
                refine g_aload_n C 0 0 rfl rfl dX9_readTree_105 ?_
                refine g_aload_n C 0 0 rfl rfl dX9_readTree_106 ?_
                refine g_get C iX9 (ci := 9) (o := 0) (v := vI (σ3 0 31)) rfl rfl 31 (by decide) rfl tw_X9_170 dX9_readTree_107 ?_
                refine g_callIv C (m_X9_here l D cA ad h) hv_X9_here tw_X9_167 (o := 0) (ci := 9) (As := [vI (σ3 0 31)]) (st := [.ref (ad 8), .ref (ad 0)]) rfl rfl rfl rfl ⟨Nat.le_of_ble_eq_true rfl, Nat.le_of_ble_eq_true rfl⟩ rfl rfl (Nat.le_of_ble_eq_true rfl) dX9_readTree_110 (fun r6 σ5 h => ?_)
                try dsimp only at h
                obtain ⟨hi, h⟩ := h
                refine g_iald C (o := 8) (N := 204) rfl rfl hi rfl dX9_readTree_113 ?_
                refine g_put C iX9 (ci := 9) (o := 0) (z := (σ5 8 (w32 r6).toNat)) (ty := .int) rfl tyX9_ok nmX9 rfl 31 (by decide) rfl rfl tw_X9_170 rfl (by decide +kernel) rfl rfl dX9_readTree_114 (fun σ7 eσ7 => ?_)
                have h := h σ7 eσ7
                refine g_aload_n C 0 0 rfl rfl dX9_readTree_117 ?_
                refine g_callIv C (m_X9_next l D cA ad h) hv_X9_next tw_X9_144 (o := 0) (ci := 9) (As := []) (st := []) rfl rfl rfl rfl ⟨Nat.le_of_ble_eq_true rfl, Nat.le_of_ble_eq_true rfl⟩ rfl rfl (Nat.le_of_ble_eq_true rfl) dX9_readTree_118 (fun r9 σ8 h => ?_)
                try dsimp only at h
                refine g_if_ne C rfl 131 (by decide) dX9_readTree_121 (fun hc => ?_) (fun hc => ?_)
                · have h := h.1 hc
                  exact g_pick [0] rfl (m_X9_readTree_B131 C hlocks hr (fun _ _ h => ih _ _ h) h)
                · have h := h.2 hc
                  refine g_iconst C dX9_readTree_124 ?_
                  exact g_zret C hlocks hr (by decide) h dX9_readTree_125
        · have h := h.2 hc
          refine g_aload_n C 0 0 rfl rfl dX9_readTree_51 ?_
          refine g_callIv C (m_X9_newNode l D cA ad h) hv_X9_newNode tw_X9_177 (o := 0) (ci := 9) (As := []) (st := []) rfl rfl rfl rfl ⟨Nat.le_of_ble_eq_true rfl, Nat.le_of_ble_eq_true rfl⟩ rfl rfl (Nat.le_of_ble_eq_true rfl) dX9_readTree_52 (fun r11 σ10 h => ?_)
          try dsimp only at h
          refine g_if_eq C rfl 65 (by decide) dX9_readTree_55 (fun hc => ?_) (fun hc => ?_)
          · have h := h.1 hc
            refine g_iconst C dX9_readTree_65 ?_
            exact g_zret C hlocks hr (by decide) h dX9_readTree_66
          · have h := h.2 hc
            refine g_aload_n C 0 0 rfl rfl dX9_readTree_58 ?_
            refine g_callIv C (m_X9_next l D cA ad h) hv_X9_next tw_X9_144 (o := 0) (ci := 9) (As := []) (st := []) rfl rfl rfl rfl ⟨Nat.le_of_ble_eq_true rfl, Nat.le_of_ble_eq_true rfl⟩ rfl rfl (Nat.le_of_ble_eq_true rfl) dX9_readTree_59 (fun r13 σ12 h => ?_)
            try dsimp only at h
            refine g_if_ne C rfl 131 (by decide) dX9_readTree_62 (fun hc => ?_) (fun hc => ?_)
            · have h := h.1 hc
              exact g_pick [0] rfl (m_X9_readTree_B131 C hlocks hr (fun _ _ h => ih _ _ h) h)
            · have h := h.2 hc
              refine g_iconst C dX9_readTree_65 ?_
              exact g_zret C hlocks hr (by decide) h dX9_readTree_66
      · have h := h.2 hc
        refine g_aload_n C 0 0 rfl rfl dX9_readTree_34 ?_
        refine g_callIv C (m_X9_labelled l D cA ad h) hv_X9_labelled tw_X9_192 (o := 0) (ci := 9) (As := []) (st := []) rfl rfl rfl rfl ⟨Nat.le_of_ble_eq_true rfl, Nat.le_of_ble_eq_true rfl⟩ rfl rfl (Nat.le_of_ble_eq_true rfl) dX9_readTree_35 (fun r15 σ14 h => ?_)
        try dsimp only at h
        refine g_if_ne C rfl 131 (by decide) dX9_readTree_38 (fun hc => ?_) (fun hc => ?_)
        · have h := h.1 hc
          exact g_pick [0] rfl (m_X9_readTree_B131 C hlocks hr (fun _ _ h => ih _ _ h) h)
        · have h := h.2 hc
          refine g_iconst C dX9_readTree_41 ?_
          exact g_zret C hlocks hr (by decide) h dX9_readTree_42
set_option maxRecDepth 100000 in
set_option maxHeartbeats 4000000 in
theorem m_X9_readTree_E {p : Program} {l : Launch} {e : Env} {s : State} {m : MethodId} {args : Array Value} {below : List Frame} {meth : Method} {c : Code} {D : va_G} {cA : Nat → ClassId} {ad : Nat → Nat} (C : Cx p s m args c cX9_readTree RX9 2 D cA shM ad zsM) (hlocks : meth.locks = false) (hr : meth.sig.returnType = (some .boolean)) {Q : Int → St → Prop} {σ : St} (h : wp_X9_readTree Q σ) : G p l e rm_X9_readTree s m args below meth c 0 0 2 D cA shM ad (QI D cA shM ad zsM below args s Q) σ [(0, .ref (ad 0))] [] 0 := by
  unfold wp_X9_readTree at h
  refine g_aload_n C 0 0 rfl rfl dX9_readTree_0 ?_
  refine g_iconst C dX9_readTree_1 ?_
  refine g_put C iX9 (ci := 9) (o := 0) (z := 0) (ty := .int) rfl tyX9_ok nmX9 rfl 30 (by decide) rfl rfl tw_X9_157 rfl (by decide +kernel) rfl rfl dX9_readTree_2 (fun σ1 eσ1 => ?_)
  have h := h σ1 eσ1
  refine g_aload_n C 0 0 rfl rfl dX9_readTree_5 ?_
  refine g_iconst C dX9_readTree_6 ?_
  refine g_put C iX9 (ci := 9) (o := 0) (z := (-1)) (ty := .int) rfl tyX9_ok nmX9 rfl 31 (by decide) rfl rfl tw_X9_170 rfl (by decide +kernel) rfl rfl dX9_readTree_7 (fun σ2 eσ2 => ?_)
  have h := h σ2 eσ2
  refine g_aload_n C 0 0 rfl rfl dX9_readTree_10 ?_
  refine g_iconst C dX9_readTree_11 ?_
  refine g_put C iX9 (ci := 9) (o := 0) (z := (-1)) (ty := .int) rfl tyX9_ok nmX9 rfl 32 (by decide) rfl rfl tw_X9_180 rfl (by decide +kernel) rfl rfl dX9_readTree_12 (fun σ3 eσ3 => ?_)
  have h := h σ3 eσ3
  refine g_aload_n C 0 0 rfl rfl dX9_readTree_15 ?_
  refine g_iconst C dX9_readTree_16 ?_
  refine g_put C iX9 (ci := 9) (o := 0) (z := (-1)) (ty := .int) rfl tyX9_ok nmX9 rfl 34 (by decide) rfl rfl tw_X9_183 rfl (by decide +kernel) rfl rfl dX9_readTree_17 (fun σ4 eσ4 => ?_)
  have h := h σ4 eσ4
  refine g_iconst C dX9_readTree_20 ?_
  refine g_istore_n C 1 [(0, .ref (ad 0))] rfl (by decide) rfl dX9_readTree_21 ?_
  obtain ⟨nn, h⟩ := h
  exact g_pick [1, 0] rfl (m_X9_readTree_L22 C hlocks hr nn _ _ h)
set_option maxRecDepth 100000 in
set_option maxHeartbeats 4000000 in
theorem m_X9_readTree (l : Launch) (D : va_G) (cA : Nat → ClassId) (ad : Nat → Nat) {Q : Int → St → Prop} {σ : St} (h : wp_X9_readTree Q σ) : CtI l yX9_readTree (.code yX9_readTree cX9_readTree 2 (some .boolean)) rm_X9_readTree D cA shM ad zsM [.ref (ad 0)] σ Q :=
  ct_I RX9 (by decide +kernel) rfl (Nat.le_of_ble_eq_true rfl) (fun p e s m args below meth c C hlocks hr => m_X9_readTree_E C hlocks hr h)
abbrev rm_X9_look : Room := { frames := 2, cells := 0, slots := 0, locals := 21 }
set_option maxRecDepth 100000 in
set_option maxHeartbeats 4000000 in
theorem m_X9_look_B181 {p : Program} {l : Launch} {e : Env} {s : State} {m : MethodId} {args : Array Value} {below : List Frame} {meth : Method} {c : Code} {D : va_G} {cA : Nat → ClassId} {ad : Nat → Nat} (C : Cx p s m args c cX9_look RX9 4 D cA shM ad zsM) (hlocks : meth.locks = false) (hr : meth.sig.returnType = none) {Q : St → Prop} {K7 : Int → St → Prop} (hK7 : ∀ (x1 : Int) (σ : St), K7 x1 σ → G p l e rm_X9_look s m args below meth c 0 0 4 D cA shM ad (QV D cA shM ad zsM below args s Q) σ [(0, .ref (ad 0)), (1, vI x1)] [] 7) {x1 y1 y2 : Int} {σ : St} (h : wp_X9_look_B181 K7 x1 y1 y2 Q σ) : G p l e rm_X9_look s m args below meth c 0 0 4 D cA shM ad (QV D cA shM ad zsM below args s Q) σ [(0, .ref (ad 0)), (1, vI x1)] [vI y2, vI y1, .ref (ad 16)] 181 := by
  unfold wp_X9_look_B181 at h
  obtain ⟨hi, h⟩ := h
  refine g_zast C (o := 16) (N := 204) rfl rfl hi rfl dX9_look_181 (fun σ1 eσ1 => ?_)
  have h := h σ1 eσ1
  refine g_iinc C 1 1 [(0, .ref (ad 0))] rfl (by decide) rfl dX9_look_182 (fun x_2 ex_2 => ?_)
  have h := h x_2 ex_2
  refine g_goto C 7 (by decide) dX9_look_185 ?_
  exact g_pick [1, 0] rfl (hK7 _ _ h)
set_option maxRecDepth 100000 in
set_option maxHeartbeats 4000000 in
theorem m_X9_look_B176 {p : Program} {l : Launch} {e : Env} {s : State} {m : MethodId} {args : Array Value} {below : List Frame} {meth : Method} {c : Code} {D : va_G} {cA : Nat → ClassId} {ad : Nat → Nat} (C : Cx p s m args c cX9_look RX9 4 D cA shM ad zsM) (hlocks : meth.locks = false) (hr : meth.sig.returnType = none) {Q : St → Prop} {K7 : Int → St → Prop} (hK7 : ∀ (x1 : Int) (σ : St), K7 x1 σ → G p l e rm_X9_look s m args below meth c 0 0 4 D cA shM ad (QV D cA shM ad zsM below args s Q) σ [(0, .ref (ad 0)), (1, vI x1)] [] 7) {x1 y1 : Int} {σ : St} (h : wp_X9_look_B176 K7 x1 y1 Q σ) : G p l e rm_X9_look s m args below meth c 0 0 4 D cA shM ad (QV D cA shM ad zsM below args s Q) σ [(0, .ref (ad 0)), (1, vI x1)] [vI y1, .ref (ad 16)] 176 := by
  unfold wp_X9_look_B176 at h
  refine g_iconst C dX9_look_176 ?_
  refine g_goto C 181 (by decide) dX9_look_177 ?_
  exact g_pick [0, 1] rfl (m_X9_look_B181 C hlocks hr hK7 h)
set_option maxRecDepth 100000 in
set_option maxHeartbeats 4000000 in
theorem m_X9_look_B180 {p : Program} {l : Launch} {e : Env} {s : State} {m : MethodId} {args : Array Value} {below : List Frame} {meth : Method} {c : Code} {D : va_G} {cA : Nat → ClassId} {ad : Nat → Nat} (C : Cx p s m args c cX9_look RX9 4 D cA shM ad zsM) (hlocks : meth.locks = false) (hr : meth.sig.returnType = none) {Q : St → Prop} {K7 : Int → St → Prop} (hK7 : ∀ (x1 : Int) (σ : St), K7 x1 σ → G p l e rm_X9_look s m args below meth c 0 0 4 D cA shM ad (QV D cA shM ad zsM below args s Q) σ [(0, .ref (ad 0)), (1, vI x1)] [] 7) {x1 y1 : Int} {σ : St} (h : wp_X9_look_B180 K7 x1 y1 Q σ) : G p l e rm_X9_look s m args below meth c 0 0 4 D cA shM ad (QV D cA shM ad zsM below args s Q) σ [(0, .ref (ad 0)), (1, vI x1)] [vI y1, .ref (ad 16)] 180 := by
  unfold wp_X9_look_B180 at h
  refine g_iconst C dX9_look_180 ?_
  exact g_pick [0, 1] rfl (m_X9_look_B181 C hlocks hr hK7 h)
set_option maxRecDepth 100000 in
set_option maxHeartbeats 4000000 in
theorem m_X9_look_B137 {p : Program} {l : Launch} {e : Env} {s : State} {m : MethodId} {args : Array Value} {below : List Frame} {meth : Method} {c : Code} {D : va_G} {cA : Nat → ClassId} {ad : Nat → Nat} (C : Cx p s m args c cX9_look RX9 4 D cA shM ad zsM) (hlocks : meth.locks = false) (hr : meth.sig.returnType = none) {Q : St → Prop} {K7 : Int → St → Prop} (hK7 : ∀ (x1 : Int) (σ : St), K7 x1 σ → G p l e rm_X9_look s m args below meth c 0 0 4 D cA shM ad (QV D cA shM ad zsM below args s Q) σ [(0, .ref (ad 0)), (1, vI x1)] [] 7) {x1 x2 y1 y2 : Int} {σ : St} (h : wp_X9_look_B137 K7 x1 x2 y1 y2 Q σ) : G p l e rm_X9_look s m args below meth c 0 0 4 D cA shM ad (QV D cA shM ad zsM below args s Q) σ [(0, .ref (ad 0)), (1, vI x1), (2, vI x2)] [vI y2, vI y1, .ref (ad 15)] 137 := by
  unfold wp_X9_look_B137 at h
  obtain ⟨hi, h⟩ := h
  refine g_zast C (o := 15) (N := 204) rfl rfl hi rfl dX9_look_137 (fun σ1 eσ1 => ?_)
  have h := h σ1 eσ1
  refine g_aload_n C 0 0 rfl rfl dX9_look_138 ?_
  refine g_get C iX9 (ci := 9) (o := 0) (v := .ref (ad 16)) rfl rfl 21 (by decide) rfl tw_X9_57 dX9_look_139 ?_
  refine g_iload_n C 2 2 rfl rfl dX9_look_142 ?_
  refine g_aload_n C 0 0 rfl rfl dX9_look_143 ?_
  refine g_get C iX9 (ci := 9) (o := 0) (v := .ref (ad 14)) rfl rfl 19 (by decide) rfl tw_X9_51 dX9_look_144 ?_
  refine g_iload_n C 2 2 rfl rfl dX9_look_147 ?_
  obtain ⟨hi, h⟩ := h
  refine g_zald C (o := 14) (N := 204) rfl rfl hi rfl dX9_look_148 ?_
  refine g_if_ne C rfl 176 (by decide) dX9_look_149 (fun hc => ?_) (fun hc => ?_)
  · have h := h.1 hc
    exact g_pick [0, 1] rfl (m_X9_look_B176 C hlocks hr hK7 h)
  · have h := h.2 hc
    refine g_aload_n C 0 0 rfl rfl dX9_look_152 ?_
    refine g_get C iX9 (ci := 9) (o := 0) (v := .ref (ad 11)) rfl rfl 16 (by decide) rfl tw_X9_41 dX9_look_153 ?_
    refine g_iload_n C 2 2 rfl rfl dX9_look_156 ?_
    obtain ⟨hi, h⟩ := h
    refine g_iald C (o := 11) (N := 204) rfl rfl hi rfl dX9_look_157 ?_
    refine g_iconst C dX9_look_158 ?_
    refine g_icmp_eq C (y' := (-1)) rfl (by decide) 180 (by decide) dX9_look_159 (fun hc => ?_) (fun hc => ?_)
    · have h := h.1 hc
      exact g_pick [0, 1] rfl (m_X9_look_B180 C hlocks hr hK7 h)
    · have h := h.2 hc
      refine g_aload_n C 0 0 rfl rfl dX9_look_162 ?_
      refine g_get C iX9 (ci := 9) (o := 0) (v := .ref (ad 16)) rfl rfl 21 (by decide) rfl tw_X9_57 dX9_look_163 ?_
      refine g_aload_n C 0 0 rfl rfl dX9_look_166 ?_
      refine g_get C iX9 (ci := 9) (o := 0) (v := .ref (ad 11)) rfl rfl 16 (by decide) rfl tw_X9_41 dX9_look_167 ?_
      refine g_iload_n C 2 2 rfl rfl dX9_look_170 ?_
      obtain ⟨hi, h⟩ := h
      refine g_iald C (o := 11) (N := 204) rfl rfl hi rfl dX9_look_171 ?_
      obtain ⟨hi, h⟩ := h
      refine g_zald C (o := 16) (N := 204) rfl rfl hi rfl dX9_look_172 ?_
      refine g_if_eq C rfl 180 (by decide) dX9_look_173 (fun hc => ?_) (fun hc => ?_)
      · have h := h.1 hc
        exact g_pick [0, 1] rfl (m_X9_look_B180 C hlocks hr hK7 h)
      · have h := h.2 hc
        exact g_pick [0, 1] rfl (m_X9_look_B176 C hlocks hr hK7 h)
set_option maxRecDepth 100000 in
set_option maxHeartbeats 4000000 in
theorem m_X9_look_B132 {p : Program} {l : Launch} {e : Env} {s : State} {m : MethodId} {args : Array Value} {below : List Frame} {meth : Method} {c : Code} {D : va_G} {cA : Nat → ClassId} {ad : Nat → Nat} (C : Cx p s m args c cX9_look RX9 4 D cA shM ad zsM) (hlocks : meth.locks = false) (hr : meth.sig.returnType = none) {Q : St → Prop} {K7 : Int → St → Prop} (hK7 : ∀ (x1 : Int) (σ : St), K7 x1 σ → G p l e rm_X9_look s m args below meth c 0 0 4 D cA shM ad (QV D cA shM ad zsM below args s Q) σ [(0, .ref (ad 0)), (1, vI x1)] [] 7) {x1 x2 y1 : Int} {σ : St} (h : wp_X9_look_B132 K7 x1 x2 y1 Q σ) : G p l e rm_X9_look s m args below meth c 0 0 4 D cA shM ad (QV D cA shM ad zsM below args s Q) σ [(0, .ref (ad 0)), (1, vI x1), (2, vI x2)] [vI y1, .ref (ad 15)] 132 := by
  unfold wp_X9_look_B132 at h
  refine g_iconst C dX9_look_132 ?_
  refine g_goto C 137 (by decide) dX9_look_133 ?_
  exact g_pick [0, 1, 2] rfl (m_X9_look_B137 C hlocks hr hK7 h)
set_option maxRecDepth 100000 in
set_option maxHeartbeats 4000000 in
theorem m_X9_look_B136 {p : Program} {l : Launch} {e : Env} {s : State} {m : MethodId} {args : Array Value} {below : List Frame} {meth : Method} {c : Code} {D : va_G} {cA : Nat → ClassId} {ad : Nat → Nat} (C : Cx p s m args c cX9_look RX9 4 D cA shM ad zsM) (hlocks : meth.locks = false) (hr : meth.sig.returnType = none) {Q : St → Prop} {K7 : Int → St → Prop} (hK7 : ∀ (x1 : Int) (σ : St), K7 x1 σ → G p l e rm_X9_look s m args below meth c 0 0 4 D cA shM ad (QV D cA shM ad zsM below args s Q) σ [(0, .ref (ad 0)), (1, vI x1)] [] 7) {x1 x2 y1 : Int} {σ : St} (h : wp_X9_look_B136 K7 x1 x2 y1 Q σ) : G p l e rm_X9_look s m args below meth c 0 0 4 D cA shM ad (QV D cA shM ad zsM below args s Q) σ [(0, .ref (ad 0)), (1, vI x1), (2, vI x2)] [vI y1, .ref (ad 15)] 136 := by
  unfold wp_X9_look_B136 at h
  refine g_iconst C dX9_look_136 ?_
  exact g_pick [0, 1, 2] rfl (m_X9_look_B137 C hlocks hr hK7 h)
set_option maxRecDepth 100000 in
set_option maxHeartbeats 4000000 in
theorem m_X9_look_B93 {p : Program} {l : Launch} {e : Env} {s : State} {m : MethodId} {args : Array Value} {below : List Frame} {meth : Method} {c : Code} {D : va_G} {cA : Nat → ClassId} {ad : Nat → Nat} (C : Cx p s m args c cX9_look RX9 4 D cA shM ad zsM) (hlocks : meth.locks = false) (hr : meth.sig.returnType = none) {Q : St → Prop} {K7 : Int → St → Prop} (hK7 : ∀ (x1 : Int) (σ : St), K7 x1 σ → G p l e rm_X9_look s m args below meth c 0 0 4 D cA shM ad (QV D cA shM ad zsM below args s Q) σ [(0, .ref (ad 0)), (1, vI x1)] [] 7) {x1 x2 y1 y2 : Int} {σ : St} (h : wp_X9_look_B93 K7 x1 x2 y1 y2 Q σ) : G p l e rm_X9_look s m args below meth c 0 0 4 D cA shM ad (QV D cA shM ad zsM below args s Q) σ [(0, .ref (ad 0)), (1, vI x1), (2, vI x2)] [vI y2, vI y1, .ref (ad 14)] 93 := by
  unfold wp_X9_look_B93 at h
  obtain ⟨hi, h⟩ := h
  refine g_zast C (o := 14) (N := 204) rfl rfl hi rfl dX9_look_93 (fun σ1 eσ1 => ?_)
  have h := h σ1 eσ1
  refine g_aload_n C 0 0 rfl rfl dX9_look_94 ?_
  refine g_get C iX9 (ci := 9) (o := 0) (v := .ref (ad 15)) rfl rfl 20 (by decide) rfl tw_X9_54 dX9_look_95 ?_
  refine g_iload_n C 2 2 rfl rfl dX9_look_98 ?_
  refine g_aload_n C 0 0 rfl rfl dX9_look_99 ?_
  refine g_get C iX9 (ci := 9) (o := 0) (v := .ref (ad 13)) rfl rfl 18 (by decide) rfl tw_X9_47 dX9_look_100 ?_
  refine g_iload_n C 2 2 rfl rfl dX9_look_103 ?_
  obtain ⟨hi, h⟩ := h
  refine g_zald C (o := 13) (N := 204) rfl rfl hi rfl dX9_look_104 ?_
  refine g_if_ne C rfl 132 (by decide) dX9_look_105 (fun hc => ?_) (fun hc => ?_)
  · have h := h.1 hc
    exact g_pick [0, 1, 2] rfl (m_X9_look_B132 C hlocks hr hK7 h)
  · have h := h.2 hc
    refine g_aload_n C 0 0 rfl rfl dX9_look_108 ?_
    refine g_get C iX9 (ci := 9) (o := 0) (v := .ref (ad 11)) rfl rfl 16 (by decide) rfl tw_X9_41 dX9_look_109 ?_
    refine g_iload_n C 2 2 rfl rfl dX9_look_112 ?_
    obtain ⟨hi, h⟩ := h
    refine g_iald C (o := 11) (N := 204) rfl rfl hi rfl dX9_look_113 ?_
    refine g_iconst C dX9_look_114 ?_
    refine g_icmp_eq C (y' := (-1)) rfl (by decide) 136 (by decide) dX9_look_115 (fun hc => ?_) (fun hc => ?_)
    · have h := h.1 hc
      exact g_pick [0, 1, 2] rfl (m_X9_look_B136 C hlocks hr hK7 h)
    · have h := h.2 hc
      refine g_aload_n C 0 0 rfl rfl dX9_look_118 ?_
      refine g_get C iX9 (ci := 9) (o := 0) (v := .ref (ad 15)) rfl rfl 20 (by decide) rfl tw_X9_54 dX9_look_119 ?_
      refine g_aload_n C 0 0 rfl rfl dX9_look_122 ?_
      refine g_get C iX9 (ci := 9) (o := 0) (v := .ref (ad 11)) rfl rfl 16 (by decide) rfl tw_X9_41 dX9_look_123 ?_
      refine g_iload_n C 2 2 rfl rfl dX9_look_126 ?_
      obtain ⟨hi, h⟩ := h
      refine g_iald C (o := 11) (N := 204) rfl rfl hi rfl dX9_look_127 ?_
      obtain ⟨hi, h⟩ := h
      refine g_zald C (o := 15) (N := 204) rfl rfl hi rfl dX9_look_128 ?_
      refine g_if_eq C rfl 136 (by decide) dX9_look_129 (fun hc => ?_) (fun hc => ?_)
      · have h := h.1 hc
        exact g_pick [0, 1, 2] rfl (m_X9_look_B136 C hlocks hr hK7 h)
      · have h := h.2 hc
        exact g_pick [0, 1, 2] rfl (m_X9_look_B132 C hlocks hr hK7 h)
set_option maxRecDepth 100000 in
set_option maxHeartbeats 4000000 in
theorem m_X9_look_B88 {p : Program} {l : Launch} {e : Env} {s : State} {m : MethodId} {args : Array Value} {below : List Frame} {meth : Method} {c : Code} {D : va_G} {cA : Nat → ClassId} {ad : Nat → Nat} (C : Cx p s m args c cX9_look RX9 4 D cA shM ad zsM) (hlocks : meth.locks = false) (hr : meth.sig.returnType = none) {Q : St → Prop} {K7 : Int → St → Prop} (hK7 : ∀ (x1 : Int) (σ : St), K7 x1 σ → G p l e rm_X9_look s m args below meth c 0 0 4 D cA shM ad (QV D cA shM ad zsM below args s Q) σ [(0, .ref (ad 0)), (1, vI x1)] [] 7) {x1 x2 y1 : Int} {σ : St} (h : wp_X9_look_B88 K7 x1 x2 y1 Q σ) : G p l e rm_X9_look s m args below meth c 0 0 4 D cA shM ad (QV D cA shM ad zsM below args s Q) σ [(0, .ref (ad 0)), (1, vI x1), (2, vI x2)] [vI y1, .ref (ad 14)] 88 := by
  unfold wp_X9_look_B88 at h
  refine g_iconst C dX9_look_88 ?_
  refine g_goto C 93 (by decide) dX9_look_89 ?_
  exact g_pick [0, 1, 2] rfl (m_X9_look_B93 C hlocks hr hK7 h)
set_option maxRecDepth 100000 in
set_option maxHeartbeats 4000000 in
theorem m_X9_look_B92 {p : Program} {l : Launch} {e : Env} {s : State} {m : MethodId} {args : Array Value} {below : List Frame} {meth : Method} {c : Code} {D : va_G} {cA : Nat → ClassId} {ad : Nat → Nat} (C : Cx p s m args c cX9_look RX9 4 D cA shM ad zsM) (hlocks : meth.locks = false) (hr : meth.sig.returnType = none) {Q : St → Prop} {K7 : Int → St → Prop} (hK7 : ∀ (x1 : Int) (σ : St), K7 x1 σ → G p l e rm_X9_look s m args below meth c 0 0 4 D cA shM ad (QV D cA shM ad zsM below args s Q) σ [(0, .ref (ad 0)), (1, vI x1)] [] 7) {x1 x2 y1 : Int} {σ : St} (h : wp_X9_look_B92 K7 x1 x2 y1 Q σ) : G p l e rm_X9_look s m args below meth c 0 0 4 D cA shM ad (QV D cA shM ad zsM below args s Q) σ [(0, .ref (ad 0)), (1, vI x1), (2, vI x2)] [vI y1, .ref (ad 14)] 92 := by
  unfold wp_X9_look_B92 at h
  refine g_iconst C dX9_look_92 ?_
  exact g_pick [0, 1, 2] rfl (m_X9_look_B93 C hlocks hr hK7 h)
set_option maxRecDepth 100000 in
set_option maxHeartbeats 4000000 in
theorem m_X9_look_B58 {p : Program} {l : Launch} {e : Env} {s : State} {m : MethodId} {args : Array Value} {below : List Frame} {meth : Method} {c : Code} {D : va_G} {cA : Nat → ClassId} {ad : Nat → Nat} (C : Cx p s m args c cX9_look RX9 4 D cA shM ad zsM) (hlocks : meth.locks = false) (hr : meth.sig.returnType = none) {Q : St → Prop} {K7 : Int → St → Prop} (hK7 : ∀ (x1 : Int) (σ : St), K7 x1 σ → G p l e rm_X9_look s m args below meth c 0 0 4 D cA shM ad (QV D cA shM ad zsM below args s Q) σ [(0, .ref (ad 0)), (1, vI x1)] [] 7) {x1 x2 x3 y1 y2 : Int} {σ : St} (h : wp_X9_look_B58 K7 x1 x2 x3 y1 y2 Q σ) : G p l e rm_X9_look s m args below meth c 0 0 4 D cA shM ad (QV D cA shM ad zsM below args s Q) σ [(0, .ref (ad 0)), (1, vI x1), (2, vI x2), (3, vI x3)] [vI y2, vI y1, .ref (ad 13)] 58 := by
  unfold wp_X9_look_B58 at h
  obtain ⟨hi, h⟩ := h
  refine g_zast C (o := 13) (N := 204) rfl rfl hi rfl dX9_look_58 (fun σ1 eσ1 => ?_)
  have h := h σ1 eσ1
  refine g_aload_n C 0 0 rfl rfl dX9_look_59 ?_
  refine g_get C iX9 (ci := 9) (o := 0) (v := .ref (ad 14)) rfl rfl 19 (by decide) rfl tw_X9_51 dX9_look_60 ?_
  refine g_iload_n C 2 2 rfl rfl dX9_look_63 ?_
  refine g_aload_n C 0 0 rfl rfl dX9_look_64 ?_
  refine g_get C iX9 (ci := 9) (o := 0) (v := .ref (ad 6)) rfl rfl 11 (by decide) rfl tw_X9_26 dX9_look_65 ?_
  refine g_iload_n C 2 2 rfl rfl dX9_look_68 ?_
  obtain ⟨hi, h⟩ := h
  refine g_iald C (o := 6) (N := 204) rfl rfl hi rfl dX9_look_69 ?_
  refine g_iconst C dX9_look_70 ?_
  refine g_icmp_eq C (y' := 3) rfl (by decide) 88 (by decide) dX9_look_71 (fun hc => ?_) (fun hc => ?_)
  · have h := h.1 hc
    exact g_pick [0, 1, 2] rfl (m_X9_look_B88 C hlocks hr hK7 h)
  · have h := h.2 hc
    refine g_iload_n C 3 3 rfl rfl dX9_look_74 ?_
    refine g_iconst C dX9_look_75 ?_
    refine g_icmp_eq C (y' := (-1)) rfl (by decide) 92 (by decide) dX9_look_76 (fun hc => ?_) (fun hc => ?_)
    · have h := h.1 hc
      exact g_pick [0, 1, 2] rfl (m_X9_look_B92 C hlocks hr hK7 h)
    · have h := h.2 hc
      refine g_aload_n C 0 0 rfl rfl dX9_look_79 ?_
      refine g_get C iX9 (ci := 9) (o := 0) (v := .ref (ad 16)) rfl rfl 21 (by decide) rfl tw_X9_57 dX9_look_80 ?_
      refine g_iload_n C 3 3 rfl rfl dX9_look_83 ?_
      obtain ⟨hi, h⟩ := h
      refine g_zald C (o := 16) (N := 204) rfl rfl hi rfl dX9_look_84 ?_
      refine g_if_eq C rfl 92 (by decide) dX9_look_85 (fun hc => ?_) (fun hc => ?_)
      · have h := h.1 hc
        exact g_pick [0, 1, 2] rfl (m_X9_look_B92 C hlocks hr hK7 h)
      · have h := h.2 hc
        exact g_pick [0, 1, 2] rfl (m_X9_look_B88 C hlocks hr hK7 h)
set_option maxRecDepth 100000 in
set_option maxHeartbeats 4000000 in
theorem m_X9_look_B53 {p : Program} {l : Launch} {e : Env} {s : State} {m : MethodId} {args : Array Value} {below : List Frame} {meth : Method} {c : Code} {D : va_G} {cA : Nat → ClassId} {ad : Nat → Nat} (C : Cx p s m args c cX9_look RX9 4 D cA shM ad zsM) (hlocks : meth.locks = false) (hr : meth.sig.returnType = none) {Q : St → Prop} {K7 : Int → St → Prop} (hK7 : ∀ (x1 : Int) (σ : St), K7 x1 σ → G p l e rm_X9_look s m args below meth c 0 0 4 D cA shM ad (QV D cA shM ad zsM below args s Q) σ [(0, .ref (ad 0)), (1, vI x1)] [] 7) {x1 x2 x3 y1 : Int} {σ : St} (h : wp_X9_look_B53 K7 x1 x2 x3 y1 Q σ) : G p l e rm_X9_look s m args below meth c 0 0 4 D cA shM ad (QV D cA shM ad zsM below args s Q) σ [(0, .ref (ad 0)), (1, vI x1), (2, vI x2), (3, vI x3)] [vI y1, .ref (ad 13)] 53 := by
  unfold wp_X9_look_B53 at h
  refine g_iconst C dX9_look_53 ?_
  refine g_goto C 58 (by decide) dX9_look_54 ?_
  exact g_pick [0, 1, 2, 3] rfl (m_X9_look_B58 C hlocks hr hK7 h)
set_option maxRecDepth 100000 in
set_option maxHeartbeats 4000000 in
theorem m_X9_look_B57 {p : Program} {l : Launch} {e : Env} {s : State} {m : MethodId} {args : Array Value} {below : List Frame} {meth : Method} {c : Code} {D : va_G} {cA : Nat → ClassId} {ad : Nat → Nat} (C : Cx p s m args c cX9_look RX9 4 D cA shM ad zsM) (hlocks : meth.locks = false) (hr : meth.sig.returnType = none) {Q : St → Prop} {K7 : Int → St → Prop} (hK7 : ∀ (x1 : Int) (σ : St), K7 x1 σ → G p l e rm_X9_look s m args below meth c 0 0 4 D cA shM ad (QV D cA shM ad zsM below args s Q) σ [(0, .ref (ad 0)), (1, vI x1)] [] 7) {x1 x2 x3 y1 : Int} {σ : St} (h : wp_X9_look_B57 K7 x1 x2 x3 y1 Q σ) : G p l e rm_X9_look s m args below meth c 0 0 4 D cA shM ad (QV D cA shM ad zsM below args s Q) σ [(0, .ref (ad 0)), (1, vI x1), (2, vI x2), (3, vI x3)] [vI y1, .ref (ad 13)] 57 := by
  unfold wp_X9_look_B57 at h
  refine g_iconst C dX9_look_57 ?_
  exact g_pick [0, 1, 2, 3] rfl (m_X9_look_B58 C hlocks hr hK7 h)
set_option maxRecDepth 100000 in
set_option maxHeartbeats 4000000 in
theorem m_X9_look_L7 {p : Program} {l : Launch} {e : Env} {s : State} {m : MethodId} {args : Array Value} {below : List Frame} {meth : Method} {c : Code} {D : va_G} {cA : Nat → ClassId} {ad : Nat → Nat} (C : Cx p s m args c cX9_look RX9 4 D cA shM ad zsM) (hlocks : meth.locks = false) (hr : meth.sig.returnType = none) {Q : St → Prop} : ∀ (n : Nat) (x1 : Int) (σ : St), wp_X9_look_L7 Q n x1 σ → G p l e rm_X9_look s m args below meth c 0 0 4 D cA shM ad (QV D cA shM ad zsM below args s Q) σ [(0, .ref (ad 0)), (1, vI x1)] [] 7 := by
  intro n
  induction n with
  | zero => intro _ _ h; exact h.elim
  | succ n ih =>
    intro x1 σ h
    simp only [wp_X9_look_L7] at h
    refine g_iload_n C 1 1 rfl rfl dX9_look_7 ?_
    refine g_if_lt C rfl 188 (by decide) dX9_look_8 (fun hc => ?_) (fun hc => ?_)
    · have h := h.1 hc
      exact g_vret C hlocks hr h dX9_look_188
    · have h := h.2 hc
      refine g_aload_n C 0 0 rfl rfl dX9_look_11 ?_
      refine g_iload_n C 1 1 rfl rfl dX9_look_12 ?_
      refine g_callIv C (m_X9_here l D cA ad h) hv_X9_here tw_X9_167 (o := 0) (ci := 9) (As := [vI x1]) (st := []) rfl rfl rfl rfl ⟨Nat.le_of_ble_eq_true rfl, Nat.le_of_ble_eq_true rfl⟩ rfl rfl (Nat.le_of_ble_eq_true rfl) dX9_look_13 (fun r2 σ1 h => ?_)
      try dsimp only at h
      refine g_istore_n C 2 [(0, .ref (ad 0)), (1, vI x1)] rfl (by decide) rfl dX9_look_16 ?_
      refine g_aload_n C 1 0 rfl rfl dX9_look_17 ?_
      refine g_get C iX9 (ci := 9) (o := 0) (v := .ref (ad 12)) rfl rfl 17 (by decide) rfl tw_X9_44 dX9_look_18 ?_
      refine g_iload_n C 0 2 rfl rfl dX9_look_21 ?_
      obtain ⟨hi, h⟩ := h
      refine g_iald C (o := 12) (N := 204) rfl rfl hi rfl dX9_look_22 ?_
      refine g_name (fun x_3 ex_3 => ?_)
      have h := h x_3 ex_3
      refine g_istore_n C 3 [(2, vI r2), (0, .ref (ad 0)), (1, vI x1)] rfl (by decide) rfl dX9_look_23 ?_
      refine g_aload_n C 2 0 rfl rfl dX9_look_24 ?_
      refine g_get C iX9 (ci := 9) (o := 0) (v := .ref (ad 13)) rfl rfl 18 (by decide) rfl tw_X9_47 dX9_look_25 ?_
      refine g_iload_n C 1 2 rfl rfl dX9_look_28 ?_
      refine g_aload_n C 2 0 rfl rfl dX9_look_29 ?_
      refine g_get C iX9 (ci := 9) (o := 0) (v := .ref (ad 6)) rfl rfl 11 (by decide) rfl tw_X9_26 dX9_look_30 ?_
      refine g_iload_n C 1 2 rfl rfl dX9_look_33 ?_
      obtain ⟨hi, h⟩ := h
      refine g_iald C (o := 6) (N := 204) rfl rfl hi rfl dX9_look_34 ?_
      refine g_iconst C dX9_look_35 ?_
      refine g_icmp_eq C (y' := 2) rfl (by decide) 53 (by decide) dX9_look_36 (fun hc => ?_) (fun hc => ?_)
      · have h := h.1 hc
        exact g_pick [2, 3, 1, 0] rfl (m_X9_look_B53 C hlocks hr (fun _ _ h => ih _ _ h) h)
      · have h := h.2 hc
        refine g_iload_n C 0 3 rfl rfl dX9_look_39 ?_
        refine g_iconst C dX9_look_40 ?_
        refine g_icmp_eq C (y' := (-1)) rfl (by decide) 57 (by decide) dX9_look_41 (fun hc => ?_) (fun hc => ?_)
        · have h := h.1 hc
          exact g_pick [2, 3, 1, 0] rfl (m_X9_look_B57 C hlocks hr (fun _ _ h => ih _ _ h) h)
        · have h := h.2 hc
          refine g_aload_n C 2 0 rfl rfl dX9_look_44 ?_
          refine g_get C iX9 (ci := 9) (o := 0) (v := .ref (ad 15)) rfl rfl 20 (by decide) rfl tw_X9_54 dX9_look_45 ?_
          refine g_iload_n C 0 3 rfl rfl dX9_look_48 ?_
          obtain ⟨hi, h⟩ := h
          refine g_zald C (o := 15) (N := 204) rfl rfl hi rfl dX9_look_49 ?_
          refine g_if_eq C rfl 57 (by decide) dX9_look_50 (fun hc => ?_) (fun hc => ?_)
          · have h := h.1 hc
            exact g_pick [2, 3, 1, 0] rfl (m_X9_look_B57 C hlocks hr (fun _ _ h => ih _ _ h) h)
          · have h := h.2 hc
            exact g_pick [2, 3, 1, 0] rfl (m_X9_look_B53 C hlocks hr (fun _ _ h => ih _ _ h) h)
set_option maxRecDepth 100000 in
set_option maxHeartbeats 4000000 in
theorem m_X9_look_E {p : Program} {l : Launch} {e : Env} {s : State} {m : MethodId} {args : Array Value} {below : List Frame} {meth : Method} {c : Code} {D : va_G} {cA : Nat → ClassId} {ad : Nat → Nat} (C : Cx p s m args c cX9_look RX9 4 D cA shM ad zsM) (hlocks : meth.locks = false) (hr : meth.sig.returnType = none) {Q : St → Prop} {σ : St} (h : wp_X9_look Q σ) : G p l e rm_X9_look s m args below meth c 0 0 4 D cA shM ad (QV D cA shM ad zsM below args s Q) σ [(0, .ref (ad 0))] [] 0 := by
  unfold wp_X9_look at h
  refine g_aload_n C 0 0 rfl rfl dX9_look_0 ?_
  refine g_get C iX9 (ci := 9) (o := 0) (v := vI (σ 0 30)) rfl rfl 30 (by decide) rfl tw_X9_157 dX9_look_1 ?_
  refine g_iconst C dX9_look_4 ?_
  refine g_isub C dX9_look_5 ?_
  refine g_name (fun x_1 ex_1 => ?_)
  have h := h x_1 ex_1
  refine g_istore_n C 1 [(0, .ref (ad 0))] rfl (by decide) rfl dX9_look_6 ?_
  obtain ⟨nn, h⟩ := h
  exact g_pick [1, 0] rfl (m_X9_look_L7 C hlocks hr nn _ _ h)
set_option maxRecDepth 100000 in
set_option maxHeartbeats 4000000 in
theorem m_X9_look (l : Launch) (D : va_G) (cA : Nat → ClassId) (ad : Nat → Nat) {Q : St → Prop} {σ : St} (h : wp_X9_look Q σ) : CtV l yX9_look (.code yX9_look cX9_look 4 none) rm_X9_look D cA shM ad zsM [.ref (ad 0)] σ Q :=
  ct_V RX9 (by decide +kernel) rfl (Nat.le_of_ble_eq_true rfl) (fun p e s m args below meth c C hlocks hr => m_X9_look_E C hlocks hr h)
abbrev rm_X9_isGood : Room := { frames := 2, cells := 0, slots := 0, locals := 22 }
set_option maxRecDepth 100000 in
set_option maxHeartbeats 4000000 in
theorem m_X9_isGood_B108 {p : Program} {l : Launch} {e : Env} {s : State} {m : MethodId} {args : Array Value} {below : List Frame} {meth : Method} {c : Code} {D : va_G} {cA : Nat → ClassId} {ad : Nat → Nat} (C : Cx p s m args c cX9_isGood RX9 2 D cA shM ad zsM) (hlocks : meth.locks = false) (hr : meth.sig.returnType = (some .boolean)) {Q : Int → St → Prop} {σ : St} (h : wp_X9_isGood_B108 Q σ) : G p l e rm_X9_isGood s m args below meth c 0 0 2 D cA shM ad (QI D cA shM ad zsM below args s Q) σ [] [] 108 := by
  unfold wp_X9_isGood_B108 at h
  refine g_iconst C dX9_isGood_108 ?_
  refine g_goto C 123 (by decide) dX9_isGood_109 ?_
  exact g_zret C hlocks hr (by decide) h dX9_isGood_123
set_option maxRecDepth 100000 in
set_option maxHeartbeats 4000000 in
theorem m_X9_isGood_B80 {p : Program} {l : Launch} {e : Env} {s : State} {m : MethodId} {args : Array Value} {below : List Frame} {meth : Method} {c : Code} {D : va_G} {cA : Nat → ClassId} {ad : Nat → Nat} (C : Cx p s m args c cX9_isGood RX9 2 D cA shM ad zsM) (hlocks : meth.locks = false) (hr : meth.sig.returnType = (some .boolean)) {Q : Int → St → Prop} {x1 : Int} {σ : St} (h : wp_X9_isGood_B80 x1 Q σ) : G p l e rm_X9_isGood s m args below meth c 0 0 2 D cA shM ad (QI D cA shM ad zsM below args s Q) σ [(0, .ref (ad 0)), (1, vI x1)] [] 80 := by
  unfold wp_X9_isGood_B80 at h
  refine g_aload_n C 0 0 rfl rfl dX9_isGood_80 ?_
  refine g_get C iX9 (ci := 9) (o := 0) (v := .ref (ad 14)) rfl rfl 19 (by decide) rfl tw_X9_51 dX9_isGood_81 ?_
  refine g_iload_n C 1 1 rfl rfl dX9_isGood_84 ?_
  obtain ⟨hi, h⟩ := h
  refine g_zald C (o := 14) (N := 204) rfl rfl hi rfl dX9_isGood_85 ?_
  refine g_if_eq C rfl 116 (by decide) dX9_isGood_86 (fun hc => ?_) (fun hc => ?_)
  · have h := h.1 hc
    refine g_aload_n C 0 0 rfl rfl dX9_isGood_116 ?_
    refine g_bipush C dX9_isGood_117 (by decide) ?_
    refine g_iconst C dX9_isGood_119 ?_
    refine g_callIv C (m_X9_flaw l D cA ad h) hv_X9_flaw tw_X9_137 (o := 0) (ci := 9) (As := [vI 7, vI 0]) (st := []) rfl rfl rfl rfl ⟨Nat.le_of_ble_eq_true rfl, Nat.le_of_ble_eq_true rfl⟩ rfl rfl (Nat.le_of_ble_eq_true rfl) dX9_isGood_120 (fun r2 σ1 h => ?_)
    try dsimp only at h
    exact g_zret C hlocks hr h.1 h.2 dX9_isGood_123
  · have h := h.2 hc
    refine g_aload_n C 0 0 rfl rfl dX9_isGood_89 ?_
    refine g_get C iX9 (ci := 9) (o := 0) (v := vI (σ 0 23)) rfl rfl 23 (by decide) rfl tw_X9_154 dX9_isGood_90 ?_
    refine g_bipush C dX9_isGood_93 (by decide) ?_
    refine g_icmp_lt C (y' := 16) rfl (by decide) 108 (by decide) dX9_isGood_95 (fun hc => ?_) (fun hc => ?_)
    · have h := h.1 hc
      exact g_pick [] rfl (m_X9_isGood_B108 C hlocks hr h)
    · have h := h.2 hc
      refine g_aload_n C 0 0 rfl rfl dX9_isGood_98 ?_
      refine g_bipush C dX9_isGood_99 (by decide) ?_
      refine g_iconst C dX9_isGood_101 ?_
      refine g_callIv C (m_X9_flaw l D cA ad h) hv_X9_flaw tw_X9_137 (o := 0) (ci := 9) (As := [vI 8, vI 0]) (st := []) rfl rfl rfl rfl ⟨Nat.le_of_ble_eq_true rfl, Nat.le_of_ble_eq_true rfl⟩ rfl rfl (Nat.le_of_ble_eq_true rfl) dX9_isGood_102 (fun r4 σ3 h => ?_)
      try dsimp only at h
      refine g_if_eq C rfl 112 (by decide) dX9_isGood_105 (fun hc => ?_) (fun hc => ?_)
      · have h := h.1 hc
        refine g_iconst C dX9_isGood_112 ?_
        refine g_goto C 123 (by decide) dX9_isGood_113 ?_
        exact g_zret C hlocks hr (by decide) h dX9_isGood_123
      · have h := h.2 hc
        exact g_pick [] rfl (m_X9_isGood_B108 C hlocks hr h)
set_option maxRecDepth 100000 in
set_option maxHeartbeats 4000000 in
theorem m_X9_isGood_E {p : Program} {l : Launch} {e : Env} {s : State} {m : MethodId} {args : Array Value} {below : List Frame} {meth : Method} {c : Code} {D : va_G} {cA : Nat → ClassId} {ad : Nat → Nat} (C : Cx p s m args c cX9_isGood RX9 2 D cA shM ad zsM) (hlocks : meth.locks = false) (hr : meth.sig.returnType = (some .boolean)) {Q : Int → St → Prop} {σ : St} (h : wp_X9_isGood Q σ) : G p l e rm_X9_isGood s m args below meth c 0 0 2 D cA shM ad (QI D cA shM ad zsM below args s Q) σ [(0, .ref (ad 0))] [] 0 := by
  unfold wp_X9_isGood at h
  refine g_aload_n C 0 0 rfl rfl dX9_isGood_0 ?_
  refine g_iconst C dX9_isGood_1 ?_
  refine g_callIv C (m_X9_here l D cA ad h) hv_X9_here tw_X9_167 (o := 0) (ci := 9) (As := [vI 0]) (st := []) rfl rfl rfl rfl ⟨Nat.le_of_ble_eq_true rfl, Nat.le_of_ble_eq_true rfl⟩ rfl rfl (Nat.le_of_ble_eq_true rfl) dX9_isGood_2 (fun r2 σ1 h => ?_)
  try dsimp only at h
  refine g_istore_n C 1 [(0, .ref (ad 0))] rfl (by decide) rfl dX9_isGood_5 ?_
  refine g_aload_n C 1 0 rfl rfl dX9_isGood_6 ?_
  refine g_get C iX9 (ci := 9) (o := 0) (v := .ref (ad 6)) rfl rfl 11 (by decide) rfl tw_X9_26 dX9_isGood_7 ?_
  refine g_iload_n C 0 1 rfl rfl dX9_isGood_10 ?_
  obtain ⟨hi, h⟩ := h
  refine g_iald C (o := 6) (N := 204) rfl rfl hi rfl dX9_isGood_11 ?_
  refine g_if_eq C rfl 22 (by decide) dX9_isGood_12 (fun hc => ?_) (fun hc => ?_)
  · have h := h.1 hc
    refine g_aload_n C 1 0 rfl rfl dX9_isGood_22 ?_
    refine g_get C iX9 (ci := 9) (o := 0) (v := vI (σ1 0 34)) rfl rfl 34 (by decide) rfl tw_X9_183 dX9_isGood_23 ?_
    refine g_if_lt C rfl 39 (by decide) dX9_isGood_26 (fun hc => ?_) (fun hc => ?_)
    · have h := h.1 hc
      refine g_aload_n C 1 0 rfl rfl dX9_isGood_39 ?_
      refine g_get C iX9 (ci := 9) (o := 0) (v := vI (σ1 0 32)) rfl rfl 32 (by decide) rfl tw_X9_180 dX9_isGood_40 ?_
      refine g_iconst C dX9_isGood_43 ?_
      refine g_icmp_eq C (y' := (-1)) rfl (by decide) 80 (by decide) dX9_isGood_44 (fun hc => ?_) (fun hc => ?_)
      · have h := h.1 hc
        exact g_pick [1, 0] rfl (m_X9_isGood_B80 C hlocks hr h)
      · have h := h.2 hc
        refine g_aload_n C 1 0 rfl rfl dX9_isGood_47 ?_
        refine g_get C iX9 (ci := 9) (o := 0) (v := .ref (ad 7)) rfl rfl 12 (by decide) rfl tw_X9_29 dX9_isGood_48 ?_
        refine g_aload_n C 1 0 rfl rfl dX9_isGood_51 ?_
        refine g_aload_n C 1 0 rfl rfl dX9_isGood_52 ?_
        refine g_get C iX9 (ci := 9) (o := 0) (v := vI (σ1 0 32)) rfl rfl 32 (by decide) rfl tw_X9_180 dX9_isGood_53 ?_
        refine g_callIv C (m_X9_here l D cA ad h) hv_X9_here tw_X9_167 (o := 0) (ci := 9) (As := [vI (σ1 0 32)]) (st := [.ref (ad 7)]) rfl rfl rfl rfl ⟨Nat.le_of_ble_eq_true rfl, Nat.le_of_ble_eq_true rfl⟩ rfl rfl (Nat.le_of_ble_eq_true rfl) dX9_isGood_56 (fun r4 σ3 h => ?_)
        try dsimp only at h
        obtain ⟨hi, h⟩ := h
        refine g_iald C (o := 7) (N := 204) rfl rfl hi rfl dX9_isGood_59 ?_
        refine g_aload_n C 1 0 rfl rfl dX9_isGood_60 ?_
        refine g_get C iX9 (ci := 9) (o := 0) (v := .ref (ad 7)) rfl rfl 12 (by decide) rfl tw_X9_29 dX9_isGood_61 ?_
        refine g_iload_n C 0 1 rfl rfl dX9_isGood_64 ?_
        obtain ⟨hi, h⟩ := h
        refine g_iald C (o := 7) (N := 204) rfl rfl hi rfl dX9_isGood_65 ?_
        refine g_icmp_eq C rfl rfl 80 (by decide) dX9_isGood_66 (fun hc => ?_) (fun hc => ?_)
        · have h := h.1 hc
          exact g_pick [1, 0] rfl (m_X9_isGood_B80 C hlocks hr h)
        · have h := h.2 hc
          refine g_aload_n C 1 0 rfl rfl dX9_isGood_69 ?_
          refine g_bipush C dX9_isGood_70 (by decide) ?_
          refine g_aload_n C 1 0 rfl rfl dX9_isGood_72 ?_
          refine g_get C iX9 (ci := 9) (o := 0) (v := vI (σ3 0 33)) rfl rfl 33 (by decide) rfl tw_X9_186 dX9_isGood_73 ?_
          refine g_callIv C (m_X9_flaw l D cA ad h) hv_X9_flaw tw_X9_137 (o := 0) (ci := 9) (As := [vI 6, vI (σ3 0 33)]) (st := []) rfl rfl rfl rfl ⟨Nat.le_of_ble_eq_true rfl, Nat.le_of_ble_eq_true rfl⟩ rfl rfl (Nat.le_of_ble_eq_true rfl) dX9_isGood_76 (fun r6 σ5 h => ?_)
          try dsimp only at h
          exact g_zret C hlocks hr h.1 h.2 dX9_isGood_79
    · have h := h.2 hc
      refine g_aload_n C 1 0 rfl rfl dX9_isGood_29 ?_
      refine g_iconst C dX9_isGood_30 ?_
      refine g_aload_n C 1 0 rfl rfl dX9_isGood_31 ?_
      refine g_get C iX9 (ci := 9) (o := 0) (v := vI (σ1 0 34)) rfl rfl 34 (by decide) rfl tw_X9_183 dX9_isGood_32 ?_
      refine g_callIv C (m_X9_flaw l D cA ad h) hv_X9_flaw tw_X9_137 (o := 0) (ci := 9) (As := [vI 5, vI (σ1 0 34)]) (st := []) rfl rfl rfl rfl ⟨Nat.le_of_ble_eq_true rfl, Nat.le_of_ble_eq_true rfl⟩ rfl rfl (Nat.le_of_ble_eq_true rfl) dX9_isGood_35 (fun r8 σ7 h => ?_)
      try dsimp only at h
      exact g_zret C hlocks hr h.1 h.2 dX9_isGood_38
  · have h := h.2 hc
    refine g_aload_n C 1 0 rfl rfl dX9_isGood_15 ?_
    refine g_iconst C dX9_isGood_16 ?_
    refine g_iconst C dX9_isGood_17 ?_
    refine g_callIv C (m_X9_flaw l D cA ad h) hv_X9_flaw tw_X9_137 (o := 0) (ci := 9) (As := [vI 4, vI 0]) (st := []) rfl rfl rfl rfl ⟨Nat.le_of_ble_eq_true rfl, Nat.le_of_ble_eq_true rfl⟩ rfl rfl (Nat.le_of_ble_eq_true rfl) dX9_isGood_18 (fun r10 σ9 h => ?_)
    try dsimp only at h
    exact g_zret C hlocks hr h.1 h.2 dX9_isGood_21
set_option maxRecDepth 100000 in
set_option maxHeartbeats 4000000 in
theorem m_X9_isGood (l : Launch) (D : va_G) (cA : Nat → ClassId) (ad : Nat → Nat) {Q : Int → St → Prop} {σ : St} (h : wp_X9_isGood Q σ) : CtI l yX9_isGood (.code yX9_isGood cX9_isGood 2 (some .boolean)) rm_X9_isGood D cA shM ad zsM [.ref (ad 0)] σ Q :=
  ct_I RX9 (by decide +kernel) rfl (Nat.le_of_ble_eq_true rfl) (fun p e s m args below meth c C hlocks hr => m_X9_isGood_E C hlocks hr h)
abbrev rm_X9_forget : Room := { frames := 1, cells := 0, slots := 0, locals := 0 }
set_option maxRecDepth 100000 in
set_option maxHeartbeats 4000000 in
theorem m_X9_forget_E {p : Program} {l : Launch} {e : Env} {s : State} {m : MethodId} {args : Array Value} {below : List Frame} {meth : Method} {c : Code} {D : va_G} {cA : Nat → ClassId} {ad : Nat → Nat} (C : Cx p s m args c cX9_forget RX9 1 D cA shM ad zsM) (hlocks : meth.locks = false) (hr : meth.sig.returnType = none) {Q : St → Prop} {σ : St} (h : wp_X9_forget Q σ) : G p l e rm_X9_forget s m args below meth c 0 0 1 D cA shM ad (QV D cA shM ad zsM below args s Q) σ [(0, .ref (ad 0))] [] 0 := by
  unfold wp_X9_forget at h
  refine g_aload_n C 0 0 rfl rfl dX9_forget_0 ?_
  refine g_iconst C dX9_forget_1 ?_
  refine g_put C iX9 (ci := 9) (o := 0) (z := 0) (ty := .boolean) rfl tyX9_ok nmX9 rfl 35 (by decide) rfl rfl tw_X9_210 rfl (by decide +kernel) (nar_z (by decide)) (fit_z (by decide)) dX9_forget_2 (fun σ1 eσ1 => ?_)
  have h := h σ1 eσ1
  refine g_aload_n C 0 0 rfl rfl dX9_forget_5 ?_
  refine g_ldc2 C (n := (-1)) tw_X9_69 dX9_forget_6 ?_
  refine g_put C iX9 (ci := 9) (o := 0) (z := (-1)) (ty := .long) rfl tyX9_ok nmX9 rfl 36 (by decide) rfl rfl tw_X9_71 rfl (by decide +kernel) rfl rfl dX9_forget_9 (fun σ2 eσ2 => ?_)
  have h := h σ2 eσ2
  refine g_aload_n C 0 0 rfl rfl dX9_forget_12 ?_
  refine g_iconst C dX9_forget_13 ?_
  refine g_put C iX9 (ci := 9) (o := 0) (z := 0) (ty := .int) rfl tyX9_ok nmX9 rfl 42 (by decide) rfl rfl tw_X9_214 rfl (by decide +kernel) rfl rfl dX9_forget_14 (fun σ3 eσ3 => ?_)
  have h := h σ3 eσ3
  refine g_aload_n C 0 0 rfl rfl dX9_forget_17 ?_
  refine g_iconst C dX9_forget_18 ?_
  refine g_put C iX9 (ci := 9) (o := 0) (z := 0) (ty := .int) rfl tyX9_ok nmX9 rfl 50 (by decide) rfl rfl tw_X9_217 rfl (by decide +kernel) rfl rfl dX9_forget_19 (fun σ4 eσ4 => ?_)
  have h := h σ4 eσ4
  exact g_vret C hlocks hr h dX9_forget_22
set_option maxRecDepth 100000 in
set_option maxHeartbeats 4000000 in
theorem m_X9_forget (l : Launch) (D : va_G) (cA : Nat → ClassId) (ad : Nat → Nat) {Q : St → Prop} {σ : St} (h : wp_X9_forget Q σ) : CtV l yX9_forget (.code yX9_forget cX9_forget 1 none) rm_X9_forget D cA shM ad zsM [.ref (ad 0)] σ Q :=
  ct_V RX9 (by decide +kernel) rfl (Nat.le_of_ble_eq_true rfl) (fun p e s m args below meth c C hlocks hr => m_X9_forget_E C hlocks hr h)
abbrev rm_X9_tree : Room := { frames := 5, cells := 0, slots := 0, locals := 89 }
set_option maxRecDepth 100000 in
set_option maxHeartbeats 4000000 in
theorem m_X9_tree_B48 {p : Program} {l : Launch} {e : Env} {s : State} {m : MethodId} {args : Array Value} {below : List Frame} {meth : Method} {c : Code} {D : va_G} {cA : Nat → ClassId} {ad : Nat → Nat} (C : Cx p s m args c cX9_tree RX9 4 D cA shM ad zsM) (hlocks : meth.locks = false) (hr : meth.sig.returnType = (some .int)) {Q : Int → St → Prop} {x1 x2 x3 : Int} {σ : St} (h : wp_X9_tree_B48 x1 x2 x3 Q σ) : G p l e rm_X9_tree s m args below meth c 0 0 4 D cA shM ad (QI D cA shM ad zsM below args s Q) σ [(0, .ref (ad 0)), (1, vI x1), (2, vI x2), (3, vI x3)] [] 48 := by
  unfold wp_X9_tree_B48 at h
  refine g_aload_n C 0 0 rfl rfl dX9_tree_48 ?_
  refine g_iconst C dX9_tree_49 ?_
  refine g_put C iX9 (ci := 9) (o := 0) (z := 0) (ty := .int) rfl tyX9_ok nmX9 rfl 2 (by decide) rfl rfl tw_X9_111 rfl (by decide +kernel) rfl rfl dX9_tree_50 (fun σ1 eσ1 => ?_)
  have h := h σ1 eσ1
  refine g_iload_n C 3 3 rfl rfl dX9_tree_53 ?_
  refine g_if_ne C rfl 74 (by decide) dX9_tree_54 (fun hc => ?_) (fun hc => ?_)
  · have h := h.1 hc
    refine g_aload_n C 0 0 rfl rfl dX9_tree_74 ?_
    refine g_get C iX9 (ci := 9) (o := 0) (v := .ref (ad 17)) rfl rfl 22 (by decide) rfl tw_X9_60 dX9_tree_75 ?_
    refine g_aload_n C 0 0 rfl rfl dX9_tree_78 ?_
    refine g_get C iX9 (ci := 9) (o := 0) (v := vI (σ1 0 23)) rfl rfl 23 (by decide) rfl tw_X9_154 dX9_tree_79 ?_
    refine g_aload_n C 0 0 rfl rfl dX9_tree_82 ?_
    refine g_get C iX9 (ci := 9) (o := 0) (v := vI (σ1 0 30)) rfl rfl 30 (by decide) rfl tw_X9_157 dX9_tree_83 ?_
    obtain ⟨hi, h⟩ := h
    refine g_iast C (o := 17) (N := 17) rfl rfl hi rfl dX9_tree_86 (fun σ2 eσ2 => ?_)
    have h := h σ2 eσ2
    refine g_aload_n C 0 0 rfl rfl dX9_tree_87 ?_
    refine g_dup C rfl dX9_tree_88 ?_
    refine g_get C iX9 (ci := 9) (o := 0) (v := vI (σ2 0 23)) rfl rfl 23 (by decide) rfl tw_X9_154 dX9_tree_89 ?_
    refine g_iconst C dX9_tree_92 ?_
    refine g_iadd C dX9_tree_93 ?_
    refine g_put C iX9 (ci := 9) (o := 0) (z := ((σ2 0 23) + 1)) (ty := .int) rfl tyX9_ok nmX9 rfl 23 (by decide) rfl rfl tw_X9_154 rfl (by decide +kernel) rfl rfl dX9_tree_94 (fun σ3 eσ3 => ?_)
    have h := h σ3 eσ3
    refine g_aload_n C 0 0 rfl rfl dX9_tree_97 ?_
    refine g_callVv C (m_X9_forget l D cA ad h) hv_X9_forget tw_X9_207 (o := 0) (ci := 9) (As := []) (st := []) rfl rfl rfl rfl ⟨Nat.le_of_ble_eq_true rfl, Nat.le_of_ble_eq_true rfl⟩ rfl rfl (Nat.le_of_ble_eq_true rfl) dX9_tree_98 (fun σ4 h => ?_)
    try dsimp only at h
    refine g_aload_n C 0 0 rfl rfl dX9_tree_101 ?_
    refine g_get C iX9 (ci := 9) (o := 0) (v := vI (σ4 0 23)) rfl rfl 23 (by decide) rfl tw_X9_154 dX9_tree_102 ?_
    refine g_iconst C dX9_tree_105 ?_
    refine g_isub C dX9_tree_106 ?_
    exact g_iret C hlocks hr h dX9_tree_107
  · have h := h.2 hc
    refine g_aload_n C 0 0 rfl rfl dX9_tree_57 ?_
    refine g_iload_n C 1 1 rfl rfl dX9_tree_58 ?_
    refine g_put C iX9 (ci := 9) (o := 0) (z := x1) (ty := .int) rfl tyX9_ok nmX9 rfl 7 (by decide) rfl rfl tw_X9_148 rfl (by decide +kernel) rfl rfl dX9_tree_59 (fun σ5 eσ5 => ?_)
    have h := h σ5 eσ5
    refine g_aload_n C 0 0 rfl rfl dX9_tree_62 ?_
    refine g_iload_n C 2 2 rfl rfl dX9_tree_63 ?_
    refine g_put C iX9 (ci := 9) (o := 0) (z := x2) (ty := .int) rfl tyX9_ok nmX9 rfl 10 (by decide) rfl rfl tw_X9_151 rfl (by decide +kernel) rfl rfl dX9_tree_64 (fun σ6 eσ6 => ?_)
    have h := h σ6 eσ6
    refine g_iconst C dX9_tree_67 ?_
    refine g_aload_n C 0 0 rfl rfl dX9_tree_68 ?_
    refine g_get C iX9 (ci := 9) (o := 0) (v := vI (σ6 0 4)) rfl rfl 4 (by decide) rfl tw_X9_117 dX9_tree_69 ?_
    refine g_isub C dX9_tree_72 ?_
    exact g_iret C hlocks hr h dX9_tree_73
set_option maxRecDepth 100000 in
set_option maxHeartbeats 4000000 in
theorem m_X9_tree_B34 {p : Program} {l : Launch} {e : Env} {s : State} {m : MethodId} {args : Array Value} {below : List Frame} {meth : Method} {c : Code} {D : va_G} {cA : Nat → ClassId} {ad : Nat → Nat} (C : Cx p s m args c cX9_tree RX9 4 D cA shM ad zsM) (hlocks : meth.locks = false) (hr : meth.sig.returnType = (some .int)) {Q : Int → St → Prop} {x1 x2 y0 : Int} {σ : St} (h : wp_X9_tree_B34 x1 x2 y0 Q σ) : G p l e rm_X9_tree s m args below meth c 0 0 4 D cA shM ad (QI D cA shM ad zsM below args s Q) σ [(0, .ref (ad 0)), (1, vI x1), (2, vI x2)] [vI y0] 34 := by
  unfold wp_X9_tree_B34 at h
  refine g_istore_n C 3 [(0, .ref (ad 0)), (1, vI x1), (2, vI x2)] rfl (by decide) rfl dX9_tree_34 ?_
  refine g_iload_n C 0 3 rfl rfl dX9_tree_35 ?_
  refine g_if_eq C rfl 48 (by decide) dX9_tree_36 (fun hc => ?_) (fun hc => ?_)
  · have h := h.1 hc
    exact g_pick [1, 2, 3, 0] rfl (m_X9_tree_B48 C hlocks hr h)
  · have h := h.2 hc
    refine g_aload_n C 1 0 rfl rfl dX9_tree_39 ?_
    refine g_callVv C (m_X9_look l D cA ad h) hv_X9_look tw_X9_201 (o := 0) (ci := 9) (As := []) (st := []) rfl rfl rfl rfl ⟨Nat.le_of_ble_eq_true rfl, Nat.le_of_ble_eq_true rfl⟩ rfl rfl (Nat.le_of_ble_eq_true rfl) dX9_tree_40 (fun σ1 h => ?_)
    try dsimp only at h
    refine g_aload_n C 1 0 rfl rfl dX9_tree_43 ?_
    refine g_callIv C (m_X9_isGood l D cA ad h) hv_X9_isGood tw_X9_204 (o := 0) (ci := 9) (As := []) (st := []) rfl rfl rfl rfl ⟨Nat.le_of_ble_eq_true rfl, Nat.le_of_ble_eq_true rfl⟩ rfl rfl (Nat.le_of_ble_eq_true rfl) dX9_tree_44 (fun r3 σ2 h => ?_)
    try dsimp only at h
    refine g_istore_n C 3 [(0, .ref (ad 0)), (1, vI x1), (2, vI x2)] rfl (by decide) rfl dX9_tree_47 ?_
    exact g_pick [1, 2, 3, 0] rfl (m_X9_tree_B48 C hlocks hr h)
set_option maxRecDepth 100000 in
set_option maxHeartbeats 4000000 in
theorem m_X9_tree_B33 {p : Program} {l : Launch} {e : Env} {s : State} {m : MethodId} {args : Array Value} {below : List Frame} {meth : Method} {c : Code} {D : va_G} {cA : Nat → ClassId} {ad : Nat → Nat} (C : Cx p s m args c cX9_tree RX9 4 D cA shM ad zsM) (hlocks : meth.locks = false) (hr : meth.sig.returnType = (some .int)) {Q : Int → St → Prop} {x1 x2 : Int} {σ : St} (h : wp_X9_tree_B33 x1 x2 Q σ) : G p l e rm_X9_tree s m args below meth c 0 0 4 D cA shM ad (QI D cA shM ad zsM below args s Q) σ [(0, .ref (ad 0)), (1, vI x1), (2, vI x2)] [] 33 := by
  unfold wp_X9_tree_B33 at h
  refine g_iconst C dX9_tree_33 ?_
  exact g_pick [0, 1, 2] rfl (m_X9_tree_B34 C hlocks hr h)
set_option maxRecDepth 100000 in
set_option maxHeartbeats 4000000 in
theorem m_X9_tree_E {p : Program} {l : Launch} {e : Env} {s : State} {m : MethodId} {args : Array Value} {below : List Frame} {meth : Method} {c : Code} {D : va_G} {cA : Nat → ClassId} {ad : Nat → Nat} (C : Cx p s m args c cX9_tree RX9 4 D cA shM ad zsM) (hlocks : meth.locks = false) (hr : meth.sig.returnType = (some .int)) {Q : Int → St → Prop} {σ : St} (h : wp_X9_tree Q σ) : G p l e rm_X9_tree s m args below meth c 0 0 4 D cA shM ad (QI D cA shM ad zsM below args s Q) σ [(0, .ref (ad 0))] [] 0 := by
  unfold wp_X9_tree at h
  refine g_aload_n C 0 0 rfl rfl dX9_tree_0 ?_
  refine g_iconst C dX9_tree_1 ?_
  refine g_put C iX9 (ci := 9) (o := 0) (z := 0) (ty := .int) rfl tyX9_ok nmX9 rfl 0 (by decide) rfl rfl tw_X9_107 rfl (by decide +kernel) rfl rfl dX9_tree_2 (fun σ1 eσ1 => ?_)
  have h := h σ1 eσ1
  refine g_aload_n C 0 0 rfl rfl dX9_tree_5 ?_
  refine g_get C iX9 (ci := 9) (o := 0) (v := vI (σ1 0 7)) rfl rfl 7 (by decide) rfl tw_X9_148 dX9_tree_6 ?_
  refine g_name (fun x_2 ex_2 => ?_)
  have h := h x_2 ex_2
  refine g_istore_n C 1 [(0, .ref (ad 0))] rfl (by decide) rfl dX9_tree_9 ?_
  refine g_aload_n C 1 0 rfl rfl dX9_tree_10 ?_
  refine g_get C iX9 (ci := 9) (o := 0) (v := vI (σ1 0 10)) rfl rfl 10 (by decide) rfl tw_X9_151 dX9_tree_11 ?_
  refine g_name (fun x_3 ex_3 => ?_)
  have h := h x_3 ex_3
  refine g_istore_n C 2 [(1, vI x_2), (0, .ref (ad 0))] rfl (by decide) rfl dX9_tree_14 ?_
  refine g_aload_n C 2 0 rfl rfl dX9_tree_15 ?_
  refine g_callIv C (m_X9_starts l D cA ad h) hv_X9_starts tw_X9_195 (o := 0) (ci := 9) (As := []) (st := []) rfl rfl rfl rfl ⟨Nat.le_of_ble_eq_true rfl, Nat.le_of_ble_eq_true rfl⟩ rfl rfl (Nat.le_of_ble_eq_true rfl) dX9_tree_16 (fun r5 σ4 h => ?_)
  try dsimp only at h
  refine g_if_eq C rfl 33 (by decide) dX9_tree_19 (fun hc => ?_) (fun hc => ?_)
  · have h := h.1 hc
    exact g_pick [2, 1, 0] rfl (m_X9_tree_B33 C hlocks hr h)
  · have h := h.2 hc
    refine g_aload_n C 2 0 rfl rfl dX9_tree_22 ?_
    refine g_callIv C (m_X9_readTree l D cA ad h) hv_X9_readTree tw_X9_198 (o := 0) (ci := 9) (As := []) (st := []) rfl rfl rfl rfl ⟨Nat.le_of_ble_eq_true rfl, Nat.le_of_ble_eq_true rfl⟩ rfl rfl (Nat.le_of_ble_eq_true rfl) dX9_tree_23 (fun r7 σ6 h => ?_)
    try dsimp only at h
    refine g_if_eq C rfl 33 (by decide) dX9_tree_26 (fun hc => ?_) (fun hc => ?_)
    · have h := h.1 hc
      exact g_pick [2, 1, 0] rfl (m_X9_tree_B33 C hlocks hr h)
    · have h := h.2 hc
      refine g_iconst C dX9_tree_29 ?_
      refine g_goto C 34 (by decide) dX9_tree_30 ?_
      exact g_pick [2, 1, 0] rfl (m_X9_tree_B34 C hlocks hr h)
set_option maxRecDepth 100000 in
set_option maxHeartbeats 4000000 in
theorem m_X9_tree (l : Launch) (D : va_G) (cA : Nat → ClassId) (ad : Nat → Nat) {Q : Int → St → Prop} {σ : St} (h : wp_X9_tree Q σ) : CtI l yX9_tree (.code yX9_tree cX9_tree 4 (some .int)) rm_X9_tree D cA shM ad zsM [.ref (ad 0)] σ Q :=
  ct_I RX9 (by decide +kernel) rfl (Nat.le_of_ble_eq_true rfl) (fun p e s m args below meth c C hlocks hr => m_X9_tree_E C hlocks hr h)
abbrev rm_X9_clear : Room := { frames := 2, cells := 0, slots := 0, locals := 20 }
set_option maxRecDepth 100000 in
set_option maxHeartbeats 4000000 in
theorem m_X9_clear_E {p : Program} {l : Launch} {e : Env} {s : State} {m : MethodId} {args : Array Value} {below : List Frame} {meth : Method} {c : Code} {D : va_G} {cA : Nat → ClassId} {ad : Nat → Nat} (C : Cx p s m args c cX9_clear RX9 2 D cA shM ad zsM) (hlocks : meth.locks = false) (hr : meth.sig.returnType = (some .int)) {Q : Int → St → Prop} {σ : St} (h : wp_X9_clear Q σ) : G p l e rm_X9_clear s m args below meth c 0 0 2 D cA shM ad (QI D cA shM ad zsM below args s Q) σ [(0, .ref (ad 0))] [] 0 := by
  unfold wp_X9_clear at h
  refine g_aload_n C 0 0 rfl rfl dX9_clear_0 ?_
  refine g_iconst C dX9_clear_1 ?_
  refine g_put C iX9 (ci := 9) (o := 0) (z := 0) (ty := .int) rfl tyX9_ok nmX9 rfl 0 (by decide) rfl rfl tw_X9_107 rfl (by decide +kernel) rfl rfl dX9_clear_2 (fun σ1 eσ1 => ?_)
  have h := h σ1 eσ1
  refine g_aload_n C 0 0 rfl rfl dX9_clear_5 ?_
  refine g_get C iX9 (ci := 9) (o := 0) (v := vI (σ1 0 23)) rfl rfl 23 (by decide) rfl tw_X9_154 dX9_clear_6 ?_
  refine g_name (fun x_2 ex_2 => ?_)
  have h := h x_2 ex_2
  refine g_istore_n C 1 [(0, .ref (ad 0))] rfl (by decide) rfl dX9_clear_9 ?_
  refine g_aload_n C 1 0 rfl rfl dX9_clear_10 ?_
  refine g_iconst C dX9_clear_11 ?_
  refine g_put C iX9 (ci := 9) (o := 0) (z := 0) (ty := .int) rfl tyX9_ok nmX9 rfl 23 (by decide) rfl rfl tw_X9_154 rfl (by decide +kernel) rfl rfl dX9_clear_12 (fun σ3 eσ3 => ?_)
  have h := h σ3 eσ3
  refine g_aload_n C 1 0 rfl rfl dX9_clear_15 ?_
  refine g_iconst C dX9_clear_16 ?_
  refine g_put C iX9 (ci := 9) (o := 0) (z := 0) (ty := .int) rfl tyX9_ok nmX9 rfl 7 (by decide) rfl rfl tw_X9_148 rfl (by decide +kernel) rfl rfl dX9_clear_17 (fun σ4 eσ4 => ?_)
  have h := h σ4 eσ4
  refine g_aload_n C 1 0 rfl rfl dX9_clear_20 ?_
  refine g_iconst C dX9_clear_21 ?_
  refine g_put C iX9 (ci := 9) (o := 0) (z := 0) (ty := .int) rfl tyX9_ok nmX9 rfl 10 (by decide) rfl rfl tw_X9_151 rfl (by decide +kernel) rfl rfl dX9_clear_22 (fun σ5 eσ5 => ?_)
  have h := h σ5 eσ5
  refine g_aload_n C 1 0 rfl rfl dX9_clear_25 ?_
  refine g_callVv C (m_X9_forget l D cA ad h) hv_X9_forget tw_X9_207 (o := 0) (ci := 9) (As := []) (st := []) rfl rfl rfl rfl ⟨Nat.le_of_ble_eq_true rfl, Nat.le_of_ble_eq_true rfl⟩ rfl rfl (Nat.le_of_ble_eq_true rfl) dX9_clear_26 (fun σ6 h => ?_)
  try dsimp only at h
  refine g_iload_n C 0 1 rfl rfl dX9_clear_29 ?_
  exact g_iret C hlocks hr h dX9_clear_30
set_option maxRecDepth 100000 in
set_option maxHeartbeats 4000000 in
theorem m_X9_clear (l : Launch) (D : va_G) (cA : Nat → ClassId) (ad : Nat → Nat) {Q : Int → St → Prop} {σ : St} (h : wp_X9_clear Q σ) : CtI l yX9_clear (.code yX9_clear cX9_clear 2 (some .int)) rm_X9_clear D cA shM ad zsM [.ref (ad 0)] σ Q :=
  ct_I RX9 (by decide +kernel) rfl (Nat.le_of_ble_eq_true rfl) (fun p e s m args below meth c C hlocks hr => m_X9_clear_E C hlocks hr h)
abbrev rm_X9_sentence : Room := { frames := 4, cells := 0, slots := 0, locals := 63 }
set_option maxRecDepth 100000 in
set_option maxHeartbeats 4000000 in
theorem m_X9_sentence_B81 {p : Program} {l : Launch} {e : Env} {s : State} {m : MethodId} {args : Array Value} {below : List Frame} {meth : Method} {c : Code} {D : va_G} {cA : Nat → ClassId} {ad : Nat → Nat} (C : Cx p s m args c cX9_sentence RX9 4 D cA shM ad zsM) (hlocks : meth.locks = false) (hr : meth.sig.returnType = (some .int)) {Q : Int → St → Prop} {K12 : Int → Int → St → Prop} (hK12 : ∀ (x1 : Int) (x2 : Int) (σ : St), K12 x1 x2 σ → G p l e rm_X9_sentence s m args below meth c 0 0 4 D cA shM ad (QI D cA shM ad zsM below args s Q) σ [(0, .ref (ad 0)), (1, vI x1), (2, vI x2)] [] 12) {x1 y0 : Int} {σ : St} (h : wp_X9_sentence_B81 K12 x1 y0 Q σ) : G p l e rm_X9_sentence s m args below meth c 0 0 4 D cA shM ad (QI D cA shM ad zsM below args s Q) σ [(0, .ref (ad 0)), (1, vI x1)] [vI y0] 81 := by
  unfold wp_X9_sentence_B81 at h
  refine g_istore_n C 2 [(0, .ref (ad 0)), (1, vI x1)] rfl (by decide) rfl dX9_sentence_81 ?_
  refine g_goto C 12 (by decide) dX9_sentence_82 ?_
  exact g_pick [1, 2, 0] rfl (hK12 _ _ _ h)
set_option maxRecDepth 100000 in
set_option maxHeartbeats 4000000 in
theorem m_X9_sentence_B80 {p : Program} {l : Launch} {e : Env} {s : State} {m : MethodId} {args : Array Value} {below : List Frame} {meth : Method} {c : Code} {D : va_G} {cA : Nat → ClassId} {ad : Nat → Nat} (C : Cx p s m args c cX9_sentence RX9 4 D cA shM ad zsM) (hlocks : meth.locks = false) (hr : meth.sig.returnType = (some .int)) {Q : Int → St → Prop} {K12 : Int → Int → St → Prop} (hK12 : ∀ (x1 : Int) (x2 : Int) (σ : St), K12 x1 x2 σ → G p l e rm_X9_sentence s m args below meth c 0 0 4 D cA shM ad (QI D cA shM ad zsM below args s Q) σ [(0, .ref (ad 0)), (1, vI x1), (2, vI x2)] [] 12) {x1 : Int} {σ : St} (h : wp_X9_sentence_B80 K12 x1 Q σ) : G p l e rm_X9_sentence s m args below meth c 0 0 4 D cA shM ad (QI D cA shM ad zsM below args s Q) σ [(0, .ref (ad 0)), (1, vI x1)] [] 80 := by
  unfold wp_X9_sentence_B80 at h
  refine g_iconst C dX9_sentence_80 ?_
  exact g_pick [0, 1] rfl (m_X9_sentence_B81 C hlocks hr hK12 h)
set_option maxRecDepth 100000 in
set_option maxHeartbeats 4000000 in
theorem m_X9_sentence_B61 {p : Program} {l : Launch} {e : Env} {s : State} {m : MethodId} {args : Array Value} {below : List Frame} {meth : Method} {c : Code} {D : va_G} {cA : Nat → ClassId} {ad : Nat → Nat} (C : Cx p s m args c cX9_sentence RX9 4 D cA shM ad zsM) (hlocks : meth.locks = false) (hr : meth.sig.returnType = (some .int)) {Q : Int → St → Prop} {K12 : Int → Int → St → Prop} (hK12 : ∀ (x1 : Int) (x2 : Int) (σ : St), K12 x1 x2 σ → G p l e rm_X9_sentence s m args below meth c 0 0 4 D cA shM ad (QI D cA shM ad zsM below args s Q) σ [(0, .ref (ad 0)), (1, vI x1), (2, vI x2)] [] 12) {x1 y0 : Int} {σ : St} (h : wp_X9_sentence_B61 K12 x1 y0 Q σ) : G p l e rm_X9_sentence s m args below meth c 0 0 4 D cA shM ad (QI D cA shM ad zsM below args s Q) σ [(0, .ref (ad 0)), (1, vI x1)] [vI y0] 61 := by
  unfold wp_X9_sentence_B61 at h
  refine g_istore_n C 2 [(0, .ref (ad 0)), (1, vI x1)] rfl (by decide) rfl dX9_sentence_61 ?_
  refine g_iinc C 2 1 [(2, vI y0), (0, .ref (ad 0))] rfl (by decide) rfl dX9_sentence_62 (fun x_1 ex_1 => ?_)
  have h := h x_1 ex_1
  refine g_iload_n C 1 2 rfl rfl dX9_sentence_65 ?_
  refine g_if_eq C rfl 80 (by decide) dX9_sentence_66 (fun hc => ?_) (fun hc => ?_)
  · have h := h.1 hc
    exact g_pick [2, 0] rfl (m_X9_sentence_B80 C hlocks hr hK12 h)
  · have h := h.2 hc
    refine g_aload_n C 2 0 rfl rfl dX9_sentence_69 ?_
    refine g_callIv C (m_X9_next l D cA ad h) hv_X9_next tw_X9_144 (o := 0) (ci := 9) (As := []) (st := []) rfl rfl rfl rfl ⟨Nat.le_of_ble_eq_true rfl, Nat.le_of_ble_eq_true rfl⟩ rfl rfl (Nat.le_of_ble_eq_true rfl) dX9_sentence_70 (fun r3 σ2 h => ?_)
    try dsimp only at h
    refine g_if_eq C rfl 80 (by decide) dX9_sentence_73 (fun hc => ?_) (fun hc => ?_)
    · have h := h.1 hc
      exact g_pick [2, 0] rfl (m_X9_sentence_B80 C hlocks hr hK12 h)
    · have h := h.2 hc
      refine g_iconst C dX9_sentence_76 ?_
      refine g_goto C 81 (by decide) dX9_sentence_77 ?_
      exact g_pick [2, 0] rfl (m_X9_sentence_B81 C hlocks hr hK12 h)
set_option maxRecDepth 100000 in
set_option maxHeartbeats 4000000 in
theorem m_X9_sentence_B49 {p : Program} {l : Launch} {e : Env} {s : State} {m : MethodId} {args : Array Value} {below : List Frame} {meth : Method} {c : Code} {D : va_G} {cA : Nat → ClassId} {ad : Nat → Nat} (C : Cx p s m args c cX9_sentence RX9 4 D cA shM ad zsM) (hlocks : meth.locks = false) (hr : meth.sig.returnType = (some .int)) {Q : Int → St → Prop} {K12 : Int → Int → St → Prop} (hK12 : ∀ (x1 : Int) (x2 : Int) (σ : St), K12 x1 x2 σ → G p l e rm_X9_sentence s m args below meth c 0 0 4 D cA shM ad (QI D cA shM ad zsM below args s Q) σ [(0, .ref (ad 0)), (1, vI x1), (2, vI x2)] [] 12) {x1 : Int} {σ : St} (h : wp_X9_sentence_B49 K12 x1 Q σ) : G p l e rm_X9_sentence s m args below meth c 0 0 4 D cA shM ad (QI D cA shM ad zsM below args s Q) σ [(0, .ref (ad 0)), (1, vI x1)] [] 49 := by
  unfold wp_X9_sentence_B49 at h
  refine g_iconst C dX9_sentence_49 ?_
  refine g_goto C 61 (by decide) dX9_sentence_50 ?_
  exact g_pick [0, 1] rfl (m_X9_sentence_B61 C hlocks hr hK12 h)
set_option maxRecDepth 100000 in
set_option maxHeartbeats 4000000 in
theorem m_X9_sentence_B192 {p : Program} {l : Launch} {e : Env} {s : State} {m : MethodId} {args : Array Value} {below : List Frame} {meth : Method} {c : Code} {D : va_G} {cA : Nat → ClassId} {ad : Nat → Nat} (C : Cx p s m args c cX9_sentence RX9 4 D cA shM ad zsM) (hlocks : meth.locks = false) (hr : meth.sig.returnType = (some .int)) {Q : Int → St → Prop} {x2 : Int} {σ : St} (h : wp_X9_sentence_B192 x2 Q σ) : G p l e rm_X9_sentence s m args below meth c 0 0 4 D cA shM ad (QI D cA shM ad zsM below args s Q) σ [(0, .ref (ad 0)), (2, vI x2)] [] 192 := by
  unfold wp_X9_sentence_B192 at h
  refine g_aload_n C 0 0 rfl rfl dX9_sentence_192 ?_
  refine g_iconst C dX9_sentence_193 ?_
  refine g_put C iX9 (ci := 9) (o := 0) (z := 0) (ty := .int) rfl tyX9_ok nmX9 rfl 2 (by decide) rfl rfl tw_X9_111 rfl (by decide +kernel) rfl rfl dX9_sentence_194 (fun σ1 eσ1 => ?_)
  have h := h σ1 eσ1
  refine g_iload_n C 1 2 rfl rfl dX9_sentence_197 ?_
  refine g_if_eq C rfl 208 (by decide) dX9_sentence_198 (fun hc => ?_) (fun hc => ?_)
  · have h := h.1 hc
    refine g_iconst C dX9_sentence_208 ?_
    refine g_aload_n C 0 0 rfl rfl dX9_sentence_209 ?_
    refine g_get C iX9 (ci := 9) (o := 0) (v := vI (σ1 0 4)) rfl rfl 4 (by decide) rfl tw_X9_117 dX9_sentence_210 ?_
    refine g_isub C dX9_sentence_213 ?_
    exact g_iret C hlocks hr h dX9_sentence_214
  · have h := h.2 hc
    refine g_aload_n C 0 0 rfl rfl dX9_sentence_201 ?_
    refine g_get C iX9 (ci := 9) (o := 0) (v := vI (σ1 0 26)) rfl rfl 26 (by decide) rfl tw_X9_220 dX9_sentence_202 ?_
    refine g_goto C 214 (by decide) dX9_sentence_205 ?_
    exact g_iret C hlocks hr h dX9_sentence_214
set_option maxRecDepth 100000 in
set_option maxHeartbeats 4000000 in
theorem m_X9_sentence_L126 {p : Program} {l : Launch} {e : Env} {s : State} {m : MethodId} {args : Array Value} {below : List Frame} {meth : Method} {c : Code} {D : va_G} {cA : Nat → ClassId} {ad : Nat → Nat} (C : Cx p s m args c cX9_sentence RX9 4 D cA shM ad zsM) (hlocks : meth.locks = false) (hr : meth.sig.returnType = (some .int)) {Q : Int → St → Prop} {K99 : Int → St → Prop} (hK99 : ∀ (x2 : Int) (σ : St), K99 x2 σ → G p l e rm_X9_sentence s m args below meth c 0 0 4 D cA shM ad (QI D cA shM ad zsM below args s Q) σ [(0, .ref (ad 0)), (2, vI x2)] [] 99) : ∀ (n : Nat) (x3 : Int) (σ : St), wp_X9_sentence_L126 K99 Q n x3 σ → G p l e rm_X9_sentence s m args below meth c 0 0 4 D cA shM ad (QI D cA shM ad zsM below args s Q) σ [(0, .ref (ad 0)), (3, vI x3)] [] 126 := by
  intro n
  induction n with
  | zero => intro _ _ h; exact h.elim
  | succ n ih =>
    intro x3 σ h
    simp only [wp_X9_sentence_L126] at h
    refine g_iload_n C 1 3 rfl rfl dX9_sentence_126 ?_
    refine g_aload_n C 0 0 rfl rfl dX9_sentence_127 ?_
    refine g_get C iX9 (ci := 9) (o := 0) (v := vI (σ 0 29)) rfl rfl 29 (by decide) rfl tw_X9_120 dX9_sentence_128 ?_
    refine g_aload_n C 0 0 rfl rfl dX9_sentence_131 ?_
    refine g_get C iX9 (ci := 9) (o := 0) (v := vI (σ 0 28)) rfl rfl 28 (by decide) rfl tw_X9_123 dX9_sentence_132 ?_
    refine g_isub C dX9_sentence_135 ?_
    refine g_icmp_ge C rfl rfl 170 (by decide) dX9_sentence_136 (fun hc => ?_) (fun hc => ?_)
    · have h := h.1 hc
      refine g_aload_n C 0 0 rfl rfl dX9_sentence_170 ?_
      refine g_dup C rfl dX9_sentence_171 ?_
      refine g_get C iX9 (ci := 9) (o := 0) (v := vI (σ 0 26)) rfl rfl 26 (by decide) rfl tw_X9_220 dX9_sentence_172 ?_
      refine g_iconst C dX9_sentence_175 ?_
      refine g_iadd C dX9_sentence_176 ?_
      refine g_put C iX9 (ci := 9) (o := 0) (z := ((σ 0 26) + 1)) (ty := .int) rfl tyX9_ok nmX9 rfl 26 (by decide) rfl rfl tw_X9_220 rfl (by decide +kernel) rfl rfl dX9_sentence_177 (fun σ1 eσ1 => ?_)
      have h := h σ1 eσ1
      refine g_aload_n C 0 0 rfl rfl dX9_sentence_180 ?_
      refine g_callIv C (m_X9_next l D cA ad h) hv_X9_next tw_X9_144 (o := 0) (ci := 9) (As := []) (st := []) rfl rfl rfl rfl ⟨Nat.le_of_ble_eq_true rfl, Nat.le_of_ble_eq_true rfl⟩ rfl rfl (Nat.le_of_ble_eq_true rfl) dX9_sentence_181 (fun r3 σ2 h => ?_)
      try dsimp only at h
      refine g_istore_n C 2 [(0, .ref (ad 0)), (3, vI x3)] rfl (by decide) rfl dX9_sentence_184 ?_
      refine g_goto C 99 (by decide) dX9_sentence_185 ?_
      exact g_pick [1, 0] rfl (hK99 _ _ h)
    · have h := h.2 hc
      refine g_aload_n C 0 0 rfl rfl dX9_sentence_139 ?_
      refine g_get C iX9 (ci := 9) (o := 0) (v := .ref (ad 18)) rfl rfl 24 (by decide) rfl tw_X9_63 dX9_sentence_140 ?_
      refine g_bipush C dX9_sentence_143 (by decide) ?_
      refine g_aload_n C 0 0 rfl rfl dX9_sentence_145 ?_
      refine g_get C iX9 (ci := 9) (o := 0) (v := vI (σ 0 26)) rfl rfl 26 (by decide) rfl tw_X9_220 dX9_sentence_146 ?_
      refine g_imul C dX9_sentence_149 ?_
      refine g_iload_n C 1 3 rfl rfl dX9_sentence_150 ?_
      refine g_iadd C dX9_sentence_151 ?_
      refine g_aload_n C 0 0 rfl rfl dX9_sentence_152 ?_
      refine g_get C iX9 (ci := 9) (o := 0) (v := .ref (ad 1)) rfl rfl 1 (by decide) rfl tw_X9_7 dX9_sentence_153 ?_
      refine g_aload_n C 0 0 rfl rfl dX9_sentence_156 ?_
      refine g_get C iX9 (ci := 9) (o := 0) (v := vI (σ 0 28)) rfl rfl 28 (by decide) rfl tw_X9_123 dX9_sentence_157 ?_
      refine g_iload_n C 1 3 rfl rfl dX9_sentence_160 ?_
      refine g_iadd C dX9_sentence_161 ?_
      obtain ⟨hi, h⟩ := h
      refine g_bald C (o := 1) (N := 1000) rfl rfl hi rfl dX9_sentence_162 ?_
      obtain ⟨hi, h⟩ := h
      refine g_bast C (o := 18) (N := 108) rfl rfl hi rfl dX9_sentence_163 (fun σ4 eσ4 => ?_)
      have h := h σ4 eσ4
      refine g_iinc C 1 3 [(0, .ref (ad 0))] rfl (by decide) rfl dX9_sentence_164 (fun x_5 ex_5 => ?_)
      have h := h x_5 ex_5
      refine g_goto C 126 (by decide) dX9_sentence_167 ?_
      exact g_pick [1, 0] rfl (ih _ _ h)
set_option maxRecDepth 100000 in
set_option maxHeartbeats 4000000 in
theorem m_X9_sentence_L99 {p : Program} {l : Launch} {e : Env} {s : State} {m : MethodId} {args : Array Value} {below : List Frame} {meth : Method} {c : Code} {D : va_G} {cA : Nat → ClassId} {ad : Nat → Nat} (C : Cx p s m args c cX9_sentence RX9 4 D cA shM ad zsM) (hlocks : meth.locks = false) (hr : meth.sig.returnType = (some .int)) {Q : Int → St → Prop} : ∀ (n : Nat) (x2 : Int) (σ : St), wp_X9_sentence_L99 Q n x2 σ → G p l e rm_X9_sentence s m args below meth c 0 0 4 D cA shM ad (QI D cA shM ad zsM below args s Q) σ [(0, .ref (ad 0)), (2, vI x2)] [] 99 := by
  intro n
  induction n with
  | zero => intro _ _ h; exact h.elim
  | succ n ih =>
    intro x2 σ h
    simp only [wp_X9_sentence_L99] at h
    refine g_aload_n C 0 0 rfl rfl dX9_sentence_99 ?_
    refine g_get C iX9 (ci := 9) (o := 0) (v := vI (σ 0 27)) rfl rfl 27 (by decide) rfl tw_X9_130 dX9_sentence_100 ?_
    refine g_if_eq C rfl 188 (by decide) dX9_sentence_103 (fun hc => ?_) (fun hc => ?_)
    · have h := h.1 hc
      refine g_aload_n C 0 0 rfl rfl dX9_sentence_188 ?_
      refine g_callVv C (m_X9_forget l D cA ad h) hv_X9_forget tw_X9_207 (o := 0) (ci := 9) (As := []) (st := []) rfl rfl rfl rfl ⟨Nat.le_of_ble_eq_true rfl, Nat.le_of_ble_eq_true rfl⟩ rfl rfl (Nat.le_of_ble_eq_true rfl) dX9_sentence_189 (fun σ1 h => ?_)
      try dsimp only at h
      exact g_pick [0, 1] rfl (m_X9_sentence_B192 C hlocks hr h)
    · have h := h.2 hc
      refine g_aload_n C 0 0 rfl rfl dX9_sentence_106 ?_
      refine g_get C iX9 (ci := 9) (o := 0) (v := .ref (ad 19)) rfl rfl 25 (by decide) rfl tw_X9_66 dX9_sentence_107 ?_
      refine g_aload_n C 0 0 rfl rfl dX9_sentence_110 ?_
      refine g_get C iX9 (ci := 9) (o := 0) (v := vI (σ 0 26)) rfl rfl 26 (by decide) rfl tw_X9_220 dX9_sentence_111 ?_
      refine g_aload_n C 0 0 rfl rfl dX9_sentence_114 ?_
      refine g_get C iX9 (ci := 9) (o := 0) (v := vI (σ 0 29)) rfl rfl 29 (by decide) rfl tw_X9_120 dX9_sentence_115 ?_
      refine g_aload_n C 0 0 rfl rfl dX9_sentence_118 ?_
      refine g_get C iX9 (ci := 9) (o := 0) (v := vI (σ 0 28)) rfl rfl 28 (by decide) rfl tw_X9_123 dX9_sentence_119 ?_
      refine g_isub C dX9_sentence_122 ?_
      obtain ⟨hi, h⟩ := h
      refine g_iast C (o := 19) (N := 9) rfl rfl hi rfl dX9_sentence_123 (fun σ2 eσ2 => ?_)
      have h := h σ2 eσ2
      refine g_iconst C dX9_sentence_124 ?_
      refine g_istore_n C 3 [(0, .ref (ad 0)), (2, vI x2)] rfl (by decide) rfl dX9_sentence_125 ?_
      obtain ⟨nn, h⟩ := h
      exact g_pick [1, 0] rfl (m_X9_sentence_L126 C hlocks hr (fun _ _ h => ih _ _ h) nn _ _ h)
set_option maxRecDepth 100000 in
set_option maxHeartbeats 4000000 in
theorem m_X9_sentence_B85 {p : Program} {l : Launch} {e : Env} {s : State} {m : MethodId} {args : Array Value} {below : List Frame} {meth : Method} {c : Code} {D : va_G} {cA : Nat → ClassId} {ad : Nat → Nat} (C : Cx p s m args c cX9_sentence RX9 4 D cA shM ad zsM) (hlocks : meth.locks = false) (hr : meth.sig.returnType = (some .int)) {Q : Int → St → Prop} {x2 : Int} {σ : St} (h : wp_X9_sentence_B85 x2 Q σ) : G p l e rm_X9_sentence s m args below meth c 0 0 4 D cA shM ad (QI D cA shM ad zsM below args s Q) σ [(0, .ref (ad 0)), (2, vI x2)] [] 85 := by
  unfold wp_X9_sentence_B85 at h
  refine g_iload_n C 1 2 rfl rfl dX9_sentence_85 ?_
  refine g_if_eq C rfl 192 (by decide) dX9_sentence_86 (fun hc => ?_) (fun hc => ?_)
  · have h := h.1 hc
    exact g_pick [0, 1] rfl (m_X9_sentence_B192 C hlocks hr h)
  · have h := h.2 hc
    refine g_aload_n C 0 0 rfl rfl dX9_sentence_89 ?_
    refine g_iconst C dX9_sentence_90 ?_
    refine g_put C iX9 (ci := 9) (o := 0) (z := 0) (ty := .int) rfl tyX9_ok nmX9 rfl 26 (by decide) rfl rfl tw_X9_220 rfl (by decide +kernel) rfl rfl dX9_sentence_91 (fun σ1 eσ1 => ?_)
    have h := h σ1 eσ1
    refine g_aload_n C 0 0 rfl rfl dX9_sentence_94 ?_
    refine g_callIv C (m_X9_starts l D cA ad h) hv_X9_starts tw_X9_195 (o := 0) (ci := 9) (As := []) (st := []) rfl rfl rfl rfl ⟨Nat.le_of_ble_eq_true rfl, Nat.le_of_ble_eq_true rfl⟩ rfl rfl (Nat.le_of_ble_eq_true rfl) dX9_sentence_95 (fun r3 σ2 h => ?_)
    try dsimp only at h
    refine g_istore_n C 2 [(0, .ref (ad 0))] rfl (by decide) rfl dX9_sentence_98 ?_
    obtain ⟨nn, h⟩ := h
    exact g_pick [1, 0] rfl (m_X9_sentence_L99 C hlocks hr nn _ _ h)
set_option maxRecDepth 100000 in
set_option maxHeartbeats 4000000 in
theorem m_X9_sentence_L12 {p : Program} {l : Launch} {e : Env} {s : State} {m : MethodId} {args : Array Value} {below : List Frame} {meth : Method} {c : Code} {D : va_G} {cA : Nat → ClassId} {ad : Nat → Nat} (C : Cx p s m args c cX9_sentence RX9 4 D cA shM ad zsM) (hlocks : meth.locks = false) (hr : meth.sig.returnType = (some .int)) {Q : Int → St → Prop} : ∀ (n : Nat) (x1 : Int) (x2 : Int) (σ : St), wp_X9_sentence_L12 Q n x1 x2 σ → G p l e rm_X9_sentence s m args below meth c 0 0 4 D cA shM ad (QI D cA shM ad zsM below args s Q) σ [(0, .ref (ad 0)), (1, vI x1), (2, vI x2)] [] 12 := by
  intro n
  induction n with
  | zero => intro _ _ _ h; exact h.elim
  | succ n ih =>
    intro x1 x2 σ h
    simp only [wp_X9_sentence_L12] at h
    refine g_iload_n C 2 2 rfl rfl dX9_sentence_12 ?_
    refine g_if_eq C rfl 85 (by decide) dX9_sentence_13 (fun hc => ?_) (fun hc => ?_)
    · have h := h.1 hc
      exact g_pick [0, 2] rfl (m_X9_sentence_B85 C hlocks hr h)
    · have h := h.2 hc
      refine g_aload_n C 0 0 rfl rfl dX9_sentence_16 ?_
      refine g_get C iX9 (ci := 9) (o := 0) (v := vI (σ 0 27)) rfl rfl 27 (by decide) rfl tw_X9_130 dX9_sentence_17 ?_
      refine g_if_eq C rfl 85 (by decide) dX9_sentence_20 (fun hc => ?_) (fun hc => ?_)
      · have h := h.1 hc
        exact g_pick [0, 2] rfl (m_X9_sentence_B85 C hlocks hr h)
      · have h := h.2 hc
        refine g_aload_n C 0 0 rfl rfl dX9_sentence_23 ?_
        refine g_get C iX9 (ci := 9) (o := 0) (v := vI (σ 0 27)) rfl rfl 27 (by decide) rfl tw_X9_130 dX9_sentence_24 ?_
        refine g_iconst C dX9_sentence_27 ?_
        refine g_icmp_ne C (y' := 2) rfl (by decide) 57 (by decide) dX9_sentence_28 (fun hc => ?_) (fun hc => ?_)
        · have h := h.1 hc
          refine g_aload_n C 0 0 rfl rfl dX9_sentence_57 ?_
          refine g_callIv C (m_X9_cannot l D cA ad h) hv_X9_cannot tw_X9_189 (o := 0) (ci := 9) (As := []) (st := []) rfl rfl rfl rfl ⟨Nat.le_of_ble_eq_true rfl, Nat.le_of_ble_eq_true rfl⟩ rfl rfl (Nat.le_of_ble_eq_true rfl) dX9_sentence_58 (fun r2 σ1 h => ?_)
          try dsimp only at h
          exact g_pick [0, 1] rfl (m_X9_sentence_B61 C hlocks hr (fun _ _ _ h => ih _ _ _ h) h)
        · have h := h.2 hc
          refine g_iload_n C 1 1 rfl rfl dX9_sentence_31 ?_
          refine g_bipush C dX9_sentence_32 (by decide) ?_
          refine g_icmp_lt C (y' := 8) rfl (by decide) 49 (by decide) dX9_sentence_34 (fun hc => ?_) (fun hc => ?_)
          · have h := h.1 hc
            exact g_pick [0, 1] rfl (m_X9_sentence_B49 C hlocks hr (fun _ _ _ h => ih _ _ _ h) h)
          · have h := h.2 hc
            refine g_aload_n C 0 0 rfl rfl dX9_sentence_37 ?_
            refine g_iconst C dX9_sentence_38 ?_
            refine g_aload_n C 0 0 rfl rfl dX9_sentence_39 ?_
            refine g_get C iX9 (ci := 9) (o := 0) (v := vI (σ 0 28)) rfl rfl 28 (by decide) rfl tw_X9_123 dX9_sentence_40 ?_
            refine g_callIv C (m_X9_flaw l D cA ad h) hv_X9_flaw tw_X9_137 (o := 0) (ci := 9) (As := [vI 3, vI (σ 0 28)]) (st := []) rfl rfl rfl rfl ⟨Nat.le_of_ble_eq_true rfl, Nat.le_of_ble_eq_true rfl⟩ rfl rfl (Nat.le_of_ble_eq_true rfl) dX9_sentence_43 (fun r4 σ3 h => ?_)
            try dsimp only at h
            refine g_if_eq C rfl 53 (by decide) dX9_sentence_46 (fun hc => ?_) (fun hc => ?_)
            · have h := h.1 hc
              refine g_iconst C dX9_sentence_53 ?_
              refine g_goto C 61 (by decide) dX9_sentence_54 ?_
              exact g_pick [0, 1] rfl (m_X9_sentence_B61 C hlocks hr (fun _ _ _ h => ih _ _ _ h) h)
            · have h := h.2 hc
              exact g_pick [0, 1] rfl (m_X9_sentence_B49 C hlocks hr (fun _ _ _ h => ih _ _ _ h) h)
set_option maxRecDepth 100000 in
set_option maxHeartbeats 4000000 in
theorem m_X9_sentence_E {p : Program} {l : Launch} {e : Env} {s : State} {m : MethodId} {args : Array Value} {below : List Frame} {meth : Method} {c : Code} {D : va_G} {cA : Nat → ClassId} {ad : Nat → Nat} (C : Cx p s m args c cX9_sentence RX9 4 D cA shM ad zsM) (hlocks : meth.locks = false) (hr : meth.sig.returnType = (some .int)) {Q : Int → St → Prop} {σ : St} (h : wp_X9_sentence Q σ) : G p l e rm_X9_sentence s m args below meth c 0 0 4 D cA shM ad (QI D cA shM ad zsM below args s Q) σ [(0, .ref (ad 0))] [] 0 := by
  unfold wp_X9_sentence at h
  refine g_aload_n C 0 0 rfl rfl dX9_sentence_0 ?_
  refine g_iconst C dX9_sentence_1 ?_
  refine g_put C iX9 (ci := 9) (o := 0) (z := 0) (ty := .int) rfl tyX9_ok nmX9 rfl 0 (by decide) rfl rfl tw_X9_107 rfl (by decide +kernel) rfl rfl dX9_sentence_2 (fun σ1 eσ1 => ?_)
  have h := h σ1 eσ1
  refine g_iconst C dX9_sentence_5 ?_
  refine g_istore_n C 1 [(0, .ref (ad 0))] rfl (by decide) rfl dX9_sentence_6 ?_
  refine g_aload_n C 1 0 rfl rfl dX9_sentence_7 ?_
  refine g_callIv C (m_X9_starts l D cA ad h) hv_X9_starts tw_X9_195 (o := 0) (ci := 9) (As := []) (st := []) rfl rfl rfl rfl ⟨Nat.le_of_ble_eq_true rfl, Nat.le_of_ble_eq_true rfl⟩ rfl rfl (Nat.le_of_ble_eq_true rfl) dX9_sentence_8 (fun r3 σ2 h => ?_)
  try dsimp only at h
  refine g_istore_n C 2 [(1, vI 0), (0, .ref (ad 0))] rfl (by decide) rfl dX9_sentence_11 ?_
  obtain ⟨nn, h⟩ := h
  exact g_pick [2, 1, 0] rfl (m_X9_sentence_L12 C hlocks hr nn _ _ _ h)
set_option maxRecDepth 100000 in
set_option maxHeartbeats 4000000 in
theorem m_X9_sentence (l : Launch) (D : va_G) (cA : Nat → ClassId) (ad : Nat → Nat) {Q : Int → St → Prop} {σ : St} (h : wp_X9_sentence Q σ) : CtI l yX9_sentence (.code yX9_sentence cX9_sentence 4 (some .int)) rm_X9_sentence D cA shM ad zsM [.ref (ad 0)] σ Q :=
  ct_I RX9 (by decide +kernel) rfl (Nat.le_of_ble_eq_true rfl) (fun p e s m args below meth c C hlocks hr => m_X9_sentence_E C hlocks hr h)
abbrev rm_X9_key : Room := { frames := 1, cells := 0, slots := 0, locals := 0 }
set_option maxRecDepth 100000 in
set_option maxHeartbeats 4000000 in
theorem m_X9_key_E {p : Program} {l : Launch} {e : Env} {s : State} {m : MethodId} {args : Array Value} {below : List Frame} {meth : Method} {c : Code} {D : va_G} {cA : Nat → ClassId} {ad : Nat → Nat} (C : Cx p s m args c cX9_key RX9 4 D cA shM ad zsM) (hlocks : meth.locks = false) (hr : meth.sig.returnType = (some .int)) {Q : Int → St → Prop} {a0 a1 a2 a3 : Int} {σ : St} (h : wp_X9_key a0 a1 a2 a3 Q σ) : G p l e rm_X9_key s m args below meth c 0 0 4 D cA shM ad (QI D cA shM ad zsM below args s Q) σ [(0, vI a0), (1, vI a1), (2, vI a2), (3, vI a3)] [] 0 := by
  unfold wp_X9_key at h
  refine g_sipush C dX9_key_0 (by decide) ?_
  refine g_iload_n C 0 0 rfl rfl dX9_key_3 ?_
  refine g_imul C dX9_key_4 ?_
  refine g_bipush C dX9_key_5 (by decide) ?_
  refine g_iload_n C 1 1 rfl rfl dX9_key_7 ?_
  refine g_imul C dX9_key_8 ?_
  refine g_iadd C dX9_key_9 ?_
  refine g_bipush C dX9_key_10 (by decide) ?_
  refine g_iload_n C 2 2 rfl rfl dX9_key_12 ?_
  refine g_imul C dX9_key_13 ?_
  refine g_iadd C dX9_key_14 ?_
  refine g_iload_n C 3 3 rfl rfl dX9_key_15 ?_
  refine g_iadd C dX9_key_16 ?_
  exact g_iret C hlocks hr h dX9_key_17
set_option maxRecDepth 100000 in
set_option maxHeartbeats 4000000 in
theorem m_X9_key (l : Launch) (D : va_G) (cA : Nat → ClassId) (ad : Nat → Nat) {a0 a1 a2 a3 : Int} {Q : Int → St → Prop} {σ : St} (h : wp_X9_key a0 a1 a2 a3 Q σ) : CtI l yX9_key (.code yX9_key cX9_key 4 (some .int)) rm_X9_key D cA shM ad zsM [vI a0, vI a1, vI a2, vI a3] σ Q :=
  ct_I RX9 (by decide +kernel) rfl (Nat.le_of_ble_eq_true rfl) (fun p e s m args below meth c C hlocks hr => m_X9_key_E C hlocks hr h)
abbrev rm_X9_number : Room := { frames := 2, cells := 0, slots := 0, locals := 23 }
set_option maxRecDepth 100000 in
set_option maxHeartbeats 4000000 in
theorem m_X9_number_L32 {p : Program} {l : Launch} {e : Env} {s : State} {m : MethodId} {args : Array Value} {below : List Frame} {meth : Method} {c : Code} {D : va_G} {cA : Nat → ClassId} {ad : Nat → Nat} (C : Cx p s m args c cX9_number RX9 6 D cA shM ad zsM) (hlocks : meth.locks = false) (hr : meth.sig.returnType = none) {Q : St → Prop} {K4 : Int → Int → St → Prop} (hK4 : ∀ (x1 : Int) (x2 : Int) (σ : St), K4 x1 x2 σ → G p l e rm_X9_number s m args below meth c 0 0 6 D cA shM ad (QV D cA shM ad zsM below args s Q) σ [(0, .ref (ad 0)), (1, vI x1), (2, vI x2)] [] 4) {K12 : Int → Int → Int → St → Prop} (hK12 : ∀ (x1 : Int) (x2 : Int) (x3 : Int) (σ : St), K12 x1 x2 x3 σ → G p l e rm_X9_number s m args below meth c 0 0 6 D cA shM ad (QV D cA shM ad zsM below args s Q) σ [(0, .ref (ad 0)), (1, vI x1), (2, vI x2), (3, vI x3)] [] 12) {K21 : Int → Int → Int → Int → St → Prop} (hK21 : ∀ (x1 : Int) (x2 : Int) (x3 : Int) (x4 : Int) (σ : St), K21 x1 x2 x3 x4 σ → G p l e rm_X9_number s m args below meth c 0 0 6 D cA shM ad (QV D cA shM ad zsM below args s Q) σ [(0, .ref (ad 0)), (1, vI x1), (2, vI x2), (3, vI x3), (4, vI x4)] [] 21) : ∀ (n : Nat) (x1 : Int) (x2 : Int) (x3 : Int) (x4 : Int) (x5 : Int) (σ : St), wp_X9_number_L32 K4 K12 K21 Q n x1 x2 x3 x4 x5 σ → G p l e rm_X9_number s m args below meth c 0 0 6 D cA shM ad (QV D cA shM ad zsM below args s Q) σ [(0, .ref (ad 0)), (1, vI x1), (2, vI x2), (3, vI x3), (4, vI x4), (5, vI x5)] [] 32 := by
  intro n
  induction n with
  | zero => intro _ _ _ _ _ _ h; exact h.elim
  | succ n ih =>
    intro x1 x2 x3 x4 x5 σ h
    simp only [wp_X9_number_L32] at h
    refine g_iload C 5 5 rfl dX9_number_32 ?_
    refine g_bipush C dX9_number_34 (by decide) ?_
    refine g_icmp_ge C (y' := 9) rfl (by decide) 63 (by decide) dX9_number_36 (fun hc => ?_) (fun hc => ?_)
    · have h := h.1 hc
      refine g_iinc C 4 4 [(0, .ref (ad 0)), (1, vI x1), (2, vI x2), (3, vI x3), (5, vI x5)] rfl (by decide) rfl dX9_number_63 (fun x_1 ex_1 => ?_)
      have h := h x_1 ex_1
      refine g_goto C 21 (by decide) dX9_number_66 ?_
      exact g_pick [1, 2, 3, 4, 0] rfl (hK21 _ _ _ _ _ h)
    · have h := h.2 hc
      refine g_aload_n C 0 0 rfl rfl dX9_number_39 ?_
      refine g_get C iX9 (ci := 9) (o := 0) (v := .ref (ad 20)) rfl rfl 38 (by decide) rfl tw_X9_75 dX9_number_40 ?_
      refine g_iload_n C 2 2 rfl rfl dX9_number_43 ?_
      refine g_iload_n C 3 3 rfl rfl dX9_number_44 ?_
      refine g_iload C 4 4 rfl dX9_number_45 ?_
      refine g_iload C 5 5 rfl dX9_number_47 ?_
      refine g_callIs C (m_X9_key l D cA ad h) hv_X9_key tw_X9_223 (As := [vI x2, vI x3, vI x4, vI x5]) (st := [.ref (ad 20)]) rfl rfl ⟨Nat.le_of_ble_eq_true rfl, Nat.le_of_ble_eq_true rfl⟩ rfl rfl (Nat.le_of_ble_eq_true rfl) dX9_number_49 (fun r3 σ2 h => ?_)
      try dsimp only at h
      refine g_iload_n C 1 1 rfl rfl dX9_number_52 ?_
      obtain ⟨hi, h⟩ := h
      refine g_iast C (o := 20) (N := 6561) rfl rfl hi rfl dX9_number_53 (fun σ4 eσ4 => ?_)
      have h := h σ4 eσ4
      refine g_iinc C 1 1 [(0, .ref (ad 0)), (2, vI x2), (3, vI x3), (4, vI x4), (5, vI x5)] rfl (by decide) rfl dX9_number_54 (fun x_5 ex_5 => ?_)
      have h := h x_5 ex_5
      refine g_iinc C 5 5 [(1, vI x_5), (0, .ref (ad 0)), (2, vI x2), (3, vI x3), (4, vI x4)] rfl (by decide) rfl dX9_number_57 (fun x_6 ex_6 => ?_)
      have h := h x_6 ex_6
      refine g_goto C 32 (by decide) dX9_number_60 ?_
      exact g_pick [2, 1, 3, 4, 5, 0] rfl (ih _ _ _ _ _ _ h)
set_option maxRecDepth 100000 in
set_option maxHeartbeats 4000000 in
theorem m_X9_number_L21 {p : Program} {l : Launch} {e : Env} {s : State} {m : MethodId} {args : Array Value} {below : List Frame} {meth : Method} {c : Code} {D : va_G} {cA : Nat → ClassId} {ad : Nat → Nat} (C : Cx p s m args c cX9_number RX9 6 D cA shM ad zsM) (hlocks : meth.locks = false) (hr : meth.sig.returnType = none) {Q : St → Prop} {K4 : Int → Int → St → Prop} (hK4 : ∀ (x1 : Int) (x2 : Int) (σ : St), K4 x1 x2 σ → G p l e rm_X9_number s m args below meth c 0 0 6 D cA shM ad (QV D cA shM ad zsM below args s Q) σ [(0, .ref (ad 0)), (1, vI x1), (2, vI x2)] [] 4) {K12 : Int → Int → Int → St → Prop} (hK12 : ∀ (x1 : Int) (x2 : Int) (x3 : Int) (σ : St), K12 x1 x2 x3 σ → G p l e rm_X9_number s m args below meth c 0 0 6 D cA shM ad (QV D cA shM ad zsM below args s Q) σ [(0, .ref (ad 0)), (1, vI x1), (2, vI x2), (3, vI x3)] [] 12) : ∀ (n : Nat) (x1 : Int) (x2 : Int) (x3 : Int) (x4 : Int) (σ : St), wp_X9_number_L21 K4 K12 Q n x1 x2 x3 x4 σ → G p l e rm_X9_number s m args below meth c 0 0 6 D cA shM ad (QV D cA shM ad zsM below args s Q) σ [(0, .ref (ad 0)), (1, vI x1), (2, vI x2), (3, vI x3), (4, vI x4)] [] 21 := by
  intro n
  induction n with
  | zero => intro _ _ _ _ _ h; exact h.elim
  | succ n ih =>
    intro x1 x2 x3 x4 σ h
    simp only [wp_X9_number_L21] at h
    refine g_iload C 4 4 rfl dX9_number_21 ?_
    refine g_bipush C dX9_number_23 (by decide) ?_
    refine g_icmp_ge C (y' := 9) rfl (by decide) 69 (by decide) dX9_number_25 (fun hc => ?_) (fun hc => ?_)
    · have h := h.1 hc
      refine g_iinc C 3 3 [(0, .ref (ad 0)), (1, vI x1), (2, vI x2), (4, vI x4)] rfl (by decide) rfl dX9_number_69 (fun x_1 ex_1 => ?_)
      have h := h x_1 ex_1
      refine g_goto C 12 (by decide) dX9_number_72 ?_
      exact g_pick [1, 2, 3, 0] rfl (hK12 _ _ _ _ h)
    · have h := h.2 hc
      refine g_iload C 4 4 rfl dX9_number_28 ?_
      refine g_istore C 5 [(0, .ref (ad 0)), (1, vI x1), (2, vI x2), (3, vI x3), (4, vI x4)] (by decide) rfl dX9_number_30 ?_
      obtain ⟨nn, h⟩ := h
      exact g_pick [1, 2, 3, 4, 5, 0] rfl (m_X9_number_L32 C hlocks hr hK4 hK12 (fun _ _ _ _ _ h => ih _ _ _ _ _ h) nn _ _ _ _ _ _ h)
set_option maxRecDepth 100000 in
set_option maxHeartbeats 4000000 in
theorem m_X9_number_L12 {p : Program} {l : Launch} {e : Env} {s : State} {m : MethodId} {args : Array Value} {below : List Frame} {meth : Method} {c : Code} {D : va_G} {cA : Nat → ClassId} {ad : Nat → Nat} (C : Cx p s m args c cX9_number RX9 6 D cA shM ad zsM) (hlocks : meth.locks = false) (hr : meth.sig.returnType = none) {Q : St → Prop} {K4 : Int → Int → St → Prop} (hK4 : ∀ (x1 : Int) (x2 : Int) (σ : St), K4 x1 x2 σ → G p l e rm_X9_number s m args below meth c 0 0 6 D cA shM ad (QV D cA shM ad zsM below args s Q) σ [(0, .ref (ad 0)), (1, vI x1), (2, vI x2)] [] 4) : ∀ (n : Nat) (x1 : Int) (x2 : Int) (x3 : Int) (σ : St), wp_X9_number_L12 K4 Q n x1 x2 x3 σ → G p l e rm_X9_number s m args below meth c 0 0 6 D cA shM ad (QV D cA shM ad zsM below args s Q) σ [(0, .ref (ad 0)), (1, vI x1), (2, vI x2), (3, vI x3)] [] 12 := by
  intro n
  induction n with
  | zero => intro _ _ _ _ h; exact h.elim
  | succ n ih =>
    intro x1 x2 x3 σ h
    simp only [wp_X9_number_L12] at h
    refine g_iload_n C 3 3 rfl rfl dX9_number_12 ?_
    refine g_bipush C dX9_number_13 (by decide) ?_
    refine g_icmp_ge C (y' := 9) rfl (by decide) 75 (by decide) dX9_number_15 (fun hc => ?_) (fun hc => ?_)
    · have h := h.1 hc
      refine g_iinc C 2 2 [(0, .ref (ad 0)), (1, vI x1), (3, vI x3)] rfl (by decide) rfl dX9_number_75 (fun x_1 ex_1 => ?_)
      have h := h x_1 ex_1
      refine g_goto C 4 (by decide) dX9_number_78 ?_
      exact g_pick [1, 2, 0] rfl (hK4 _ _ _ h)
    · have h := h.2 hc
      refine g_iload_n C 3 3 rfl rfl dX9_number_18 ?_
      refine g_istore C 4 [(0, .ref (ad 0)), (1, vI x1), (2, vI x2), (3, vI x3)] (by decide) rfl dX9_number_19 ?_
      obtain ⟨nn, h⟩ := h
      exact g_pick [1, 2, 3, 4, 0] rfl (m_X9_number_L21 C hlocks hr hK4 (fun _ _ _ _ h => ih _ _ _ _ h) nn _ _ _ _ _ h)
set_option maxRecDepth 100000 in
set_option maxHeartbeats 4000000 in
theorem m_X9_number_L4 {p : Program} {l : Launch} {e : Env} {s : State} {m : MethodId} {args : Array Value} {below : List Frame} {meth : Method} {c : Code} {D : va_G} {cA : Nat → ClassId} {ad : Nat → Nat} (C : Cx p s m args c cX9_number RX9 6 D cA shM ad zsM) (hlocks : meth.locks = false) (hr : meth.sig.returnType = none) {Q : St → Prop} : ∀ (n : Nat) (x1 : Int) (x2 : Int) (σ : St), wp_X9_number_L4 Q n x1 x2 σ → G p l e rm_X9_number s m args below meth c 0 0 6 D cA shM ad (QV D cA shM ad zsM below args s Q) σ [(0, .ref (ad 0)), (1, vI x1), (2, vI x2)] [] 4 := by
  intro n
  induction n with
  | zero => intro _ _ _ h; exact h.elim
  | succ n ih =>
    intro x1 x2 σ h
    simp only [wp_X9_number_L4] at h
    refine g_iload_n C 2 2 rfl rfl dX9_number_4 ?_
    refine g_bipush C dX9_number_5 (by decide) ?_
    refine g_icmp_ge C (y' := 9) rfl (by decide) 81 (by decide) dX9_number_7 (fun hc => ?_) (fun hc => ?_)
    · have h := h.1 hc
      exact g_vret C hlocks hr h dX9_number_81
    · have h := h.2 hc
      refine g_iload_n C 2 2 rfl rfl dX9_number_10 ?_
      refine g_istore_n C 3 [(0, .ref (ad 0)), (1, vI x1), (2, vI x2)] rfl (by decide) rfl dX9_number_11 ?_
      obtain ⟨nn, h⟩ := h
      exact g_pick [1, 2, 3, 0] rfl (m_X9_number_L12 C hlocks hr (fun _ _ _ h => ih _ _ _ h) nn _ _ _ _ h)
set_option maxRecDepth 100000 in
set_option maxHeartbeats 4000000 in
theorem m_X9_number_E {p : Program} {l : Launch} {e : Env} {s : State} {m : MethodId} {args : Array Value} {below : List Frame} {meth : Method} {c : Code} {D : va_G} {cA : Nat → ClassId} {ad : Nat → Nat} (C : Cx p s m args c cX9_number RX9 6 D cA shM ad zsM) (hlocks : meth.locks = false) (hr : meth.sig.returnType = none) {Q : St → Prop} {σ : St} (h : wp_X9_number Q σ) : G p l e rm_X9_number s m args below meth c 0 0 6 D cA shM ad (QV D cA shM ad zsM below args s Q) σ [(0, .ref (ad 0))] [] 0 := by
  unfold wp_X9_number at h
  refine g_iconst C dX9_number_0 ?_
  refine g_istore_n C 1 [(0, .ref (ad 0))] rfl (by decide) rfl dX9_number_1 ?_
  refine g_iconst C dX9_number_2 ?_
  refine g_istore_n C 2 [(1, vI 0), (0, .ref (ad 0))] rfl (by decide) rfl dX9_number_3 ?_
  obtain ⟨nn, h⟩ := h
  exact g_pick [2, 1, 0] rfl (m_X9_number_L4 C hlocks hr nn _ _ _ h)
set_option maxRecDepth 100000 in
set_option maxHeartbeats 4000000 in
theorem m_X9_number (l : Launch) (D : va_G) (cA : Nat → ClassId) (ad : Nat → Nat) {Q : St → Prop} {σ : St} (h : wp_X9_number Q σ) : CtV l yX9_number (.code yX9_number cX9_number 6 none) rm_X9_number D cA shM ad zsM [.ref (ad 0)] σ Q :=
  ct_V RX9 (by decide +kernel) rfl (Nat.le_of_ble_eq_true rfl) (fun p e s m args below meth c C hlocks hr => m_X9_number_E C hlocks hr h)
abbrev rm_X9_run : Room := { frames := 2, cells := 0, slots := 0, locals := 23 }
set_option maxRecDepth 100000 in
set_option maxHeartbeats 4000000 in
theorem m_X9_run_B38 {p : Program} {l : Launch} {e : Env} {s : State} {m : MethodId} {args : Array Value} {below : List Frame} {meth : Method} {c : Code} {D : va_G} {cA : Nat → ClassId} {ad : Nat → Nat} (C : Cx p s m args c cX9_run RX9 6 D cA shM ad zsM) (hlocks : meth.locks = false) (hr : meth.sig.returnType = (some .long)) {Q : Int → St → Prop} {y1 y3 : Int} {σ : St} (h : wp_X9_run_B38 y1 y3 Q σ) : G p l e rm_X9_run s m args below meth c 0 0 6 D cA shM ad (QL D cA shM ad zsM below args s Q) σ [] [vI y3, .ref (ad 20), vI y1, .ref (ad 22)] 38 := by
  unfold wp_X9_run_B38 at h
  obtain ⟨hi, h⟩ := h
  refine g_iald C (o := 20) (N := 6561) rfl rfl hi rfl dX9_run_38 ?_
  refine g_iadd C dX9_run_39 ?_
  obtain ⟨hi, h⟩ := h
  refine g_lald C (o := 22) (N := 95040) rfl rfl hi rfl dX9_run_40 ?_
  exact g_lret C hlocks hr h dX9_run_41
set_option maxRecDepth 100000 in
set_option maxHeartbeats 4000000 in
theorem m_X9_run_E {p : Program} {l : Launch} {e : Env} {s : State} {m : MethodId} {args : Array Value} {below : List Frame} {meth : Method} {c : Code} {D : va_G} {cA : Nat → ClassId} {ad : Nat → Nat} (C : Cx p s m args c cX9_run RX9 6 D cA shM ad zsM) (hlocks : meth.locks = false) (hr : meth.sig.returnType = (some .long)) {Q : Int → St → Prop} {a1 a2 a3 a4 a5 : Int} {σ : St} (h : wp_X9_run a1 a2 a3 a4 a5 Q σ) : G p l e rm_X9_run s m args below meth c 0 0 6 D cA shM ad (QL D cA shM ad zsM below args s Q) σ [(0, .ref (ad 0)), (1, vI a1), (2, vI a2), (3, vI a3), (4, vI a4), (5, vI a5)] [] 0 := by
  unfold wp_X9_run at h
  refine g_aload_n C 0 0 rfl rfl dX9_run_0 ?_
  refine g_get C iX9 (ci := 9) (o := 0) (v := .ref (ad 22)) rfl rfl 40 (by decide) rfl tw_X9_83 dX9_run_1 ?_
  refine g_sipush C dX9_run_4 (by decide) ?_
  refine g_iload_n C 1 1 rfl rfl dX9_run_7 ?_
  refine g_imul C dX9_run_8 ?_
  refine g_aload_n C 0 0 rfl rfl dX9_run_9 ?_
  refine g_get C iX9 (ci := 9) (o := 0) (v := .ref (ad 20)) rfl rfl 38 (by decide) rfl tw_X9_75 dX9_run_10 ?_
  refine g_iload_n C 3 3 rfl rfl dX9_run_13 ?_
  refine g_iconst C dX9_run_14 ?_
  refine g_icmp_ne C (y' := (-1)) rfl (by decide) 29 (by decide) dX9_run_15 (fun hc => ?_) (fun hc => ?_)
  · have h := h.1 hc
    refine g_iload_n C 2 2 rfl rfl dX9_run_29 ?_
    refine g_iload_n C 3 3 rfl rfl dX9_run_30 ?_
    refine g_iload C 4 4 rfl dX9_run_31 ?_
    refine g_iload C 5 5 rfl dX9_run_33 ?_
    refine g_callIs C (m_X9_key l D cA ad h) hv_X9_key tw_X9_223 (As := [vI a2, vI a3, vI a4, vI a5]) (st := [.ref (ad 20), vI (495 * a1), .ref (ad 22)]) rfl rfl ⟨Nat.le_of_ble_eq_true rfl, Nat.le_of_ble_eq_true rfl⟩ rfl rfl (Nat.le_of_ble_eq_true rfl) dX9_run_35 (fun r2 σ1 h => ?_)
    try dsimp only at h
    exact g_pick [] rfl (m_X9_run_B38 C hlocks hr h)
  · have h := h.2 hc
    refine g_iload_n C 2 2 rfl rfl dX9_run_18 ?_
    refine g_iload_n C 2 2 rfl rfl dX9_run_19 ?_
    refine g_iload_n C 2 2 rfl rfl dX9_run_20 ?_
    refine g_iload C 5 5 rfl dX9_run_21 ?_
    refine g_callIs C (m_X9_key l D cA ad h) hv_X9_key tw_X9_223 (As := [vI a2, vI a2, vI a2, vI a5]) (st := [.ref (ad 20), vI (495 * a1), .ref (ad 22)]) rfl rfl ⟨Nat.le_of_ble_eq_true rfl, Nat.le_of_ble_eq_true rfl⟩ rfl rfl (Nat.le_of_ble_eq_true rfl) dX9_run_23 (fun r4 σ3 h => ?_)
    try dsimp only at h
    refine g_goto C 38 (by decide) dX9_run_26 ?_
    exact g_pick [] rfl (m_X9_run_B38 C hlocks hr h)
set_option maxRecDepth 100000 in
set_option maxHeartbeats 4000000 in
theorem m_X9_run (l : Launch) (D : va_G) (cA : Nat → ClassId) (ad : Nat → Nat) {a1 a2 a3 a4 a5 : Int} {Q : Int → St → Prop} {σ : St} (h : wp_X9_run a1 a2 a3 a4 a5 Q σ) : CtL l yX9_run (.code yX9_run cX9_run 6 (some .long)) rm_X9_run D cA shM ad zsM [.ref (ad 0), vI a1, vI a2, vI a3, vI a4, vI a5] σ Q :=
  ct_L RX9 (by decide +kernel) rfl (Nat.le_of_ble_eq_true rfl) (fun p e s m args below meth c C hlocks hr => m_X9_run_E C hlocks hr h)
abbrev rm_X9_isWord : Room := { frames := 1, cells := 0, slots := 0, locals := 0 }
set_option maxRecDepth 100000 in
set_option maxHeartbeats 4000000 in
theorem m_X9_isWord_L32 {p : Program} {l : Launch} {e : Env} {s : State} {m : MethodId} {args : Array Value} {below : List Frame} {meth : Method} {c : Code} {D : va_G} {cA : Nat → ClassId} {ad : Nat → Nat} (C : Cx p s m args c cX9_isWord RX9 4 D cA shM ad zsM) (hlocks : meth.locks = false) (hr : meth.sig.returnType = (some .boolean)) {Q : Int → St → Prop} : ∀ (n : Nat) (x1 : Int) (x2 : Int) (x3 : Int) (σ : St), wp_X9_isWord_L32 Q n x1 x2 x3 σ → G p l e rm_X9_isWord s m args below meth c 0 0 4 D cA shM ad (QI D cA shM ad zsM below args s Q) σ [(0, .ref (ad 0)), (1, vI x1), (2, vI x2), (3, vI x3)] [] 32 := by
  intro n
  induction n with
  | zero => intro _ _ _ _ h; exact h.elim
  | succ n ih =>
    intro x1 x2 x3 σ h
    simp only [wp_X9_isWord_L32] at h
    refine g_iload_n C 3 3 rfl rfl dX9_isWord_32 ?_
    refine g_aload_n C 0 0 rfl rfl dX9_isWord_33 ?_
    refine g_get C iX9 (ci := 9) (o := 0) (v := .ref (ad 19)) rfl rfl 25 (by decide) rfl tw_X9_66 dX9_isWord_34 ?_
    refine g_iload_n C 2 2 rfl rfl dX9_isWord_37 ?_
    obtain ⟨hi, h⟩ := h
    refine g_iald C (o := 19) (N := 9) rfl rfl hi rfl dX9_isWord_38 ?_
    refine g_icmp_ge C rfl rfl 80 (by decide) dX9_isWord_39 (fun hc => ?_) (fun hc => ?_)
    · have h := h.1 hc
      refine g_iconst C dX9_isWord_80 ?_
      exact g_zret C hlocks hr (by decide) h dX9_isWord_81
    · have h := h.2 hc
      refine g_aload_n C 0 0 rfl rfl dX9_isWord_42 ?_
      refine g_get C iX9 (ci := 9) (o := 0) (v := .ref (ad 18)) rfl rfl 24 (by decide) rfl tw_X9_63 dX9_isWord_43 ?_
      refine g_bipush C dX9_isWord_46 (by decide) ?_
      refine g_iload_n C 2 2 rfl rfl dX9_isWord_48 ?_
      refine g_imul C dX9_isWord_49 ?_
      refine g_iload_n C 3 3 rfl rfl dX9_isWord_50 ?_
      refine g_iadd C dX9_isWord_51 ?_
      obtain ⟨hi, h⟩ := h
      refine g_bald C (o := 18) (N := 108) rfl rfl hi rfl dX9_isWord_52 ?_
      refine g_aload_n C 0 0 rfl rfl dX9_isWord_53 ?_
      refine g_get C iX9 (ci := 9) (o := 0) (v := .ref (ad 4)) rfl rfl 8 (by decide) rfl tw_X9_20 dX9_isWord_54 ?_
      refine g_bipush C dX9_isWord_57 (by decide) ?_
      refine g_aload_n C 0 0 rfl rfl dX9_isWord_59 ?_
      refine g_get C iX9 (ci := 9) (o := 0) (v := .ref (ad 7)) rfl rfl 12 (by decide) rfl tw_X9_29 dX9_isWord_60 ?_
      refine g_iload_n C 1 1 rfl rfl dX9_isWord_63 ?_
      obtain ⟨hi, h⟩ := h
      refine g_iald C (o := 7) (N := 204) rfl rfl hi rfl dX9_isWord_64 ?_
      refine g_imul C dX9_isWord_65 ?_
      refine g_iload_n C 3 3 rfl rfl dX9_isWord_66 ?_
      refine g_iadd C dX9_isWord_67 ?_
      obtain ⟨hi, h⟩ := h
      refine g_bald C (o := 4) (N := 396) rfl rfl hi rfl dX9_isWord_68 ?_
      refine g_icmp_eq C rfl rfl 74 (by decide) dX9_isWord_69 (fun hc => ?_) (fun hc => ?_)
      · have h := h.1 hc
        refine g_iinc C 3 3 [(0, .ref (ad 0)), (1, vI x1), (2, vI x2)] rfl (by decide) rfl dX9_isWord_74 (fun x_1 ex_1 => ?_)
        have h := h x_1 ex_1
        refine g_goto C 32 (by decide) dX9_isWord_77 ?_
        exact g_pick [1, 2, 3, 0] rfl (ih _ _ _ _ h)
      · have h := h.2 hc
        refine g_iconst C dX9_isWord_72 ?_
        exact g_zret C hlocks hr (by decide) h dX9_isWord_73
set_option maxRecDepth 100000 in
set_option maxHeartbeats 4000000 in
theorem m_X9_isWord_E {p : Program} {l : Launch} {e : Env} {s : State} {m : MethodId} {args : Array Value} {below : List Frame} {meth : Method} {c : Code} {D : va_G} {cA : Nat → ClassId} {ad : Nat → Nat} (C : Cx p s m args c cX9_isWord RX9 4 D cA shM ad zsM) (hlocks : meth.locks = false) (hr : meth.sig.returnType = (some .boolean)) {Q : Int → St → Prop} {a1 a2 : Int} {σ : St} (h : wp_X9_isWord a1 a2 Q σ) : G p l e rm_X9_isWord s m args below meth c 0 0 4 D cA shM ad (QI D cA shM ad zsM below args s Q) σ [(0, .ref (ad 0)), (1, vI a1), (2, vI a2)] [] 0 := by
  unfold wp_X9_isWord at h
  refine g_iload_n C 2 2 rfl rfl dX9_isWord_0 ?_
  refine g_aload_n C 0 0 rfl rfl dX9_isWord_1 ?_
  refine g_get C iX9 (ci := 9) (o := 0) (v := vI (σ 0 26)) rfl rfl 26 (by decide) rfl tw_X9_220 dX9_isWord_2 ?_
  refine g_icmp_ge C rfl rfl 28 (by decide) dX9_isWord_5 (fun hc => ?_) (fun hc => ?_)
  · have h := h.1 hc
    refine g_iconst C dX9_isWord_28 ?_
    exact g_zret C hlocks hr (by decide) h dX9_isWord_29
  · have h := h.2 hc
    refine g_aload_n C 0 0 rfl rfl dX9_isWord_8 ?_
    refine g_get C iX9 (ci := 9) (o := 0) (v := .ref (ad 19)) rfl rfl 25 (by decide) rfl tw_X9_66 dX9_isWord_9 ?_
    refine g_iload_n C 2 2 rfl rfl dX9_isWord_12 ?_
    obtain ⟨hi, h⟩ := h
    refine g_iald C (o := 19) (N := 9) rfl rfl hi rfl dX9_isWord_13 ?_
    refine g_aload_n C 0 0 rfl rfl dX9_isWord_14 ?_
    refine g_get C iX9 (ci := 9) (o := 0) (v := .ref (ad 5)) rfl rfl 9 (by decide) rfl tw_X9_23 dX9_isWord_15 ?_
    refine g_aload_n C 0 0 rfl rfl dX9_isWord_18 ?_
    refine g_get C iX9 (ci := 9) (o := 0) (v := .ref (ad 7)) rfl rfl 12 (by decide) rfl tw_X9_29 dX9_isWord_19 ?_
    refine g_iload_n C 1 1 rfl rfl dX9_isWord_22 ?_
    obtain ⟨hi, h⟩ := h
    refine g_iald C (o := 7) (N := 204) rfl rfl hi rfl dX9_isWord_23 ?_
    obtain ⟨hi, h⟩ := h
    refine g_iald C (o := 5) (N := 33) rfl rfl hi rfl dX9_isWord_24 ?_
    refine g_icmp_eq C rfl rfl 30 (by decide) dX9_isWord_25 (fun hc => ?_) (fun hc => ?_)
    · have h := h.1 hc
      refine g_iconst C dX9_isWord_30 ?_
      refine g_istore_n C 3 [(0, .ref (ad 0)), (1, vI a1), (2, vI a2)] rfl (by decide) rfl dX9_isWord_31 ?_
      obtain ⟨nn, h⟩ := h
      exact g_pick [1, 2, 3, 0] rfl (m_X9_isWord_L32 C hlocks hr nn _ _ _ _ h)
    · have h := h.2 hc
      refine g_iconst C dX9_isWord_28 ?_
      exact g_zret C hlocks hr (by decide) h dX9_isWord_29
set_option maxRecDepth 100000 in
set_option maxHeartbeats 4000000 in
theorem m_X9_isWord (l : Launch) (D : va_G) (cA : Nat → ClassId) (ad : Nat → Nat) {a1 a2 : Int} {Q : Int → St → Prop} {σ : St} (h : wp_X9_isWord a1 a2 Q σ) : CtI l yX9_isWord (.code yX9_isWord cX9_isWord 4 (some .boolean)) rm_X9_isWord D cA shM ad zsM [.ref (ad 0), vI a1, vI a2] σ Q :=
  ct_I RX9 (by decide +kernel) rfl (Nat.le_of_ble_eq_true rfl) (fun p e s m args below meth c C hlocks hr => m_X9_isWord_E C hlocks hr h)
