set_option maxRecDepth 100000 in
set_option maxHeartbeats 4000000 in
theorem m_X6_tryAuxiliary_E {p : Program} {l : Launch} {e : Env} {s : State} {m : MethodId} {args : Array Value} {below : List Frame} {meth : Method} {c : Code} {D : va_G} {cA : Nat → ClassId} {ad : Nat → Nat} (C : Cx p s m args c cX6_tryAuxiliary RX6 19 D cA shC ad zsC) (hlocks : meth.locks = false) (hr : meth.sig.returnType = (some .int)) {Q : Int → St → Prop} {a1 a2 a3 a4 : Int} {σ : St} (h : wp_X6_tryAuxiliary a1 a2 a3 a4 Q σ) : G p l e rm_X6_tryAuxiliary s m args below meth c 0 0 19 D cA shC ad (QI D cA shC ad zsC below args s Q) σ [(0, .ref (ad 23)), (1, vI a1), (2, vI a2), (3, vI a3), (4, vI a4)] [] 0 := by
  unfold wp_X6_tryAuxiliary at h
  refine g_aload_n C 0 0 rfl rfl dX6_tryAuxiliary_0 ?_
  refine g_iload_n C 1 1 rfl rfl dX6_tryAuxiliary_1 ?_
  refine g_iload_n C 2 2 rfl rfl dX6_tryAuxiliary_2 ?_
  refine g_iconst C dX6_tryAuxiliary_3 ?_
  refine g_callIv C (m_X6_nodeCell l D cA ad h) hv_X6_nodeCell tw_X6_47 (o := 23) (ci := 6) (As := [vI a1, vI a2, vI 3]) (st := []) rfl rfl rfl rfl ⟨Nat.le_of_ble_eq_true rfl, Nat.le_of_ble_eq_true rfl⟩ rfl rfl (Nat.le_of_ble_eq_true rfl) dX6_tryAuxiliary_4 (fun r2 σ1 h => ?_)
  try dsimp only at h
  refine g_istore C 5 [(0, .ref (ad 23)), (1, vI a1), (2, vI a2), (3, vI a3), (4, vI a4)] (by decide) rfl dX6_tryAuxiliary_7 ?_
  refine g_aload_n C 1 0 rfl rfl dX6_tryAuxiliary_9 ?_
  refine g_iload_n C 2 1 rfl rfl dX6_tryAuxiliary_10 ?_
  refine g_iload_n C 3 2 rfl rfl dX6_tryAuxiliary_11 ?_
  refine g_iconst C dX6_tryAuxiliary_12 ?_
  refine g_callIv C (m_X6_nodeCell l D cA ad h) hv_X6_nodeCell tw_X6_47 (o := 23) (ci := 6) (As := [vI a1, vI a2, vI 4]) (st := []) rfl rfl rfl rfl ⟨Nat.le_of_ble_eq_true rfl, Nat.le_of_ble_eq_true rfl⟩ rfl rfl (Nat.le_of_ble_eq_true rfl) dX6_tryAuxiliary_13 (fun r4 σ3 h => ?_)
  try dsimp only at h
  refine g_istore C 6 [(5, vI r2), (0, .ref (ad 23)), (1, vI a1), (2, vI a2), (3, vI a3), (4, vI a4)] (by decide) rfl dX6_tryAuxiliary_16 ?_
  refine g_aload_n C 2 0 rfl rfl dX6_tryAuxiliary_18 ?_
  refine g_iload_n C 3 1 rfl rfl dX6_tryAuxiliary_19 ?_
  refine g_iload_n C 4 2 rfl rfl dX6_tryAuxiliary_20 ?_
  refine g_iconst C dX6_tryAuxiliary_21 ?_
  refine g_callIv C (m_X6_nodeCell l D cA ad h) hv_X6_nodeCell tw_X6_47 (o := 23) (ci := 6) (As := [vI a1, vI a2, vI 5]) (st := []) rfl rfl rfl rfl ⟨Nat.le_of_ble_eq_true rfl, Nat.le_of_ble_eq_true rfl⟩ rfl rfl (Nat.le_of_ble_eq_true rfl) dX6_tryAuxiliary_22 (fun r6 σ5 h => ?_)
  try dsimp only at h
  refine g_istore C 7 [(6, vI r4), (5, vI r2), (0, .ref (ad 23)), (1, vI a1), (2, vI a2), (3, vI a3), (4, vI a4)] (by decide) rfl dX6_tryAuxiliary_25 ?_
  refine g_aload_n C 3 0 rfl rfl dX6_tryAuxiliary_27 ?_
  refine g_iload_n C 4 1 rfl rfl dX6_tryAuxiliary_28 ?_
  refine g_iload_n C 5 2 rfl rfl dX6_tryAuxiliary_29 ?_
  refine g_bipush C dX6_tryAuxiliary_30 (by decide) ?_
  refine g_callIv C (m_X6_nodeCell l D cA ad h) hv_X6_nodeCell tw_X6_47 (o := 23) (ci := 6) (As := [vI a1, vI a2, vI 6]) (st := []) rfl rfl rfl rfl ⟨Nat.le_of_ble_eq_true rfl, Nat.le_of_ble_eq_true rfl⟩ rfl rfl (Nat.le_of_ble_eq_true rfl) dX6_tryAuxiliary_32 (fun r8 σ7 h => ?_)
  try dsimp only at h
  refine g_istore C 8 [(7, vI r6), (6, vI r4), (5, vI r2), (0, .ref (ad 23)), (1, vI a1), (2, vI a2), (3, vI a3), (4, vI a4)] (by decide) rfl dX6_tryAuxiliary_35 ?_
  refine g_aload_n C 4 0 rfl rfl dX6_tryAuxiliary_37 ?_
  refine g_iload_n C 5 1 rfl rfl dX6_tryAuxiliary_38 ?_
  refine g_iload_n C 6 2 rfl rfl dX6_tryAuxiliary_39 ?_
  refine g_iconst C dX6_tryAuxiliary_40 ?_
  refine g_callIv C (m_X6_nodeCell l D cA ad h) hv_X6_nodeCell tw_X6_47 (o := 23) (ci := 6) (As := [vI a1, vI a2, vI 1]) (st := []) rfl rfl rfl rfl ⟨Nat.le_of_ble_eq_true rfl, Nat.le_of_ble_eq_true rfl⟩ rfl rfl (Nat.le_of_ble_eq_true rfl) dX6_tryAuxiliary_41 (fun r10 σ9 h => ?_)
  try dsimp only at h
  refine g_istore C 9 [(8, vI r8), (7, vI r6), (6, vI r4), (5, vI r2), (0, .ref (ad 23)), (1, vI a1), (2, vI a2), (3, vI a3), (4, vI a4)] (by decide) rfl dX6_tryAuxiliary_44 ?_
  refine g_aload_n C 5 0 rfl rfl dX6_tryAuxiliary_46 ?_
  refine g_get C iX6 (ci := 6) (o := 23) (v := .ref (ad 17)) rfl rfl 2 (by decide) rfl tw_X6_22 dX6_tryAuxiliary_47 ?_
  refine g_iload_n C 8 3 rfl rfl dX6_tryAuxiliary_50 ?_
  refine g_iload C 2 7 rfl dX6_tryAuxiliary_51 ?_
  refine g_iload C 1 8 rfl dX6_tryAuxiliary_53 ?_
  refine g_callIv C (m_X0_narrowest l D cA ad h) hv_X0_narrowest tw_X6_102 (o := 17) (ci := 0) (As := [vI a3, vI r6, vI r8]) (st := []) rfl rfl rfl rfl ⟨Nat.le_of_ble_eq_true rfl, Nat.le_of_ble_eq_true rfl⟩ rfl rfl (Nat.le_of_ble_eq_true rfl) dX6_tryAuxiliary_55 (fun r12 σ11 h => ?_)
  try dsimp only at h
  refine g_istore C 10 [(9, vI r10), (8, vI r8), (7, vI r6), (6, vI r4), (5, vI r2), (0, .ref (ad 23)), (1, vI a1), (2, vI a2), (3, vI a3), (4, vI a4)] (by decide) rfl dX6_tryAuxiliary_58 ?_
  refine g_aload_n C 6 0 rfl rfl dX6_tryAuxiliary_60 ?_
  refine g_get C iX6 (ci := 6) (o := 23) (v := .ref (ad 17)) rfl rfl 2 (by decide) rfl tw_X6_22 dX6_tryAuxiliary_61 ?_
  refine g_iload C 4 6 rfl dX6_tryAuxiliary_64 ?_
  refine g_iload C 3 7 rfl dX6_tryAuxiliary_66 ?_
  refine g_iload C 0 10 rfl dX6_tryAuxiliary_68 ?_
  refine g_callIv C (m_X0_lastBegin l D cA ad h) hv_X0_lastBegin tw_X6_105 (o := 17) (ci := 0) (As := [vI r4, vI r6, vI r12]) (st := []) rfl rfl rfl rfl ⟨Nat.le_of_ble_eq_true rfl, Nat.le_of_ble_eq_true rfl⟩ rfl rfl (Nat.le_of_ble_eq_true rfl) dX6_tryAuxiliary_70 (fun r14 σ13 h => ?_)
  try dsimp only at h
  refine g_istore C 11 [(10, vI r12), (9, vI r10), (8, vI r8), (7, vI r6), (6, vI r4), (5, vI r2), (0, .ref (ad 23)), (1, vI a1), (2, vI a2), (3, vI a3), (4, vI a4)] (by decide) rfl dX6_tryAuxiliary_73 ?_
  refine g_iload C 6 5 rfl dX6_tryAuxiliary_75 ?_
  refine g_istore C 12 [(11, vI r14), (10, vI r12), (9, vI r10), (8, vI r8), (7, vI r6), (6, vI r4), (5, vI r2), (0, .ref (ad 23)), (1, vI a1), (2, vI a2), (3, vI a3), (4, vI a4)] (by decide) rfl dX6_tryAuxiliary_77 ?_
  obtain ⟨nn, h⟩ := h
  exact g_pick [8, 9, 10, 11, 12, 7, 6, 5, 4, 3, 2, 1, 0] rfl (m_X6_tryAuxiliary_L79 C hlocks hr nn _ _ _ _ _ _ _ _ _ _ _ _ _ h)
set_option maxRecDepth 100000 in
set_option maxHeartbeats 4000000 in
theorem m_X6_tryAuxiliary (l : Launch) (D : va_G) (cA : Nat → ClassId) (ad : Nat → Nat) {a1 a2 a3 a4 : Int} {Q : Int → St → Prop} {σ : St} (h : wp_X6_tryAuxiliary a1 a2 a3 a4 Q σ) : CtI l yX6_tryAuxiliary (.code yX6_tryAuxiliary cX6_tryAuxiliary 19 (some .int)) rm_X6_tryAuxiliary D cA shC ad zsC [.ref (ad 23), vI a1, vI a2, vI a3, vI a4] σ Q :=
  ct_I RX6 (by decide +kernel) rfl (Nat.le_of_ble_eq_true rfl) (fun p e s m args below meth c C hlocks hr => m_X6_tryAuxiliary_E C hlocks hr h)
abbrev rm_X6_startAuxiliary : Room := { frames := 4, cells := 0, slots := 0, locals := 89 }
set_option maxRecDepth 100000 in
set_option maxHeartbeats 4000000 in
theorem m_X6_startAuxiliary_B175 {p : Program} {l : Launch} {e : Env} {s : State} {m : MethodId} {args : Array Value} {below : List Frame} {meth : Method} {c : Code} {D : va_G} {cA : Nat → ClassId} {ad : Nat → Nat} (C : Cx p s m args c cX6_startAuxiliary RX6 9 D cA shC ad zsC) (hlocks : meth.locks = false) (hr : meth.sig.returnType = (some .int)) {Q : Int → St → Prop} {K104 : Int → Int → Int → Int → Int → St → Prop} (hK104 : ∀ (x1 : Int) (x2 : Int) (x3 : Int) (x7 : Int) (x8 : Int) (σ : St), K104 x1 x2 x3 x7 x8 σ → G p l e rm_X6_startAuxiliary s m args below meth c 0 0 9 D cA shC ad (QI D cA shC ad zsC below args s Q) σ [(0, .ref (ad 23)), (1, vI x1), (2, vI x2), (3, vI x3), (7, vI x7), (8, vI x8)] [] 104) {x1 x2 x3 x7 x8 : Int} {σ : St} (h : wp_X6_startAuxiliary_B175 K104 x1 x2 x3 x7 x8 Q σ) : G p l e rm_X6_startAuxiliary s m args below meth c 0 0 9 D cA shC ad (QI D cA shC ad zsC below args s Q) σ [(0, .ref (ad 23)), (1, vI x1), (2, vI x2), (3, vI x3), (7, vI x7), (8, vI x8)] [] 175 := by
  unfold wp_X6_startAuxiliary_B175 at h
  refine g_iinc C 5 8 [(0, .ref (ad 23)), (1, vI x1), (2, vI x2), (3, vI x3), (7, vI x7)] rfl (by decide) rfl dX6_startAuxiliary_175 (fun x_1 ex_1 => ?_)
  have h := h x_1 ex_1
  refine g_goto C 104 (by decide) dX6_startAuxiliary_178 ?_
  exact g_pick [1, 2, 3, 4, 5, 0] rfl (hK104 _ _ _ _ _ _ h)
set_option maxRecDepth 100000 in
set_option maxHeartbeats 4000000 in
theorem m_X6_startAuxiliary_L104 {p : Program} {l : Launch} {e : Env} {s : State} {m : MethodId} {args : Array Value} {below : List Frame} {meth : Method} {c : Code} {D : va_G} {cA : Nat → ClassId} {ad : Nat → Nat} (C : Cx p s m args c cX6_startAuxiliary RX6 9 D cA shC ad zsC) (hlocks : meth.locks = false) (hr : meth.sig.returnType = (some .int)) {Q : Int → St → Prop} : ∀ (n : Nat) (x1 : Int) (x2 : Int) (x3 : Int) (x7 : Int) (x8 : Int) (σ : St), wp_X6_startAuxiliary_L104 Q n x1 x2 x3 x7 x8 σ → G p l e rm_X6_startAuxiliary s m args below meth c 0 0 9 D cA shC ad (QI D cA shC ad zsC below args s Q) σ [(0, .ref (ad 23)), (1, vI x1), (2, vI x2), (3, vI x3), (7, vI x7), (8, vI x8)] [] 104 := by
  intro n
  induction n with
  | zero => intro _ _ _ _ _ _ h; exact h.elim
  | succ n ih =>
    intro x1 x2 x3 x7 x8 σ h
    simp only [wp_X6_startAuxiliary_L104] at h
    refine g_iload C 5 8 rfl dX6_startAuxiliary_104 ?_
    refine g_aload_n C 0 0 rfl rfl dX6_startAuxiliary_106 ?_
    refine g_get C iX6 (ci := 6) (o := 23) (v := .ref (ad 3)) rfl rfl 1 (by decide) rfl tw_X6_18 dX6_startAuxiliary_107 ?_
    refine g_get C iX1 (ci := 1) (o := 3) (v := vI (σ 3 4)) rfl rfl 4 (by decide) rfl tw_X6_73 dX6_startAuxiliary_110 ?_
    refine g_icmp_ge C rfl rfl 181 (by decide) dX6_startAuxiliary_113 (fun hc => ?_) (fun hc => ?_)
    · have h := h.1 hc
      refine g_iload C 4 7 rfl dX6_startAuxiliary_181 ?_
      exact g_iret C hlocks hr h dX6_startAuxiliary_183
    · have h := h.2 hc
      refine g_iload C 4 7 rfl dX6_startAuxiliary_116 ?_
      refine g_iconst C dX6_startAuxiliary_118 ?_
      refine g_icmp_ne C (y' := (-1)) rfl (by decide) 181 (by decide) dX6_startAuxiliary_119 (fun hc => ?_) (fun hc => ?_)
      · have h := h.1 hc
        refine g_iload C 4 7 rfl dX6_startAuxiliary_181 ?_
        exact g_iret C hlocks hr h dX6_startAuxiliary_183
      · have h := h.2 hc
        refine g_aload_n C 0 0 rfl rfl dX6_startAuxiliary_122 ?_
        refine g_get C iX6 (ci := 6) (o := 23) (v := .ref (ad 3)) rfl rfl 1 (by decide) rfl tw_X6_18 dX6_startAuxiliary_123 ?_
        refine g_iload C 5 8 rfl dX6_startAuxiliary_126 ?_
        refine g_callIv C (m_X1_rootLabel l D cA ad h) hv_X1_rootLabel tw_X6_76 (o := 3) (ci := 1) (As := [vI x8]) (st := []) rfl rfl rfl rfl ⟨Nat.le_of_ble_eq_true rfl, Nat.le_of_ble_eq_true rfl⟩ rfl rfl (Nat.le_of_ble_eq_true rfl) dX6_startAuxiliary_128 (fun r2 σ1 h => ?_)
        try dsimp only at h
        refine g_aload_n C 0 0 rfl rfl dX6_startAuxiliary_131 ?_
        refine g_get C iX6 (ci := 6) (o := 23) (v := .ref (ad 3)) rfl rfl 1 (by decide) rfl tw_X6_18 dX6_startAuxiliary_132 ?_
        refine g_iload_n C 3 3 rfl rfl dX6_startAuxiliary_135 ?_
        refine g_iconst C dX6_startAuxiliary_136 ?_
        refine g_callIv C (m_X1_cell l D cA ad h) hv_X1_cell tw_X6_59 (o := 3) (ci := 1) (As := [vI x3, vI 1]) (st := [vI r2]) rfl rfl rfl rfl ⟨Nat.le_of_ble_eq_true rfl, Nat.le_of_ble_eq_true rfl⟩ rfl rfl (Nat.le_of_ble_eq_true rfl) dX6_startAuxiliary_137 (fun r4 σ3 h => ?_)
        try dsimp only at h
        refine g_icmp_ne C rfl rfl 175 (by decide) dX6_startAuxiliary_140 (fun hc => ?_) (fun hc => ?_)
        · have h := h.1 hc
          exact g_pick [0, 1, 2, 3, 4, 5] rfl (m_X6_startAuxiliary_B175 C hlocks hr (fun _ _ _ _ _ _ h => ih _ _ _ _ _ _ h) h)
        · have h := h.2 hc
          refine g_aload_n C 0 0 rfl rfl dX6_startAuxiliary_143 ?_
          refine g_get C iX6 (ci := 6) (o := 23) (v := .ref (ad 3)) rfl rfl 1 (by decide) rfl tw_X6_18 dX6_startAuxiliary_144 ?_
          refine g_iload C 5 8 rfl dX6_startAuxiliary_147 ?_
          refine g_callIv C (m_X1_isAuxiliary l D cA ad h) hv_X1_isAuxiliary tw_X6_80 (o := 3) (ci := 1) (As := [vI x8]) (st := []) rfl rfl rfl rfl ⟨Nat.le_of_ble_eq_true rfl, Nat.le_of_ble_eq_true rfl⟩ rfl rfl (Nat.le_of_ble_eq_true rfl) dX6_startAuxiliary_149 (fun r6 σ5 h => ?_)
          try dsimp only at h
          refine g_if_eq C rfl 175 (by decide) dX6_startAuxiliary_152 (fun hc => ?_) (fun hc => ?_)
          · have h := h.1 hc
            exact g_pick [0, 1, 2, 3, 4, 5] rfl (m_X6_startAuxiliary_B175 C hlocks hr (fun _ _ _ _ _ _ h => ih _ _ _ _ _ _ h) h)
          · have h := h.2 hc
            refine g_aload_n C 0 0 rfl rfl dX6_startAuxiliary_155 ?_
            refine g_get C iX6 (ci := 6) (o := 23) (v := vI (σ5 23 0)) rfl rfl 0 (by decide) rfl tw_X6_26 dX6_startAuxiliary_156 ?_
            refine g_bipush C dX6_startAuxiliary_159 (by decide) ?_
            refine g_icmp_ge C (y' := 8) rfl (by decide) 175 (by decide) dX6_startAuxiliary_161 (fun hc => ?_) (fun hc => ?_)
            · have h := h.1 hc
              exact g_pick [0, 1, 2, 3, 4, 5] rfl (m_X6_startAuxiliary_B175 C hlocks hr (fun _ _ _ _ _ _ h => ih _ _ _ _ _ _ h) h)
            · have h := h.2 hc
              refine g_aload_n C 0 0 rfl rfl dX6_startAuxiliary_164 ?_
              refine g_iload_n C 1 1 rfl rfl dX6_startAuxiliary_165 ?_
              refine g_iload_n C 2 2 rfl rfl dX6_startAuxiliary_166 ?_
              refine g_iload_n C 3 3 rfl rfl dX6_startAuxiliary_167 ?_
              refine g_iload C 5 8 rfl dX6_startAuxiliary_168 ?_
              refine g_callIv C (m_X6_tryAuxiliary l D cA ad h) hv_X6_tryAuxiliary tw_X6_98 (o := 23) (ci := 6) (As := [vI x1, vI x2, vI x3, vI x8]) (st := []) rfl rfl rfl rfl ⟨Nat.le_of_ble_eq_true rfl, Nat.le_of_ble_eq_true rfl⟩ rfl rfl (Nat.le_of_ble_eq_true rfl) dX6_startAuxiliary_170 (fun r8 σ7 h => ?_)
              try dsimp only at h
              refine g_istore C 7 [(0, .ref (ad 23)), (1, vI x1), (2, vI x2), (3, vI x3), (8, vI x8)] (by decide) rfl dX6_startAuxiliary_173 ?_
              exact g_pick [1, 2, 3, 4, 0, 5] rfl (m_X6_startAuxiliary_B175 C hlocks hr (fun _ _ _ _ _ _ h => ih _ _ _ _ _ _ h) h)
set_option maxRecDepth 100000 in
set_option maxHeartbeats 4000000 in
theorem m_X6_startAuxiliary_B75 {p : Program} {l : Launch} {e : Env} {s : State} {m : MethodId} {args : Array Value} {below : List Frame} {meth : Method} {c : Code} {D : va_G} {cA : Nat → ClassId} {ad : Nat → Nat} (C : Cx p s m args c cX6_startAuxiliary RX6 9 D cA shC ad zsC) (hlocks : meth.locks = false) (hr : meth.sig.returnType = (some .int)) {Q : Int → St → Prop} {x1 x2 x3 x4 y0 : Int} {σ : St} (h : wp_X6_startAuxiliary_B75 x1 x2 x3 x4 y0 Q σ) : G p l e rm_X6_startAuxiliary s m args below meth c 0 0 9 D cA shC ad (QI D cA shC ad zsC below args s Q) σ [(0, .ref (ad 23)), (1, vI x1), (2, vI x2), (3, vI x3), (4, vI x4)] [vI y0] 75 := by
  unfold wp_X6_startAuxiliary_B75 at h
  refine g_istore C 6 [(0, .ref (ad 23)), (1, vI x1), (2, vI x2), (3, vI x3), (4, vI x4)] (by decide) rfl dX6_startAuxiliary_75 ?_
  refine g_iload C 5 4 rfl dX6_startAuxiliary_77 ?_
  refine g_iload C 0 6 rfl dX6_startAuxiliary_79 ?_
  refine g_icmp_ge C rfl rfl 86 (by decide) dX6_startAuxiliary_81 (fun hc => ?_) (fun hc => ?_)
  · have h := h.1 hc
    refine g_aload_n C 1 0 rfl rfl dX6_startAuxiliary_86 ?_
    refine g_iload_n C 2 1 rfl rfl dX6_startAuxiliary_87 ?_
    refine g_iload_n C 3 2 rfl rfl dX6_startAuxiliary_88 ?_
    refine g_iconst C dX6_startAuxiliary_89 ?_
    refine g_iload C 5 4 rfl dX6_startAuxiliary_90 ?_
    refine g_iload C 0 6 rfl dX6_startAuxiliary_92 ?_
    refine g_isub C dX6_startAuxiliary_94 ?_
    refine g_callVv C (m_X6_setNodeCell l D cA ad h) hv_X6_setNodeCell tw_X6_69 (o := 23) (ci := 6) (As := [vI x1, vI x2, vI 1, vI (x4 - y0)]) (st := []) rfl rfl rfl rfl ⟨Nat.le_of_ble_eq_true rfl, Nat.le_of_ble_eq_true rfl⟩ rfl rfl (Nat.le_of_ble_eq_true rfl) dX6_startAuxiliary_95 (fun σ1 h => ?_)
    try dsimp only at h
    refine g_iconst C dX6_startAuxiliary_98 ?_
    refine g_istore C 7 [(6, vI y0), (0, .ref (ad 23)), (1, vI x1), (2, vI x2), (3, vI x3), (4, vI x4)] (by decide) rfl dX6_startAuxiliary_99 ?_
    refine g_iconst C dX6_startAuxiliary_101 ?_
    refine g_istore C 8 [(7, vI (-1)), (6, vI y0), (0, .ref (ad 23)), (1, vI x1), (2, vI x2), (3, vI x3), (4, vI x4)] (by decide) rfl dX6_startAuxiliary_102 ?_
    obtain ⟨nn, h⟩ := h
    exact g_pick [3, 4, 5, 6, 1, 0] rfl (m_X6_startAuxiliary_L104 C hlocks hr nn _ _ _ _ _ _ h)
  · have h := h.2 hc
    refine g_iconst C dX6_startAuxiliary_84 ?_
    exact g_iret C hlocks hr h dX6_startAuxiliary_85
set_option maxRecDepth 100000 in
set_option maxHeartbeats 4000000 in
theorem m_X6_startAuxiliary_B27 {p : Program} {l : Launch} {e : Env} {s : State} {m : MethodId} {args : Array Value} {below : List Frame} {meth : Method} {c : Code} {D : va_G} {cA : Nat → ClassId} {ad : Nat → Nat} (C : Cx p s m args c cX6_startAuxiliary RX6 9 D cA shC ad zsC) (hlocks : meth.locks = false) (hr : meth.sig.returnType = (some .int)) {Q : Int → St → Prop} {x1 x2 x3 x4 y0 : Int} {σ : St} (h : wp_X6_startAuxiliary_B27 x1 x2 x3 x4 y0 Q σ) : G p l e rm_X6_startAuxiliary s m args below meth c 0 0 9 D cA shC ad (QI D cA shC ad zsC below args s Q) σ [(0, .ref (ad 23)), (1, vI x1), (2, vI x2), (3, vI x3), (4, vI x4)] [vI y0] 27 := by
  unfold wp_X6_startAuxiliary_B27 at h
  refine g_istore C 5 [(0, .ref (ad 23)), (1, vI x1), (2, vI x2), (3, vI x3), (4, vI x4)] (by decide) rfl dX6_startAuxiliary_27 ?_
  refine g_iload C 0 5 rfl dX6_startAuxiliary_29 ?_
  refine g_if_eq C rfl 74 (by decide) dX6_startAuxiliary_31 (fun hc => ?_) (fun hc => ?_)
  · have h := h.1 hc
    refine g_iconst C dX6_startAuxiliary_74 ?_
    exact g_pick [1, 2, 3, 4, 5] rfl (m_X6_startAuxiliary_B75 C hlocks hr h)
  · have h := h.2 hc
    refine g_aload_n C 1 0 rfl rfl dX6_startAuxiliary_34 ?_
    refine g_get C iX6 (ci := 6) (o := 23) (v := .ref (ad 17)) rfl rfl 2 (by decide) rfl tw_X6_22 dX6_startAuxiliary_35 ?_
    refine g_iload_n C 4 3 rfl rfl dX6_startAuxiliary_38 ?_
    refine g_aload_n C 1 0 rfl rfl dX6_startAuxiliary_39 ?_
    refine g_iload_n C 2 1 rfl rfl dX6_startAuxiliary_40 ?_
    refine g_iload_n C 3 2 rfl rfl dX6_startAuxiliary_41 ?_
    refine g_iconst C dX6_startAuxiliary_42 ?_
    refine g_callIv C (m_X6_nodeCell l D cA ad h) hv_X6_nodeCell tw_X6_47 (o := 23) (ci := 6) (As := [vI x1, vI x2, vI 3]) (st := [vI x3, .ref (ad 17)]) rfl rfl rfl rfl ⟨Nat.le_of_ble_eq_true rfl, Nat.le_of_ble_eq_true rfl⟩ rfl rfl (Nat.le_of_ble_eq_true rfl) dX6_startAuxiliary_43 (fun r2 σ1 h => ?_)
    try dsimp only at h
    refine g_aload_n C 1 0 rfl rfl dX6_startAuxiliary_46 ?_
    refine g_iload_n C 2 1 rfl rfl dX6_startAuxiliary_47 ?_
    refine g_iload_n C 3 2 rfl rfl dX6_startAuxiliary_48 ?_
    refine g_iconst C dX6_startAuxiliary_49 ?_
    refine g_callIv C (m_X6_nodeCell l D cA ad h) hv_X6_nodeCell tw_X6_47 (o := 23) (ci := 6) (As := [vI x1, vI x2, vI 4]) (st := [vI r2, vI x3, .ref (ad 17)]) rfl rfl rfl rfl ⟨Nat.le_of_ble_eq_true rfl, Nat.le_of_ble_eq_true rfl⟩ rfl rfl (Nat.le_of_ble_eq_true rfl) dX6_startAuxiliary_50 (fun r4 σ3 h => ?_)
    try dsimp only at h
    refine g_aload_n C 1 0 rfl rfl dX6_startAuxiliary_53 ?_
    refine g_iload_n C 2 1 rfl rfl dX6_startAuxiliary_54 ?_
    refine g_iload_n C 3 2 rfl rfl dX6_startAuxiliary_55 ?_
    refine g_iconst C dX6_startAuxiliary_56 ?_
    refine g_callIv C (m_X6_nodeCell l D cA ad h) hv_X6_nodeCell tw_X6_47 (o := 23) (ci := 6) (As := [vI x1, vI x2, vI 5]) (st := [vI r4, vI r2, vI x3, .ref (ad 17)]) rfl rfl rfl rfl ⟨Nat.le_of_ble_eq_true rfl, Nat.le_of_ble_eq_true rfl⟩ rfl rfl (Nat.le_of_ble_eq_true rfl) dX6_startAuxiliary_57 (fun r6 σ5 h => ?_)
    try dsimp only at h
    refine g_aload_n C 1 0 rfl rfl dX6_startAuxiliary_60 ?_
    refine g_iload_n C 2 1 rfl rfl dX6_startAuxiliary_61 ?_
    refine g_iload_n C 3 2 rfl rfl dX6_startAuxiliary_62 ?_
    refine g_bipush C dX6_startAuxiliary_63 (by decide) ?_
    refine g_callIv C (m_X6_nodeCell l D cA ad h) hv_X6_nodeCell tw_X6_47 (o := 23) (ci := 6) (As := [vI x1, vI x2, vI 6]) (st := [vI r6, vI r4, vI r2, vI x3, .ref (ad 17)]) rfl rfl rfl rfl ⟨Nat.le_of_ble_eq_true rfl, Nat.le_of_ble_eq_true rfl⟩ rfl rfl (Nat.le_of_ble_eq_true rfl) dX6_startAuxiliary_65 (fun r8 σ7 h => ?_)
    try dsimp only at h
    refine g_callIv C (m_X0_partsWays l D cA ad h) hv_X0_partsWays tw_X6_95 (o := 17) (ci := 0) (As := [vI x3, vI r2, vI r4, vI r6, vI r8]) (st := []) rfl rfl rfl rfl ⟨Nat.le_of_ble_eq_true rfl, Nat.le_of_ble_eq_true rfl⟩ rfl rfl (Nat.le_of_ble_eq_true rfl) dX6_startAuxiliary_68 (fun r10 σ9 h => ?_)
    try dsimp only at h
    refine g_goto C 75 (by decide) dX6_startAuxiliary_71 ?_
    exact g_pick [1, 2, 3, 4, 5] rfl (m_X6_startAuxiliary_B75 C hlocks hr h)
set_option maxRecDepth 100000 in
set_option maxHeartbeats 4000000 in
theorem m_X6_startAuxiliary_E {p : Program} {l : Launch} {e : Env} {s : State} {m : MethodId} {args : Array Value} {below : List Frame} {meth : Method} {c : Code} {D : va_G} {cA : Nat → ClassId} {ad : Nat → Nat} (C : Cx p s m args c cX6_startAuxiliary RX6 9 D cA shC ad zsC) (hlocks : meth.locks = false) (hr : meth.sig.returnType = (some .int)) {Q : Int → St → Prop} {a1 a2 a3 : Int} {σ : St} (h : wp_X6_startAuxiliary a1 a2 a3 Q σ) : G p l e rm_X6_startAuxiliary s m args below meth c 0 0 9 D cA shC ad (QI D cA shC ad zsC below args s Q) σ [(0, .ref (ad 23)), (1, vI a1), (2, vI a2), (3, vI a3)] [] 0 := by
  unfold wp_X6_startAuxiliary at h
  refine g_aload_n C 0 0 rfl rfl dX6_startAuxiliary_0 ?_
  refine g_iload_n C 1 1 rfl rfl dX6_startAuxiliary_1 ?_
  refine g_iload_n C 2 2 rfl rfl dX6_startAuxiliary_2 ?_
  refine g_iconst C dX6_startAuxiliary_3 ?_
  refine g_callIv C (m_X6_nodeCell l D cA ad h) hv_X6_nodeCell tw_X6_47 (o := 23) (ci := 6) (As := [vI a1, vI a2, vI 1]) (st := []) rfl rfl rfl rfl ⟨Nat.le_of_ble_eq_true rfl, Nat.le_of_ble_eq_true rfl⟩ rfl rfl (Nat.le_of_ble_eq_true rfl) dX6_startAuxiliary_4 (fun r2 σ1 h => ?_)
  try dsimp only at h
  refine g_istore C 4 [(0, .ref (ad 23)), (1, vI a1), (2, vI a2), (3, vI a3)] (by decide) rfl dX6_startAuxiliary_7 ?_
  refine g_aload_n C 1 0 rfl rfl dX6_startAuxiliary_9 ?_
  refine g_get C iX6 (ci := 6) (o := 23) (v := .ref (ad 3)) rfl rfl 1 (by decide) rfl tw_X6_18 dX6_startAuxiliary_10 ?_
  refine g_iload_n C 4 3 rfl rfl dX6_startAuxiliary_13 ?_
  refine g_iconst C dX6_startAuxiliary_14 ?_
  refine g_callIv C (m_X1_cell l D cA ad h) hv_X1_cell tw_X6_59 (o := 3) (ci := 1) (As := [vI a3, vI 4]) (st := []) rfl rfl rfl rfl ⟨Nat.le_of_ble_eq_true rfl, Nat.le_of_ble_eq_true rfl⟩ rfl rfl (Nat.le_of_ble_eq_true rfl) dX6_startAuxiliary_15 (fun r4 σ3 h => ?_)
  try dsimp only at h
  refine g_iconst C dX6_startAuxiliary_18 ?_
  refine g_icmp_eq C (y' := 1) rfl (by decide) 26 (by decide) dX6_startAuxiliary_19 (fun hc => ?_) (fun hc => ?_)
  · have h := h.1 hc
    refine g_iconst C dX6_startAuxiliary_26 ?_
    exact g_pick [1, 2, 3, 4, 0] rfl (m_X6_startAuxiliary_B27 C hlocks hr h)
  · have h := h.2 hc
    refine g_iconst C dX6_startAuxiliary_22 ?_
    refine g_goto C 27 (by decide) dX6_startAuxiliary_23 ?_
    exact g_pick [1, 2, 3, 4, 0] rfl (m_X6_startAuxiliary_B27 C hlocks hr h)
set_option maxRecDepth 100000 in
set_option maxHeartbeats 4000000 in
theorem m_X6_startAuxiliary (l : Launch) (D : va_G) (cA : Nat → ClassId) (ad : Nat → Nat) {a1 a2 a3 : Int} {Q : Int → St → Prop} {σ : St} (h : wp_X6_startAuxiliary a1 a2 a3 Q σ) : CtI l yX6_startAuxiliary (.code yX6_startAuxiliary cX6_startAuxiliary 9 (some .int)) rm_X6_startAuxiliary D cA shC ad zsC [.ref (ad 23), vI a1, vI a2, vI a3] σ Q :=
  ct_I RX6 (by decide +kernel) rfl (Nat.le_of_ble_eq_true rfl) (fun p e s m args below meth c C hlocks hr => m_X6_startAuxiliary_E C hlocks hr h)
abbrev rm_X6_splitOff : Room := { frames := 3, cells := 0, slots := 0, locals := 51 }
set_option maxRecDepth 100000 in
set_option maxHeartbeats 4000000 in
theorem m_X6_splitOff_B233 {p : Program} {l : Launch} {e : Env} {s : State} {m : MethodId} {args : Array Value} {below : List Frame} {meth : Method} {c : Code} {D : va_G} {cA : Nat → ClassId} {ad : Nat → Nat} (C : Cx p s m args c cX6_splitOff RX6 17 D cA shC ad zsC) (hlocks : meth.locks = false) (hr : meth.sig.returnType = (some .int)) {Q : Int → St → Prop} {x8 x9 x15 y1 y2 y3 y4 y5 y6 : Int} {σ : St} (h : wp_X6_splitOff_B233 x8 x9 x15 y1 y2 y3 y4 y5 y6 Q σ) : G p l e rm_X6_splitOff s m args below meth c 0 0 17 D cA shC ad (QI D cA shC ad zsC below args s Q) σ [(8, vI x8), (9, vI x9), (15, vI x15)] [vI y6, vI y5, vI y4, vI y3, vI y2, vI y1, .ref (ad 23)] 233 := by
  unfold wp_X6_splitOff_B233 at h
  refine g_iload C 0 8 rfl dX6_splitOff_233 ?_
  refine g_iload C 2 15 rfl dX6_splitOff_235 ?_
  obtain ⟨hi, h⟩ := h
  refine g_irem C hi dX6_splitOff_237 ?_
  refine g_callVv C (m_X6_lay l D cA ad h) hv_X6_lay tw_X6_91 (o := 23) (ci := 6) (As := [vI y1, vI y2, vI y3, vI y4, vI y5, vI y6, vI (iRem x8 x15)]) (st := []) rfl rfl rfl rfl ⟨Nat.le_of_ble_eq_true rfl, Nat.le_of_ble_eq_true rfl⟩ rfl rfl (Nat.le_of_ble_eq_true rfl) dX6_splitOff_238 (fun σ1 h => ?_)
  try dsimp only at h
  refine g_goto C 257 (by decide) dX6_splitOff_241 ?_
  refine g_iload C 1 9 rfl dX6_splitOff_257 ?_
  exact g_iret C hlocks hr h dX6_splitOff_259
set_option maxRecDepth 100000 in
set_option maxHeartbeats 4000000 in
theorem m_X6_splitOff_B222 {p : Program} {l : Launch} {e : Env} {s : State} {m : MethodId} {args : Array Value} {below : List Frame} {meth : Method} {c : Code} {D : va_G} {cA : Nat → ClassId} {ad : Nat → Nat} (C : Cx p s m args c cX6_splitOff RX6 17 D cA shC ad zsC) (hlocks : meth.locks = false) (hr : meth.sig.returnType = (some .int)) {Q : Int → St → Prop} {x7 x8 x9 x10 x15 y1 y2 y3 y4 y5 : Int} {σ : St} (h : wp_X6_splitOff_B222 x7 x8 x9 x10 x15 y1 y2 y3 y4 y5 Q σ) : G p l e rm_X6_splitOff s m args below meth c 0 0 17 D cA shC ad (QI D cA shC ad zsC below args s Q) σ [(7, vI x7), (8, vI x8), (9, vI x9), (10, vI x10), (15, vI x15)] [vI y5, vI y4, vI y3, vI y2, vI y1, .ref (ad 23)] 222 := by
  unfold wp_X6_splitOff_B222 at h
  refine g_iload C 3 10 rfl dX6_splitOff_222 ?_
  refine g_if_eq C rfl 231 (by decide) dX6_splitOff_224 (fun hc => ?_) (fun hc => ?_)
  · have h := h.1 hc
    refine g_iload C 0 7 rfl dX6_splitOff_231 ?_
    exact g_pick [1, 2, 4] rfl (m_X6_splitOff_B233 C hlocks hr h)
  · have h := h.2 hc
    refine g_iconst C dX6_splitOff_227 ?_
    refine g_goto C 233 (by decide) dX6_splitOff_228 ?_
    exact g_pick [1, 2, 4] rfl (m_X6_splitOff_B233 C hlocks hr h)
set_option maxRecDepth 100000 in
set_option maxHeartbeats 4000000 in
theorem m_X6_splitOff_B195 {p : Program} {l : Launch} {e : Env} {s : State} {m : MethodId} {args : Array Value} {below : List Frame} {meth : Method} {c : Code} {D : va_G} {cA : Nat → ClassId} {ad : Nat → Nat} (C : Cx p s m args c cX6_splitOff RX6 17 D cA shC ad zsC) (hlocks : meth.locks = false) (hr : meth.sig.returnType = (some .int)) {Q : Int → St → Prop} {x1 x5 x6 x7 x8 x9 x10 x12 x15 y1 y2 y3 y4 y5 y6 : Int} {σ : St} (h : wp_X6_splitOff_B195 x1 x5 x6 x7 x8 x9 x10 x12 x15 y1 y2 y3 y4 y5 y6 Q σ) : G p l e rm_X6_splitOff s m args below meth c 0 0 17 D cA shC ad (QI D cA shC ad zsC below args s Q) σ [(0, .ref (ad 23)), (1, vI x1), (5, vI x5), (6, vI x6), (7, vI x7), (8, vI x8), (9, vI x9), (10, vI x10), (12, vI x12), (15, vI x15)] [vI y6, vI y5, vI y4, vI y3, vI y2, vI y1, .ref (ad 23)] 195 := by
  unfold wp_X6_splitOff_B195 at h
  refine g_iload C 5 8 rfl dX6_splitOff_195 ?_
  refine g_iload C 9 15 rfl dX6_splitOff_197 ?_
  obtain ⟨hi, h⟩ := h
  refine g_idiv C hi dX6_splitOff_199 ?_
  refine g_callVv C (m_X6_lay l D cA ad h) hv_X6_lay tw_X6_91 (o := 23) (ci := 6) (As := [vI y1, vI y2, vI y3, vI y4, vI y5, vI y6, vI (iDiv x8 x15)]) (st := []) rfl rfl rfl rfl ⟨Nat.le_of_ble_eq_true rfl, Nat.le_of_ble_eq_true rfl⟩ rfl rfl (Nat.le_of_ble_eq_true rfl) dX6_splitOff_200 (fun σ1 h => ?_)
  try dsimp only at h
  refine g_aload_n C 0 0 rfl rfl dX6_splitOff_203 ?_
  refine g_iload_n C 1 1 rfl rfl dX6_splitOff_204 ?_
  refine g_iload C 6 9 rfl dX6_splitOff_205 ?_
  refine g_iload C 8 12 rfl dX6_splitOff_207 ?_
  refine g_iload C 2 5 rfl dX6_splitOff_209 ?_
  refine g_iload C 7 10 rfl dX6_splitOff_211 ?_
  refine g_if_eq C rfl 220 (by decide) dX6_splitOff_213 (fun hc => ?_) (fun hc => ?_)
  · have h := h.1 hc
    refine g_iload C 3 6 rfl dX6_splitOff_220 ?_
    exact g_pick [4, 5, 6, 7, 9] rfl (m_X6_splitOff_B222 C hlocks hr h)
  · have h := h.2 hc
    refine g_iconst C dX6_splitOff_216 ?_
    refine g_goto C 222 (by decide) dX6_splitOff_217 ?_
    exact g_pick [4, 5, 6, 7, 9] rfl (m_X6_splitOff_B222 C hlocks hr h)
set_option maxRecDepth 100000 in
set_option maxHeartbeats 4000000 in
theorem m_X6_splitOff_B184 {p : Program} {l : Launch} {e : Env} {s : State} {m : MethodId} {args : Array Value} {below : List Frame} {meth : Method} {c : Code} {D : va_G} {cA : Nat → ClassId} {ad : Nat → Nat} (C : Cx p s m args c cX6_splitOff RX6 17 D cA shC ad zsC) (hlocks : meth.locks = false) (hr : meth.sig.returnType = (some .int)) {Q : Int → St → Prop} {x1 x5 x6 x7 x8 x9 x10 x12 x15 y1 y2 y3 y4 y5 : Int} {σ : St} (h : wp_X6_splitOff_B184 x1 x5 x6 x7 x8 x9 x10 x12 x15 y1 y2 y3 y4 y5 Q σ) : G p l e rm_X6_splitOff s m args below meth c 0 0 17 D cA shC ad (QI D cA shC ad zsC below args s Q) σ [(0, .ref (ad 23)), (1, vI x1), (5, vI x5), (6, vI x6), (7, vI x7), (8, vI x8), (9, vI x9), (10, vI x10), (12, vI x12), (15, vI x15)] [vI y5, vI y4, vI y3, vI y2, vI y1, .ref (ad 23)] 184 := by
  unfold wp_X6_splitOff_B184 at h
  refine g_iload C 7 10 rfl dX6_splitOff_184 ?_
  refine g_if_eq C rfl 194 (by decide) dX6_splitOff_186 (fun hc => ?_) (fun hc => ?_)
  · have h := h.1 hc
    refine g_iconst C dX6_splitOff_194 ?_
    exact g_pick [0, 1, 2, 3, 4, 5, 6, 7, 8, 9] rfl (m_X6_splitOff_B195 C hlocks hr h)
  · have h := h.2 hc
    refine g_iload C 4 7 rfl dX6_splitOff_189 ?_
    refine g_goto C 195 (by decide) dX6_splitOff_191 ?_
    exact g_pick [0, 1, 2, 3, 4, 5, 6, 7, 8, 9] rfl (m_X6_splitOff_B195 C hlocks hr h)
set_option maxRecDepth 100000 in
set_option maxHeartbeats 4000000 in
theorem m_X6_splitOff_B244 {p : Program} {l : Launch} {e : Env} {s : State} {m : MethodId} {args : Array Value} {below : List Frame} {meth : Method} {c : Code} {D : va_G} {cA : Nat → ClassId} {ad : Nat → Nat} (C : Cx p s m args c cX6_splitOff RX6 17 D cA shC ad zsC) (hlocks : meth.locks = false) (hr : meth.sig.returnType = (some .int)) {Q : Int → St → Prop} {K99 : Int → Int → Int → Int → Int → Int → Int → Int → Int → Int → Int → Int → St → Prop} (hK99 : ∀ (x1 : Int) (x2 : Int) (x3 : Int) (x4 : Int) (x5 : Int) (x6 : Int) (x7 : Int) (x8 : Int) (x9 : Int) (x10 : Int) (x11 : Int) (x12 : Int) (σ : St), K99 x1 x2 x3 x4 x5 x6 x7 x8 x9 x10 x11 x12 σ → G p l e rm_X6_splitOff s m args below meth c 0 0 17 D cA shC ad (QI D cA shC ad zsC below args s Q) σ [(0, .ref (ad 23)), (1, vI x1), (2, vI x2), (3, vI x3), (4, vI x4), (5, vI x5), (6, vI x6), (7, vI x7), (8, vI x8), (9, vI x9), (10, vI x10), (11, vI x11), (12, vI x12)] [] 99) {x1 x2 x3 x4 x5 x6 x7 x8 x9 x10 x11 x12 x16 : Int} {σ : St} (h : wp_X6_splitOff_B244 K99 x1 x2 x3 x4 x5 x6 x7 x8 x9 x10 x11 x12 x16 Q σ) : G p l e rm_X6_splitOff s m args below meth c 0 0 17 D cA shC ad (QI D cA shC ad zsC below args s Q) σ [(0, .ref (ad 23)), (1, vI x1), (2, vI x2), (3, vI x3), (4, vI x4), (5, vI x5), (6, vI x6), (7, vI x7), (8, vI x8), (9, vI x9), (10, vI x10), (11, vI x11), (12, vI x12), (16, vI x16)] [] 244 := by
  unfold wp_X6_splitOff_B244 at h
  refine g_iload C 8 8 rfl dX6_splitOff_244 ?_
  refine g_iload C 13 16 rfl dX6_splitOff_246 ?_
  refine g_isub C dX6_splitOff_248 ?_
  refine g_name (fun x_1 ex_1 => ?_)
  have h := h x_1 ex_1
  refine g_istore C 8 [(0, .ref (ad 23)), (1, vI x1), (2, vI x2), (3, vI x3), (4, vI x4), (5, vI x5), (6, vI x6), (7, vI x7), (9, vI x9), (10, vI x10), (11, vI x11), (12, vI x12), (16, vI x16)] (by decide) rfl dX6_splitOff_249 ?_
  refine g_iinc C 12 12 [(8, vI x_1), (0, .ref (ad 23)), (1, vI x1), (2, vI x2), (3, vI x3), (4, vI x4), (5, vI x5), (6, vI x6), (7, vI x7), (9, vI x9), (10, vI x10), (11, vI x11), (16, vI x16)] rfl (by decide) rfl dX6_splitOff_251 (fun x_2 ex_2 => ?_)
  have h := h x_2 ex_2
  refine g_goto C 99 (by decide) dX6_splitOff_254 ?_
  exact g_pick [2, 3, 4, 5, 6, 7, 8, 9, 1, 10, 11, 12, 0] rfl (hK99 _ _ _ _ _ _ _ _ _ _ _ _ _ h)
set_option maxRecDepth 100000 in
set_option maxHeartbeats 4000000 in
theorem m_X6_splitOff_L99 {p : Program} {l : Launch} {e : Env} {s : State} {m : MethodId} {args : Array Value} {below : List Frame} {meth : Method} {c : Code} {D : va_G} {cA : Nat → ClassId} {ad : Nat → Nat} (C : Cx p s m args c cX6_splitOff RX6 17 D cA shC ad zsC) (hlocks : meth.locks = false) (hr : meth.sig.returnType = (some .int)) {Q : Int → St → Prop} : ∀ (n : Nat) (x1 : Int) (x2 : Int) (x3 : Int) (x4 : Int) (x5 : Int) (x6 : Int) (x7 : Int) (x8 : Int) (x9 : Int) (x10 : Int) (x11 : Int) (x12 : Int) (σ : St), wp_X6_splitOff_L99 Q n x1 x2 x3 x4 x5 x6 x7 x8 x9 x10 x11 x12 σ → G p l e rm_X6_splitOff s m args below meth c 0 0 17 D cA shC ad (QI D cA shC ad zsC below args s Q) σ [(0, .ref (ad 23)), (1, vI x1), (2, vI x2), (3, vI x3), (4, vI x4), (5, vI x5), (6, vI x6), (7, vI x7), (8, vI x8), (9, vI x9), (10, vI x10), (11, vI x11), (12, vI x12)] [] 99 := by
  intro n
  induction n with
  | zero => intro _ _ _ _ _ _ _ _ _ _ _ _ _ h; exact h.elim
  | succ n ih =>
    intro x1 x2 x3 x4 x5 x6 x7 x8 x9 x10 x11 x12 σ h
    simp only [wp_X6_splitOff_L99] at h
    refine g_iload C 12 12 rfl dX6_splitOff_99 ?_
    refine g_iload C 11 11 rfl dX6_splitOff_101 ?_
    refine g_icmp_gt C rfl rfl 257 (by decide) dX6_splitOff_103 (fun hc => ?_) (fun hc => ?_)
    · have h := h.1 hc
      refine g_iload C 9 9 rfl dX6_splitOff_257 ?_
      exact g_iret C hlocks hr h dX6_splitOff_259
    · have h := h.2 hc
      refine g_aload_n C 0 0 rfl rfl dX6_splitOff_106 ?_
      refine g_get C iX6 (ci := 6) (o := 23) (v := .ref (ad 17)) rfl rfl 2 (by decide) rfl tw_X6_22 dX6_splitOff_107 ?_
      refine g_iload_n C 3 3 rfl rfl dX6_splitOff_110 ?_
      refine g_iload C 4 4 rfl dX6_splitOff_111 ?_
      refine g_iload C 12 12 rfl dX6_splitOff_113 ?_
      refine g_iload C 6 6 rfl dX6_splitOff_115 ?_
      refine g_iload C 7 7 rfl dX6_splitOff_117 ?_
      refine g_callIv C (m_X0_headWays l D cA ad h) hv_X0_headWays tw_X6_129 (o := 17) (ci := 0) (As := [vI x3, vI x4, vI x12, vI x6, vI x7]) (st := []) rfl rfl rfl rfl ⟨Nat.le_of_ble_eq_true rfl, Nat.le_of_ble_eq_true rfl⟩ rfl rfl (Nat.le_of_ble_eq_true rfl) dX6_splitOff_119 (fun r2 σ1 h => ?_)
      try dsimp only at h
      refine g_i2l C rfl dX6_splitOff_122 ?_
      refine g_nameL (fun x_3 ex_3 => ?_)
      have h := h x_3 ex_3
      refine g_lstore C 13 [(0, .ref (ad 23)), (1, vI x1), (2, vI x2), (3, vI x3), (4, vI x4), (5, vI x5), (6, vI x6), (7, vI x7), (8, vI x8), (9, vI x9), (10, vI x10), (11, vI x11), (12, vI x12)] (by decide) rfl dX6_splitOff_123 ?_
      refine g_aload_n C 1 0 rfl rfl dX6_splitOff_125 ?_
      refine g_get C iX6 (ci := 6) (o := 23) (v := .ref (ad 17)) rfl rfl 2 (by decide) rfl tw_X6_22 dX6_splitOff_126 ?_
      refine g_iload_n C 4 3 rfl rfl dX6_splitOff_129 ?_
      refine g_iload C 13 12 rfl dX6_splitOff_130 ?_
      refine g_iload C 6 5 rfl dX6_splitOff_132 ?_
      refine g_iload C 7 6 rfl dX6_splitOff_134 ?_
      refine g_iload C 8 7 rfl dX6_splitOff_136 ?_
      refine g_callIv C (m_X0_tailWays l D cA ad h) hv_X0_tailWays tw_X6_132 (o := 17) (ci := 0) (As := [vI x3, vI x12, vI x5, vI x6, vI x7]) (st := []) rfl rfl rfl rfl ⟨Nat.le_of_ble_eq_true rfl, Nat.le_of_ble_eq_true rfl⟩ rfl rfl (Nat.le_of_ble_eq_true rfl) dX6_splitOff_138 (fun r5 σ4 h => ?_)
      try dsimp only at h
      refine g_istore C 15 [(13, vL x_3), (0, .ref (ad 23)), (1, vI x1), (2, vI x2), (3, vI x3), (4, vI x4), (5, vI x5), (6, vI x6), (7, vI x7), (8, vI x8), (9, vI x9), (10, vI x10), (11, vI x11), (12, vI x12)] (by decide) rfl dX6_splitOff_141 ?_
      refine g_lload C 1 13 rfl dX6_splitOff_143 ?_
      refine g_iload C 0 15 rfl dX6_splitOff_145 ?_
      refine g_i2l C rfl dX6_splitOff_147 ?_
      refine g_lmul C dX6_splitOff_148 ?_
      refine g_callIs C (m_X0_cut l D cA ad h) hv_X0_cut tw_X6_113 (As := [vL (x_3 * (w32 r5))]) (st := []) rfl rfl ⟨Nat.le_of_ble_eq_true rfl, Nat.le_of_ble_eq_true rfl⟩ rfl rfl (Nat.le_of_ble_eq_true rfl) dX6_splitOff_149 (fun r7 σ6 h => ?_)
      try dsimp only at h
      refine g_istore C 16 [(15, vI r5), (13, vL x_3), (0, .ref (ad 23)), (1, vI x1), (2, vI x2), (3, vI x3), (4, vI x4), (5, vI x5), (6, vI x6), (7, vI x7), (8, vI x8), (9, vI x9), (10, vI x10), (11, vI x11), (12, vI x12)] (by decide) rfl dX6_splitOff_152 ?_
      refine g_iload C 1 15 rfl dX6_splitOff_154 ?_
      refine g_if_le C rfl 244 (by decide) dX6_splitOff_156 (fun hc => ?_) (fun hc => ?_)
      · have h := h.1 hc
        exact g_pick [3, 4, 5, 6, 7, 8, 9, 10, 11, 12, 13, 14, 15, 0] rfl (m_X6_splitOff_B244 C hlocks hr (fun _ _ _ _ _ _ _ _ _ _ _ _ _ h => ih _ _ _ _ _ _ _ _ _ _ _ _ _ h) h)
      · have h := h.2 hc
        refine g_iload C 11 8 rfl dX6_splitOff_159 ?_
        refine g_iload C 0 16 rfl dX6_splitOff_161 ?_
        refine g_icmp_ge C rfl rfl 244 (by decide) dX6_splitOff_163 (fun hc => ?_) (fun hc => ?_)
        · have h := h.1 hc
          exact g_pick [3, 4, 5, 6, 7, 8, 9, 10, 11, 12, 13, 14, 15, 0] rfl (m_X6_splitOff_B244 C hlocks hr (fun _ _ _ _ _ _ _ _ _ _ _ _ _ h => ih _ _ _ _ _ _ _ _ _ _ _ _ _ h) h)
        · have h := h.2 hc
          refine g_aload_n C 3 0 rfl rfl dX6_splitOff_166 ?_
          refine g_iload_n C 4 1 rfl rfl dX6_splitOff_167 ?_
          refine g_iload_n C 5 2 rfl rfl dX6_splitOff_168 ?_
          refine g_iload C 7 4 rfl dX6_splitOff_169 ?_
          refine g_iload C 15 12 rfl dX6_splitOff_171 ?_
          refine g_iload C 13 10 rfl dX6_splitOff_173 ?_
          refine g_if_eq C rfl 183 (by decide) dX6_splitOff_175 (fun hc => ?_) (fun hc => ?_)
          · have h := h.1 hc
            refine g_iconst C dX6_splitOff_183 ?_
            exact g_pick [3, 4, 8, 9, 10, 11, 12, 13, 15, 1] rfl (m_X6_splitOff_B184 C hlocks hr h)
          · have h := h.2 hc
            refine g_iload C 9 6 rfl dX6_splitOff_178 ?_
            refine g_goto C 184 (by decide) dX6_splitOff_180 ?_
            exact g_pick [3, 4, 8, 9, 10, 11, 12, 13, 15, 1] rfl (m_X6_splitOff_B184 C hlocks hr h)
set_option maxRecDepth 100000 in
set_option maxHeartbeats 4000000 in
theorem m_X6_splitOff_E {p : Program} {l : Launch} {e : Env} {s : State} {m : MethodId} {args : Array Value} {below : List Frame} {meth : Method} {c : Code} {D : va_G} {cA : Nat → ClassId} {ad : Nat → Nat} (C : Cx p s m args c cX6_splitOff RX6 17 D cA shC ad zsC) (hlocks : meth.locks = false) (hr : meth.sig.returnType = (some .int)) {Q : Int → St → Prop} {a1 a2 a3 : Int} {σ : St} (h : wp_X6_splitOff a1 a2 a3 Q σ) : G p l e rm_X6_splitOff s m args below meth c 0 0 17 D cA shC ad (QI D cA shC ad zsC below args s Q) σ [(0, .ref (ad 23)), (1, vI a1), (2, vI a2), (3, vI a3)] [] 0 := by
  unfold wp_X6_splitOff at h
  refine g_aload_n C 0 0 rfl rfl dX6_splitOff_0 ?_
  refine g_iload_n C 1 1 rfl rfl dX6_splitOff_1 ?_
  refine g_iload_n C 2 2 rfl rfl dX6_splitOff_2 ?_
  refine g_iconst C dX6_splitOff_3 ?_
  refine g_callIv C (m_X6_nodeCell l D cA ad h) hv_X6_nodeCell tw_X6_47 (o := 23) (ci := 6) (As := [vI a1, vI a2, vI 3]) (st := []) rfl rfl rfl rfl ⟨Nat.le_of_ble_eq_true rfl, Nat.le_of_ble_eq_true rfl⟩ rfl rfl (Nat.le_of_ble_eq_true rfl) dX6_splitOff_4 (fun r2 σ1 h => ?_)
  try dsimp only at h
  refine g_istore C 4 [(0, .ref (ad 23)), (1, vI a1), (2, vI a2), (3, vI a3)] (by decide) rfl dX6_splitOff_7 ?_
  refine g_aload_n C 1 0 rfl rfl dX6_splitOff_9 ?_
  refine g_iload_n C 2 1 rfl rfl dX6_splitOff_10 ?_
  refine g_iload_n C 3 2 rfl rfl dX6_splitOff_11 ?_
  refine g_iconst C dX6_splitOff_12 ?_
  refine g_callIv C (m_X6_nodeCell l D cA ad h) hv_X6_nodeCell tw_X6_47 (o := 23) (ci := 6) (As := [vI a1, vI a2, vI 4]) (st := []) rfl rfl rfl rfl ⟨Nat.le_of_ble_eq_true rfl, Nat.le_of_ble_eq_true rfl⟩ rfl rfl (Nat.le_of_ble_eq_true rfl) dX6_splitOff_13 (fun r4 σ3 h => ?_)
  try dsimp only at h
  refine g_istore C 5 [(4, vI r2), (0, .ref (ad 23)), (1, vI a1), (2, vI a2), (3, vI a3)] (by decide) rfl dX6_splitOff_16 ?_
  refine g_aload_n C 2 0 rfl rfl dX6_splitOff_18 ?_
  refine g_iload_n C 3 1 rfl rfl dX6_splitOff_19 ?_
  refine g_iload_n C 4 2 rfl rfl dX6_splitOff_20 ?_
  refine g_iconst C dX6_splitOff_21 ?_
  refine g_callIv C (m_X6_nodeCell l D cA ad h) hv_X6_nodeCell tw_X6_47 (o := 23) (ci := 6) (As := [vI a1, vI a2, vI 5]) (st := []) rfl rfl rfl rfl ⟨Nat.le_of_ble_eq_true rfl, Nat.le_of_ble_eq_true rfl⟩ rfl rfl (Nat.le_of_ble_eq_true rfl) dX6_splitOff_22 (fun r6 σ5 h => ?_)
  try dsimp only at h
  refine g_istore C 6 [(5, vI r4), (4, vI r2), (0, .ref (ad 23)), (1, vI a1), (2, vI a2), (3, vI a3)] (by decide) rfl dX6_splitOff_25 ?_
  refine g_aload_n C 3 0 rfl rfl dX6_splitOff_27 ?_
  refine g_iload_n C 4 1 rfl rfl dX6_splitOff_28 ?_
  refine g_iload_n C 5 2 rfl rfl dX6_splitOff_29 ?_
  refine g_bipush C dX6_splitOff_30 (by decide) ?_
  refine g_callIv C (m_X6_nodeCell l D cA ad h) hv_X6_nodeCell tw_X6_47 (o := 23) (ci := 6) (As := [vI a1, vI a2, vI 6]) (st := []) rfl rfl rfl rfl ⟨Nat.le_of_ble_eq_true rfl, Nat.le_of_ble_eq_true rfl⟩ rfl rfl (Nat.le_of_ble_eq_true rfl) dX6_splitOff_32 (fun r8 σ7 h => ?_)
  try dsimp only at h
  refine g_istore C 7 [(6, vI r6), (5, vI r4), (4, vI r2), (0, .ref (ad 23)), (1, vI a1), (2, vI a2), (3, vI a3)] (by decide) rfl dX6_splitOff_35 ?_
  refine g_aload_n C 4 0 rfl rfl dX6_splitOff_37 ?_
  refine g_iload_n C 5 1 rfl rfl dX6_splitOff_38 ?_
  refine g_iload_n C 6 2 rfl rfl dX6_splitOff_39 ?_
  refine g_iconst C dX6_splitOff_40 ?_
  refine g_callIv C (m_X6_nodeCell l D cA ad h) hv_X6_nodeCell tw_X6_47 (o := 23) (ci := 6) (As := [vI a1, vI a2, vI 1]) (st := []) rfl rfl rfl rfl ⟨Nat.le_of_ble_eq_true rfl, Nat.le_of_ble_eq_true rfl⟩ rfl rfl (Nat.le_of_ble_eq_true rfl) dX6_splitOff_41 (fun r10 σ9 h => ?_)
  try dsimp only at h
  refine g_istore C 8 [(7, vI r8), (6, vI r6), (5, vI r4), (4, vI r2), (0, .ref (ad 23)), (1, vI a1), (2, vI a2), (3, vI a3)] (by decide) rfl dX6_splitOff_44 ?_
  refine g_aload_n C 5 0 rfl rfl dX6_splitOff_46 ?_
  refine g_get C iX6 (ci := 6) (o := 23) (v := .ref (ad 3)) rfl rfl 1 (by decide) rfl tw_X6_18 dX6_splitOff_47 ?_
  refine g_iload_n C 8 3 rfl rfl dX6_splitOff_50 ?_
  refine g_iconst C dX6_splitOff_51 ?_
  refine g_callIv C (m_X1_cell l D cA ad h) hv_X1_cell tw_X6_59 (o := 3) (ci := 1) (As := [vI a3, vI 5]) (st := []) rfl rfl rfl rfl ⟨Nat.le_of_ble_eq_true rfl, Nat.le_of_ble_eq_true rfl⟩ rfl rfl (Nat.le_of_ble_eq_true rfl) dX6_splitOff_52 (fun r12 σ11 h => ?_)
  try dsimp only at h
  refine g_iload_n C 8 3 rfl rfl dX6_splitOff_55 ?_
  refine g_isub C dX6_splitOff_56 ?_
  refine g_iload_n C 7 2 rfl rfl dX6_splitOff_57 ?_
  refine g_iadd C dX6_splitOff_58 ?_
  refine g_name (fun x_13 ex_13 => ?_)
  have h := h x_13 ex_13
  refine g_istore C 9 [(8, vI r10), (7, vI r8), (6, vI r6), (5, vI r4), (4, vI r2), (0, .ref (ad 23)), (1, vI a1), (2, vI a2), (3, vI a3)] (by decide) rfl dX6_splitOff_59 ?_
  refine g_aload_n C 6 0 rfl rfl dX6_splitOff_61 ?_
  refine g_get C iX6 (ci := 6) (o := 23) (v := .ref (ad 3)) rfl rfl 1 (by decide) rfl tw_X6_18 dX6_splitOff_62 ?_
  refine g_iload_n C 9 3 rfl rfl dX6_splitOff_65 ?_
  refine g_callIv C (m_X1_hasFoot l D cA ad h) hv_X1_hasFoot tw_X6_120 (o := 3) (ci := 1) (As := [vI a3]) (st := []) rfl rfl rfl rfl ⟨Nat.le_of_ble_eq_true rfl, Nat.le_of_ble_eq_true rfl⟩ rfl rfl (Nat.le_of_ble_eq_true rfl) dX6_splitOff_66 (fun r15 σ14 h => ?_)
  try dsimp only at h
  refine g_istore C 10 [(9, vI x_13), (8, vI r10), (7, vI r8), (6, vI r6), (5, vI r4), (4, vI r2), (0, .ref (ad 23)), (1, vI a1), (2, vI a2), (3, vI a3)] (by decide) rfl dX6_splitOff_69 ?_
  refine g_aload_n C 7 0 rfl rfl dX6_splitOff_71 ?_
  refine g_get C iX6 (ci := 6) (o := 23) (v := .ref (ad 17)) rfl rfl 2 (by decide) rfl tw_X6_22 dX6_splitOff_72 ?_
  refine g_iload_n C 10 3 rfl rfl dX6_splitOff_75 ?_
  refine g_iload C 5 5 rfl dX6_splitOff_76 ?_
  refine g_iload C 4 6 rfl dX6_splitOff_78 ?_
  refine g_callIv C (m_X0_lastSplit l D cA ad h) hv_X0_lastSplit tw_X6_123 (o := 17) (ci := 0) (As := [vI a3, vI r4, vI r6]) (st := []) rfl rfl rfl rfl ⟨Nat.le_of_ble_eq_true rfl, Nat.le_of_ble_eq_true rfl⟩ rfl rfl (Nat.le_of_ble_eq_true rfl) dX6_splitOff_80 (fun r17 σ16 h => ?_)
  try dsimp only at h
  refine g_istore C 11 [(10, vI r15), (9, vI x_13), (8, vI r10), (7, vI r8), (6, vI r6), (5, vI r4), (4, vI r2), (0, .ref (ad 23)), (1, vI a1), (2, vI a2), (3, vI a3)] (by decide) rfl dX6_splitOff_83 ?_
  refine g_aload_n C 8 0 rfl rfl dX6_splitOff_85 ?_
  refine g_get C iX6 (ci := 6) (o := 23) (v := .ref (ad 17)) rfl rfl 2 (by decide) rfl tw_X6_22 dX6_splitOff_86 ?_
  refine g_iload_n C 11 3 rfl rfl dX6_splitOff_89 ?_
  refine g_iload C 7 4 rfl dX6_splitOff_90 ?_
  refine g_iload C 4 7 rfl dX6_splitOff_92 ?_
  refine g_callIv C (m_X0_firstSplit l D cA ad h) hv_X0_firstSplit tw_X6_126 (o := 17) (ci := 0) (As := [vI a3, vI r2, vI r8]) (st := []) rfl rfl rfl rfl ⟨Nat.le_of_ble_eq_true rfl, Nat.le_of_ble_eq_true rfl⟩ rfl rfl (Nat.le_of_ble_eq_true rfl) dX6_splitOff_94 (fun r19 σ18 h => ?_)
  try dsimp only at h
  refine g_istore C 12 [(11, vI r17), (10, vI r15), (9, vI x_13), (8, vI r10), (7, vI r8), (6, vI r6), (5, vI r4), (4, vI r2), (0, .ref (ad 23)), (1, vI a1), (2, vI a2), (3, vI a3)] (by decide) rfl dX6_splitOff_97 ?_
  obtain ⟨nn, h⟩ := h
  exact g_pick [9, 10, 11, 12, 8, 7, 6, 5, 4, 3, 2, 1, 0] rfl (m_X6_splitOff_L99 C hlocks hr nn _ _ _ _ _ _ _ _ _ _ _ _ _ h)
set_option maxRecDepth 100000 in
set_option maxHeartbeats 4000000 in
theorem m_X6_splitOff (l : Launch) (D : va_G) (cA : Nat → ClassId) (ad : Nat → Nat) {a1 a2 a3 : Int} {Q : Int → St → Prop} {σ : St} (h : wp_X6_splitOff a1 a2 a3 Q σ) : CtI l yX6_splitOff (.code yX6_splitOff cX6_splitOff 17 (some .int)) rm_X6_splitOff D cA shC ad zsC [.ref (ad 23), vI a1, vI a2, vI a3] σ Q :=
  ct_I RX6 (by decide +kernel) rfl (Nat.le_of_ble_eq_true rfl) (fun p e s m args below meth c C hlocks hr => m_X6_splitOff_E C hlocks hr h)
abbrev rm_X6_layParts : Room := { frames := 4, cells := 0, slots := 0, locals := 87 }
set_option maxRecDepth 100000 in
set_option maxHeartbeats 4000000 in
theorem m_X6_layParts_L51 {p : Program} {l : Launch} {e : Env} {s : State} {m : MethodId} {args : Array Value} {below : List Frame} {meth : Method} {c : Code} {D : va_G} {cA : Nat → ClassId} {ad : Nat → Nat} (C : Cx p s m args c cX6_layParts RX6 6 D cA shC ad zsC) (hlocks : meth.locks = false) (hr : meth.sig.returnType = none) {Q : St → Prop} : ∀ (n : Nat) (x1 : Int) (x2 : Int) (x3 : Int) (x4 : Int) (x5 : Int) (σ : St), wp_X6_layParts_L51 Q n x1 x2 x3 x4 x5 σ → G p l e rm_X6_layParts s m args below meth c 0 0 6 D cA shC ad (QV D cA shC ad zsC below args s Q) σ [(0, .ref (ad 23)), (1, vI x1), (2, vI x2), (3, vI x3), (4, vI x4), (5, vI x5)] [] 51 := by
  intro n
  induction n with
  | zero => intro _ _ _ _ _ _ h; exact h.elim
  | succ n ih =>
    intro x1 x2 x3 x4 x5 σ h
    simp only [wp_X6_layParts_L51] at h
    refine g_iload C 5 5 rfl dX6_layParts_51 ?_
    refine g_aload_n C 0 0 rfl rfl dX6_layParts_53 ?_
    refine g_get C iX6 (ci := 6) (o := 23) (v := .ref (ad 3)) rfl rfl 1 (by decide) rfl tw_X6_18 dX6_layParts_54 ?_
    refine g_iload_n C 3 3 rfl rfl dX6_layParts_57 ?_
    refine g_iconst C dX6_layParts_58 ?_
    refine g_callIv C (m_X1_cell l D cA ad h) hv_X1_cell tw_X6_59 (o := 3) (ci := 1) (As := [vI x3, vI 3]) (st := [vI x5]) rfl rfl rfl rfl ⟨Nat.le_of_ble_eq_true rfl, Nat.le_of_ble_eq_true rfl⟩ rfl rfl (Nat.le_of_ble_eq_true rfl) dX6_layParts_59 (fun r2 σ1 h => ?_)
    try dsimp only at h
    refine g_icmp_ge C rfl rfl 86 (by decide) dX6_layParts_62 (fun hc => ?_) (fun hc => ?_)
    · have h := h.1 hc
      exact g_vret C hlocks hr h dX6_layParts_86
    · have h := h.2 hc
      refine g_aload_n C 0 0 rfl rfl dX6_layParts_65 ?_
      refine g_iload_n C 1 1 rfl rfl dX6_layParts_66 ?_
      refine g_iload C 4 4 rfl dX6_layParts_67 ?_
      refine g_iload_n C 3 3 rfl rfl dX6_layParts_69 ?_
      refine g_iload_n C 2 2 rfl rfl dX6_layParts_70 ?_
      refine g_isub C dX6_layParts_71 ?_
      refine g_iload C 4 4 rfl dX6_layParts_72 ?_
      refine g_iadd C dX6_layParts_74 ?_
      refine g_callIv C (m_X6_splitOff l D cA ad h) hv_X6_splitOff tw_X6_117 (o := 23) (ci := 6) (As := [vI x1, vI x4, vI ((x3 - x2) + x4)]) (st := []) rfl rfl rfl rfl ⟨Nat.le_of_ble_eq_true rfl, Nat.le_of_ble_eq_true rfl⟩ rfl rfl (Nat.le_of_ble_eq_true rfl) dX6_layParts_75 (fun r4 σ3 h => ?_)
      try dsimp only at h
      refine g_istore C 4 [(0, .ref (ad 23)), (1, vI x1), (2, vI x2), (3, vI x3), (5, vI x5)] (by decide) rfl dX6_layParts_78 ?_
      refine g_iinc C 5 5 [(4, vI r4), (0, .ref (ad 23)), (1, vI x1), (2, vI x2), (3, vI x3)] rfl (by decide) rfl dX6_layParts_80 (fun x_5 ex_5 => ?_)
      have h := h x_5 ex_5
      refine g_goto C 51 (by decide) dX6_layParts_83 ?_
      exact g_pick [2, 3, 4, 5, 1, 0] rfl (ih _ _ _ _ _ _ h)
set_option maxRecDepth 100000 in
set_option maxHeartbeats 4000000 in
theorem m_X6_layParts_E {p : Program} {l : Launch} {e : Env} {s : State} {m : MethodId} {args : Array Value} {below : List Frame} {meth : Method} {c : Code} {D : va_G} {cA : Nat → ClassId} {ad : Nat → Nat} (C : Cx p s m args c cX6_layParts RX6 6 D cA shC ad zsC) (hlocks : meth.locks = false) (hr : meth.sig.returnType = none) {Q : St → Prop} {a1 a2 a3 : Int} {σ : St} (h : wp_X6_layParts a1 a2 a3 Q σ) : G p l e rm_X6_layParts s m args below meth c 0 0 6 D cA shC ad (QV D cA shC ad zsC below args s Q) σ [(0, .ref (ad 23)), (1, vI a1), (2, vI a2), (3, vI a3)] [] 0 := by
  unfold wp_X6_layParts at h
  refine g_iload_n C 2 2 rfl rfl dX6_layParts_0 ?_
  refine g_iconst C dX6_layParts_1 ?_
  refine g_iadd C dX6_layParts_2 ?_
  refine g_name (fun x_1 ex_1 => ?_)
  have h := h x_1 ex_1
  refine g_istore C 4 [(0, .ref (ad 23)), (1, vI a1), (2, vI a2), (3, vI a3)] (by decide) rfl dX6_layParts_3 ?_
  refine g_aload_n C 1 0 rfl rfl dX6_layParts_5 ?_
  refine g_iload_n C 2 1 rfl rfl dX6_layParts_6 ?_
  refine g_iload C 0 4 rfl dX6_layParts_7 ?_
  refine g_aload_n C 1 0 rfl rfl dX6_layParts_9 ?_
  refine g_iload_n C 2 1 rfl rfl dX6_layParts_10 ?_
  refine g_iload_n C 3 2 rfl rfl dX6_layParts_11 ?_
  refine g_iconst C dX6_layParts_12 ?_
  refine g_callIv C (m_X6_nodeCell l D cA ad h) hv_X6_nodeCell tw_X6_47 (o := 23) (ci := 6) (As := [vI a1, vI a2, vI 3]) (st := [vI x_1, vI a1, .ref (ad 23)]) rfl rfl rfl rfl ⟨Nat.le_of_ble_eq_true rfl, Nat.le_of_ble_eq_true rfl⟩ rfl rfl (Nat.le_of_ble_eq_true rfl) dX6_layParts_13 (fun r3 σ2 h => ?_)
  try dsimp only at h
  refine g_aload_n C 1 0 rfl rfl dX6_layParts_16 ?_
  refine g_iload_n C 2 1 rfl rfl dX6_layParts_17 ?_
  refine g_iload_n C 3 2 rfl rfl dX6_layParts_18 ?_
  refine g_iconst C dX6_layParts_19 ?_
  refine g_callIv C (m_X6_nodeCell l D cA ad h) hv_X6_nodeCell tw_X6_47 (o := 23) (ci := 6) (As := [vI a1, vI a2, vI 4]) (st := [vI r3, vI x_1, vI a1, .ref (ad 23)]) rfl rfl rfl rfl ⟨Nat.le_of_ble_eq_true rfl, Nat.le_of_ble_eq_true rfl⟩ rfl rfl (Nat.le_of_ble_eq_true rfl) dX6_layParts_20 (fun r5 σ4 h => ?_)
  try dsimp only at h
  refine g_aload_n C 1 0 rfl rfl dX6_layParts_23 ?_
  refine g_iload_n C 2 1 rfl rfl dX6_layParts_24 ?_
  refine g_iload_n C 3 2 rfl rfl dX6_layParts_25 ?_
  refine g_iconst C dX6_layParts_26 ?_
  refine g_callIv C (m_X6_nodeCell l D cA ad h) hv_X6_nodeCell tw_X6_47 (o := 23) (ci := 6) (As := [vI a1, vI a2, vI 5]) (st := [vI r5, vI r3, vI x_1, vI a1, .ref (ad 23)]) rfl rfl rfl rfl ⟨Nat.le_of_ble_eq_true rfl, Nat.le_of_ble_eq_true rfl⟩ rfl rfl (Nat.le_of_ble_eq_true rfl) dX6_layParts_27 (fun r7 σ6 h => ?_)
  try dsimp only at h
  refine g_aload_n C 1 0 rfl rfl dX6_layParts_30 ?_
  refine g_iload_n C 2 1 rfl rfl dX6_layParts_31 ?_
  refine g_iload_n C 3 2 rfl rfl dX6_layParts_32 ?_
  refine g_bipush C dX6_layParts_33 (by decide) ?_
  refine g_callIv C (m_X6_nodeCell l D cA ad h) hv_X6_nodeCell tw_X6_47 (o := 23) (ci := 6) (As := [vI a1, vI a2, vI 6]) (st := [vI r7, vI r5, vI r3, vI x_1, vI a1, .ref (ad 23)]) rfl rfl rfl rfl ⟨Nat.le_of_ble_eq_true rfl, Nat.le_of_ble_eq_true rfl⟩ rfl rfl (Nat.le_of_ble_eq_true rfl) dX6_layParts_35 (fun r9 σ8 h => ?_)
  try dsimp only at h
  refine g_aload_n C 1 0 rfl rfl dX6_layParts_38 ?_
  refine g_iload_n C 2 1 rfl rfl dX6_layParts_39 ?_
  refine g_iload_n C 3 2 rfl rfl dX6_layParts_40 ?_
  refine g_iconst C dX6_layParts_41 ?_
  refine g_callIv C (m_X6_nodeCell l D cA ad h) hv_X6_nodeCell tw_X6_47 (o := 23) (ci := 6) (As := [vI a1, vI a2, vI 1]) (st := [vI r9, vI r7, vI r5, vI r3, vI x_1, vI a1, .ref (ad 23)]) rfl rfl rfl rfl ⟨Nat.le_of_ble_eq_true rfl, Nat.le_of_ble_eq_true rfl⟩ rfl rfl (Nat.le_of_ble_eq_true rfl) dX6_layParts_42 (fun r11 σ10 h => ?_)
  try dsimp only at h
  refine g_callVv C (m_X6_lay l D cA ad h) hv_X6_lay tw_X6_91 (o := 23) (ci := 6) (As := [vI a1, vI x_1, vI r3, vI r5, vI r7, vI r9, vI r11]) (st := []) rfl rfl rfl rfl ⟨Nat.le_of_ble_eq_true rfl, Nat.le_of_ble_eq_true rfl⟩ rfl rfl (Nat.le_of_ble_eq_true rfl) dX6_layParts_45 (fun σ12 h => ?_)
  try dsimp only at h
  refine g_iconst C dX6_layParts_48 ?_
  refine g_istore C 5 [(4, vI x_1), (0, .ref (ad 23)), (1, vI a1), (2, vI a2), (3, vI a3)] (by decide) rfl dX6_layParts_49 ?_
  obtain ⟨nn, h⟩ := h
  exact g_pick [2, 3, 4, 5, 1, 0] rfl (m_X6_layParts_L51 C hlocks hr nn _ _ _ _ _ _ h)
set_option maxRecDepth 100000 in
set_option maxHeartbeats 4000000 in
theorem m_X6_layParts (l : Launch) (D : va_G) (cA : Nat → ClassId) (ad : Nat → Nat) {a1 a2 a3 : Int} {Q : St → Prop} {σ : St} (h : wp_X6_layParts a1 a2 a3 Q σ) : CtV l yX6_layParts (.code yX6_layParts cX6_layParts 6 none) rm_X6_layParts D cA shC ad zsC [.ref (ad 23), vI a1, vI a2, vI a3] σ Q :=
  ct_V RX6 (by decide +kernel) rfl (Nat.le_of_ble_eq_true rfl) (fun p e s m args below meth c C hlocks hr => m_X6_layParts_E C hlocks hr h)
abbrev rmd_X6_unfoldUse (d : Nat) : Room := { frames := 5 + d, cells := 0, slots := 0, locals := 117 + d * 26 }
abbrev rm_X6_unfoldUse : Room := rmd_X6_unfoldUse 10
set_option maxRecDepth 100000 in
set_option maxHeartbeats 4000000 in
theorem m_X6_unfoldUse_B168 {p : Program} {l : Launch} {e : Env} {s : State} {m : MethodId} {args : Array Value} {below : List Frame} {meth : Method} {c : Code} {D : va_G} {cA : Nat → ClassId} {ad : Nat → Nat} (C : Cx p s m args c cX6_unfoldUse RX6 7 D cA shC ad zsC) (hlocks : meth.locks = false) (hr : meth.sig.returnType = none) {Q : St → Prop} {REC : Int → (St → Prop) → St → Prop} {dd : Nat} (hREC : ∀ (a1 : Int) (Q : St → Prop) (σ : St), REC a1 Q σ → CtV l yX6_unfoldUse (.code yX6_unfoldUse cX6_unfoldUse 7 none) (rmd_X6_unfoldUse dd) D cA shC ad zsC [.ref (ad 23), vI a1] σ Q) {K41 : Int → Int → Int → St → Prop} (hK41 : ∀ (x1 : Int) (x2 : Int) (x3 : Int) (σ : St), K41 x1 x2 x3 σ → G p l e (rmd_X6_unfoldUse (dd + 1)) s m args below meth c 0 0 7 D cA shC ad (QV D cA shC ad zsC below args s Q) σ [(0, .ref (ad 23)), (1, vI x1), (2, vI x2), (3, vI x3)] [] 41) {x1 x2 x3 : Int} {σ : St} (h : wp_X6_unfoldUse_B168 REC K41 x1 x2 x3 Q σ) : G p l e (rmd_X6_unfoldUse (dd + 1)) s m args below meth c 0 0 7 D cA shC ad (QV D cA shC ad zsC below args s Q) σ [(0, .ref (ad 23)), (1, vI x1), (2, vI x2), (3, vI x3)] [] 168 := by
  unfold wp_X6_unfoldUse_B168 at h
  refine g_iinc C 3 3 [(0, .ref (ad 23)), (1, vI x1), (2, vI x2)] rfl (by decide) rfl dX6_unfoldUse_168 (fun x_1 ex_1 => ?_)
  have h := h x_1 ex_1
  refine g_goto C 41 (by decide) dX6_unfoldUse_171 ?_
  exact g_pick [1, 2, 3, 0] rfl (hK41 _ _ _ _ h)
set_option maxRecDepth 100000 in
set_option maxHeartbeats 4000000 in
theorem m_X6_unfoldUse_B147 {p : Program} {l : Launch} {e : Env} {s : State} {m : MethodId} {args : Array Value} {below : List Frame} {meth : Method} {c : Code} {D : va_G} {cA : Nat → ClassId} {ad : Nat → Nat} (C : Cx p s m args c cX6_unfoldUse RX6 7 D cA shC ad zsC) (hlocks : meth.locks = false) (hr : meth.sig.returnType = none) {Q : St → Prop} {REC : Int → (St → Prop) → St → Prop} {dd : Nat} (hREC : ∀ (a1 : Int) (Q : St → Prop) (σ : St), REC a1 Q σ → CtV l yX6_unfoldUse (.code yX6_unfoldUse cX6_unfoldUse 7 none) (rmd_X6_unfoldUse dd) D cA shC ad zsC [.ref (ad 23), vI a1] σ Q) {K41 : Int → Int → Int → St → Prop} (hK41 : ∀ (x1 : Int) (x2 : Int) (x3 : Int) (σ : St), K41 x1 x2 x3 σ → G p l e (rmd_X6_unfoldUse (dd + 1)) s m args below meth c 0 0 7 D cA shC ad (QV D cA shC ad zsC below args s Q) σ [(0, .ref (ad 23)), (1, vI x1), (2, vI x2), (3, vI x3)] [] 41) {x1 x2 x3 x6 : Int} {σ : St} (h : wp_X6_unfoldUse_B147 REC K41 x1 x2 x3 x6 Q σ) : G p l e (rmd_X6_unfoldUse (dd + 1)) s m args below meth c 0 0 7 D cA shC ad (QV D cA shC ad zsC below args s Q) σ [(0, .ref (ad 23)), (1, vI x1), (2, vI x2), (3, vI x3), (6, vI x6)] [] 147 := by
  unfold wp_X6_unfoldUse_B147 at h
  refine g_aload_n C 0 0 rfl rfl dX6_unfoldUse_147 ?_
  refine g_iload_n C 1 1 rfl rfl dX6_unfoldUse_148 ?_
  refine g_iload_n C 3 3 rfl rfl dX6_unfoldUse_149 ?_
  refine g_iconst C dX6_unfoldUse_150 ?_
  refine g_iload C 4 6 rfl dX6_unfoldUse_151 ?_
  refine g_callVv C (m_X6_setNodeCell l D cA ad h) hv_X6_setNodeCell tw_X6_69 (o := 23) (ci := 6) (As := [vI x1, vI x3, vI 2, vI x6]) (st := []) rfl rfl rfl rfl ⟨by dsimp only [rmd_X6_unfoldUse, rm_X6_setNodeCell]; omega, by dsimp only [rmd_X6_unfoldUse, rm_X6_setNodeCell]; omega⟩ rfl rfl (Nat.le_of_ble_eq_true rfl) dX6_unfoldUse_153 (fun σ1 h => ?_)
  try dsimp only at h
  refine g_iload C 4 6 rfl dX6_unfoldUse_156 ?_
  refine g_iconst C dX6_unfoldUse_158 ?_
  refine g_icmp_eq C (y' := (-1)) rfl (by decide) 168 (by decide) dX6_unfoldUse_159 (fun hc => ?_) (fun hc => ?_)
  · have h := h.1 hc
    exact g_pick [0, 1, 2, 3] rfl (m_X6_unfoldUse_B168 C hlocks hr hREC hK41 h)
  · have h := h.2 hc
    refine g_aload_n C 0 0 rfl rfl dX6_unfoldUse_162 ?_
    refine g_iload C 4 6 rfl dX6_unfoldUse_163 ?_
    refine g_callVv C (hREC _ _ _ h) hv_X6_unfoldUse tw_X6_39 (o := 23) (ci := 6) (As := [vI x6]) (st := []) rfl rfl rfl rfl ⟨by dsimp only [rmd_X6_unfoldUse, rmd_X6_unfoldUse]; omega, by dsimp only [rmd_X6_unfoldUse, rmd_X6_unfoldUse]; omega⟩ rfl rfl (Nat.le_of_ble_eq_true rfl) dX6_unfoldUse_165 (fun σ2 h => ?_)
    try dsimp only at h
    exact g_pick [0, 1, 2, 3] rfl (m_X6_unfoldUse_B168 C hlocks hr hREC hK41 h)
set_option maxRecDepth 100000 in
set_option maxHeartbeats 4000000 in
theorem m_X6_unfoldUse_L41 {p : Program} {l : Launch} {e : Env} {s : State} {m : MethodId} {args : Array Value} {below : List Frame} {meth : Method} {c : Code} {D : va_G} {cA : Nat → ClassId} {ad : Nat → Nat} (C : Cx p s m args c cX6_unfoldUse RX6 7 D cA shC ad zsC) (hlocks : meth.locks = false) (hr : meth.sig.returnType = none) {Q : St → Prop} {REC : Int → (St → Prop) → St → Prop} {dd : Nat} (hREC : ∀ (a1 : Int) (Q : St → Prop) (σ : St), REC a1 Q σ → CtV l yX6_unfoldUse (.code yX6_unfoldUse cX6_unfoldUse 7 none) (rmd_X6_unfoldUse dd) D cA shC ad zsC [.ref (ad 23), vI a1] σ Q) : ∀ (n : Nat) (x1 : Int) (x2 : Int) (x3 : Int) (σ : St), wp_X6_unfoldUse_L41 REC Q n x1 x2 x3 σ → G p l e (rmd_X6_unfoldUse (dd + 1)) s m args below meth c 0 0 7 D cA shC ad (QV D cA shC ad zsC below args s Q) σ [(0, .ref (ad 23)), (1, vI x1), (2, vI x2), (3, vI x3)] [] 41 := by
  intro n
  induction n with
  | zero => intro _ _ _ _ h; exact h.elim
  | succ n ih =>
    intro x1 x2 x3 σ h
    simp only [wp_X6_unfoldUse_L41] at h
    refine g_iload_n C 3 3 rfl rfl dX6_unfoldUse_41 ?_
    refine g_aload_n C 0 0 rfl rfl dX6_unfoldUse_42 ?_
    refine g_get C iX6 (ci := 6) (o := 23) (v := .ref (ad 3)) rfl rfl 1 (by decide) rfl tw_X6_18 dX6_unfoldUse_43 ?_
    refine g_get C iX1 (ci := 1) (o := 3) (v := .ref (ad 10)) rfl rfl 2 (by decide) rfl tw_X6_51 dX6_unfoldUse_46 ?_
    refine g_iload_n C 2 2 rfl rfl dX6_unfoldUse_49 ?_
    obtain ⟨hi, h⟩ := h
    refine g_iald C (o := 10) (N := 17) rfl rfl hi rfl dX6_unfoldUse_50 ?_
    refine g_icmp_ge C rfl rfl 174 (by decide) dX6_unfoldUse_51 (fun hc => ?_) (fun hc => ?_)
    · have h := h.1 hc
      exact g_vret C hlocks hr h dX6_unfoldUse_174
    · have h := h.2 hc
      refine g_iload_n C 2 2 rfl rfl dX6_unfoldUse_54 ?_
      refine g_iload_n C 3 3 rfl rfl dX6_unfoldUse_55 ?_
      refine g_callIs C (m_X1_row l D cA ad h) hv_X1_row tw_X6_56 (As := [vI x2, vI x3]) (st := []) rfl rfl ⟨by dsimp only [rmd_X6_unfoldUse, rm_X1_row]; omega, by dsimp only [rmd_X6_unfoldUse, rm_X1_row]; omega⟩ rfl rfl (Nat.le_of_ble_eq_true rfl) dX6_unfoldUse_56 (fun r2 σ1 h => ?_)
      try dsimp only at h
      refine g_istore C 4 [(0, .ref (ad 23)), (1, vI x1), (2, vI x2), (3, vI x3)] (by decide) rfl dX6_unfoldUse_59 ?_
      refine g_aload_n C 1 0 rfl rfl dX6_unfoldUse_61 ?_
      refine g_get C iX6 (ci := 6) (o := 23) (v := .ref (ad 3)) rfl rfl 1 (by decide) rfl tw_X6_18 dX6_unfoldUse_62 ?_
      refine g_iload C 0 4 rfl dX6_unfoldUse_65 ?_
      refine g_iconst C dX6_unfoldUse_67 ?_
      refine g_callIv C (m_X1_cell l D cA ad h) hv_X1_cell tw_X6_59 (o := 3) (ci := 1) (As := [vI r2, vI 0]) (st := []) rfl rfl rfl rfl ⟨by dsimp only [rmd_X6_unfoldUse, rm_X1_cell]; omega, by dsimp only [rmd_X6_unfoldUse, rm_X1_cell]; omega⟩ rfl rfl (Nat.le_of_ble_eq_true rfl) dX6_unfoldUse_68 (fun r4 σ3 h => ?_)
      try dsimp only at h
      refine g_istore C 5 [(4, vI r2), (0, .ref (ad 23)), (1, vI x1), (2, vI x2), (3, vI x3)] (by decide) rfl dX6_unfoldUse_71 ?_
      refine g_iconst C dX6_unfoldUse_73 ?_
      refine g_istore C 6 [(5, vI r4), (4, vI r2), (0, .ref (ad 23)), (1, vI x1), (2, vI x2), (3, vI x3)] (by decide) rfl dX6_unfoldUse_74 ?_
      refine g_iload C 1 5 rfl dX6_unfoldUse_76 ?_
      refine g_iconst C dX6_unfoldUse_78 ?_
      refine g_icmp_ne C (y' := 1) rfl (by decide) 124 (by decide) dX6_unfoldUse_79 (fun hc => ?_) (fun hc => ?_)
      · have h := h.1 hc
        refine g_iload C 1 5 rfl dX6_unfoldUse_124 ?_
        refine g_if_ne C rfl 147 (by decide) dX6_unfoldUse_126 (fun hc => ?_) (fun hc => ?_)
        · have h := h.1 hc
          exact g_pick [3, 4, 5, 6, 0] rfl (m_X6_unfoldUse_B147 C hlocks hr hREC (fun _ _ _ _ h => ih _ _ _ _ h) h)
        · have h := h.2 hc
          refine g_aload_n C 3 0 rfl rfl dX6_unfoldUse_129 ?_
          refine g_iload_n C 4 1 rfl rfl dX6_unfoldUse_130 ?_
          refine g_iload_n C 6 3 rfl rfl dX6_unfoldUse_131 ?_
          refine g_iload C 2 4 rfl dX6_unfoldUse_132 ?_
          refine g_callIv C (m_X6_startAuxiliary l D cA ad h) hv_X6_startAuxiliary tw_X6_62 (o := 23) (ci := 6) (As := [vI x1, vI x3, vI r2]) (st := []) rfl rfl rfl rfl ⟨by dsimp only [rmd_X6_unfoldUse, rm_X6_startAuxiliary]; omega, by dsimp only [rmd_X6_unfoldUse, rm_X6_startAuxiliary]; omega⟩ rfl rfl (Nat.le_of_ble_eq_true rfl) dX6_unfoldUse_134 (fun r6 σ5 h => ?_)
          try dsimp only at h
          refine g_istore C 6 [(5, vI r4), (4, vI r2), (0, .ref (ad 23)), (1, vI x1), (2, vI x2), (3, vI x3)] (by decide) rfl dX6_unfoldUse_137 ?_
          refine g_aload_n C 3 0 rfl rfl dX6_unfoldUse_139 ?_
          refine g_iload_n C 4 1 rfl rfl dX6_unfoldUse_140 ?_
          refine g_iload_n C 6 3 rfl rfl dX6_unfoldUse_141 ?_
          refine g_iload C 2 4 rfl dX6_unfoldUse_142 ?_
          refine g_callVv C (m_X6_layParts l D cA ad h) hv_X6_layParts tw_X6_65 (o := 23) (ci := 6) (As := [vI x1, vI x3, vI r2]) (st := []) rfl rfl rfl rfl ⟨by dsimp only [rmd_X6_unfoldUse, rm_X6_layParts]; omega, by dsimp only [rmd_X6_unfoldUse, rm_X6_layParts]; omega⟩ rfl rfl (Nat.le_of_ble_eq_true rfl) dX6_unfoldUse_144 (fun σ7 h => ?_)
          try dsimp only at h
          exact g_pick [3, 4, 5, 6, 0] rfl (m_X6_unfoldUse_B147 C hlocks hr hREC (fun _ _ _ _ h => ih _ _ _ _ h) h)
      · have h := h.2 hc
        refine g_aload_n C 3 0 rfl rfl dX6_unfoldUse_82 ?_
        refine g_aload_n C 3 0 rfl rfl dX6_unfoldUse_83 ?_
        refine g_get C iX6 (ci := 6) (o := 23) (v := .ref (ad 3)) rfl rfl 1 (by decide) rfl tw_X6_18 dX6_unfoldUse_84 ?_
        refine g_iload C 2 4 rfl dX6_unfoldUse_87 ?_
        refine g_iconst C dX6_unfoldUse_89 ?_
        refine g_callIv C (m_X1_cell l D cA ad h) hv_X1_cell tw_X6_59 (o := 3) (ci := 1) (As := [vI r2, vI 1]) (st := [.ref (ad 23)]) rfl rfl rfl rfl ⟨by dsimp only [rmd_X6_unfoldUse, rm_X1_cell]; omega, by dsimp only [rmd_X6_unfoldUse, rm_X1_cell]; omega⟩ rfl rfl (Nat.le_of_ble_eq_true rfl) dX6_unfoldUse_90 (fun r9 σ8 h => ?_)
        try dsimp only at h
        refine g_iload_n C 4 1 rfl rfl dX6_unfoldUse_93 ?_
        refine g_iload_n C 6 3 rfl rfl dX6_unfoldUse_94 ?_
        refine g_aload_n C 3 0 rfl rfl dX6_unfoldUse_95 ?_
        refine g_iload_n C 4 1 rfl rfl dX6_unfoldUse_96 ?_
        refine g_iload_n C 6 3 rfl rfl dX6_unfoldUse_97 ?_
        refine g_iconst C dX6_unfoldUse_98 ?_
        refine g_callIv C (m_X6_nodeCell l D cA ad h) hv_X6_nodeCell tw_X6_47 (o := 23) (ci := 6) (As := [vI x1, vI x3, vI 3]) (st := [vI x3, vI x1, vI r9, .ref (ad 23)]) rfl rfl rfl rfl ⟨by dsimp only [rmd_X6_unfoldUse, rm_X6_nodeCell]; omega, by dsimp only [rmd_X6_unfoldUse, rm_X6_nodeCell]; omega⟩ rfl rfl (Nat.le_of_ble_eq_true rfl) dX6_unfoldUse_99 (fun r11 σ10 h => ?_)
        try dsimp only at h
        refine g_aload_n C 3 0 rfl rfl dX6_unfoldUse_102 ?_
        refine g_iload_n C 4 1 rfl rfl dX6_unfoldUse_103 ?_
        refine g_iload_n C 6 3 rfl rfl dX6_unfoldUse_104 ?_
        refine g_iconst C dX6_unfoldUse_105 ?_
        refine g_callIv C (m_X6_nodeCell l D cA ad h) hv_X6_nodeCell tw_X6_47 (o := 23) (ci := 6) (As := [vI x1, vI x3, vI 4]) (st := [vI r11, vI x3, vI x1, vI r9, .ref (ad 23)]) rfl rfl rfl rfl ⟨by dsimp only [rmd_X6_unfoldUse, rm_X6_nodeCell]; omega, by dsimp only [rmd_X6_unfoldUse, rm_X6_nodeCell]; omega⟩ rfl rfl (Nat.le_of_ble_eq_true rfl) dX6_unfoldUse_106 (fun r13 σ12 h => ?_)
        try dsimp only at h
        refine g_aload_n C 3 0 rfl rfl dX6_unfoldUse_109 ?_
        refine g_iload_n C 4 1 rfl rfl dX6_unfoldUse_110 ?_
        refine g_iload_n C 6 3 rfl rfl dX6_unfoldUse_111 ?_
        refine g_iconst C dX6_unfoldUse_112 ?_
        refine g_callIv C (m_X6_nodeCell l D cA ad h) hv_X6_nodeCell tw_X6_47 (o := 23) (ci := 6) (As := [vI x1, vI x3, vI 1]) (st := [vI r13, vI r11, vI x3, vI x1, vI r9, .ref (ad 23)]) rfl rfl rfl rfl ⟨by dsimp only [rmd_X6_unfoldUse, rm_X6_nodeCell]; omega, by dsimp only [rmd_X6_unfoldUse, rm_X6_nodeCell]; omega⟩ rfl rfl (Nat.le_of_ble_eq_true rfl) dX6_unfoldUse_113 (fun r15 σ14 h => ?_)
        try dsimp only at h
        refine g_callIv C (m_X6_startInitial l D cA ad h) hv_X6_startInitial tw_X6_35 (o := 23) (ci := 6) (As := [vI r9, vI x1, vI x3, vI r11, vI r13, vI r15]) (st := []) rfl rfl rfl rfl ⟨by dsimp only [rmd_X6_unfoldUse, rm_X6_startInitial]; omega, by dsimp only [rmd_X6_unfoldUse, rm_X6_startInitial]; omega⟩ rfl rfl (Nat.le_of_ble_eq_true rfl) dX6_unfoldUse_116 (fun r17 σ16 h => ?_)
        try dsimp only at h
        refine g_istore C 6 [(5, vI r4), (4, vI r2), (0, .ref (ad 23)), (1, vI x1), (2, vI x2), (3, vI x3)] (by decide) rfl dX6_unfoldUse_119 ?_
        refine g_goto C 147 (by decide) dX6_unfoldUse_121 ?_
        exact g_pick [3, 4, 5, 6, 0] rfl (m_X6_unfoldUse_B147 C hlocks hr hREC (fun _ _ _ _ h => ih _ _ _ _ h) h)
set_option maxRecDepth 100000 in
set_option maxHeartbeats 4000000 in
theorem m_X6_unfoldUse_L9 {p : Program} {l : Launch} {e : Env} {s : State} {m : MethodId} {args : Array Value} {below : List Frame} {meth : Method} {c : Code} {D : va_G} {cA : Nat → ClassId} {ad : Nat → Nat} (C : Cx p s m args c cX6_unfoldUse RX6 7 D cA shC ad zsC) (hlocks : meth.locks = false) (hr : meth.sig.returnType = none) {Q : St → Prop} {REC : Int → (St → Prop) → St → Prop} {dd : Nat} (hREC : ∀ (a1 : Int) (Q : St → Prop) (σ : St), REC a1 Q σ → CtV l yX6_unfoldUse (.code yX6_unfoldUse cX6_unfoldUse 7 none) (rmd_X6_unfoldUse dd) D cA shC ad zsC [.ref (ad 23), vI a1] σ Q) : ∀ (n : Nat) (x1 : Int) (x2 : Int) (x3 : Int) (σ : St), wp_X6_unfoldUse_L9 REC Q n x1 x2 x3 σ → G p l e (rmd_X6_unfoldUse (dd + 1)) s m args below meth c 0 0 7 D cA shC ad (QV D cA shC ad zsC below args s Q) σ [(0, .ref (ad 23)), (1, vI x1), (2, vI x2), (3, vI x3)] [] 9 := by
  intro n
  induction n with
  | zero => intro _ _ _ _ h; exact h.elim
  | succ n ih =>
    intro x1 x2 x3 σ h
    simp only [wp_X6_unfoldUse_L9] at h
    refine g_iload_n C 3 3 rfl rfl dX6_unfoldUse_9 ?_
    refine g_bipush C dX6_unfoldUse_10 (by decide) ?_
    refine g_icmp_gt C (y' := 6) rfl (by decide) 39 (by decide) dX6_unfoldUse_12 (fun hc => ?_) (fun hc => ?_)
    · have h := h.1 hc
      refine g_iconst C dX6_unfoldUse_39 ?_
      refine g_istore_n C 3 [(0, .ref (ad 23)), (1, vI x1), (2, vI x2)] rfl (by decide) rfl dX6_unfoldUse_40 ?_
      obtain ⟨nn, h⟩ := h
      exact g_pick [1, 2, 3, 0] rfl (m_X6_unfoldUse_L41 C hlocks hr hREC nn _ _ _ _ h)
    · have h := h.2 hc
      refine g_aload_n C 0 0 rfl rfl dX6_unfoldUse_15 ?_
      refine g_get C iX6 (ci := 6) (o := 23) (v := .ref (ad 24)) rfl rfl 3 (by decide) rfl tw_X6_11 dX6_unfoldUse_16 ?_
      refine g_iload_n C 1 1 rfl rfl dX6_unfoldUse_19 ?_
      refine g_bipush C dX6_unfoldUse_20 (by decide) ?_
      refine g_imul C dX6_unfoldUse_22 ?_
      refine g_iload_n C 3 3 rfl rfl dX6_unfoldUse_23 ?_
      refine g_iadd C dX6_unfoldUse_24 ?_
      refine g_aload_n C 0 0 rfl rfl dX6_unfoldUse_25 ?_
      refine g_iload_n C 1 1 rfl rfl dX6_unfoldUse_26 ?_
      refine g_iconst C dX6_unfoldUse_27 ?_
      refine g_iload_n C 3 3 rfl rfl dX6_unfoldUse_28 ?_
      refine g_callIv C (m_X6_nodeCell l D cA ad h) hv_X6_nodeCell tw_X6_47 (o := 23) (ci := 6) (As := [vI x1, vI 0, vI x3]) (st := [vI ((x1 * 7) + x3), .ref (ad 24)]) rfl rfl rfl rfl ⟨by dsimp only [rmd_X6_unfoldUse, rm_X6_nodeCell]; omega, by dsimp only [rmd_X6_unfoldUse, rm_X6_nodeCell]; omega⟩ rfl rfl (Nat.le_of_ble_eq_true rfl) dX6_unfoldUse_29 (fun r2 σ1 h => ?_)
      try dsimp only at h
      obtain ⟨hi, h⟩ := h
      refine g_iast C (o := 24) (N := 56) rfl rfl hi rfl dX6_unfoldUse_32 (fun σ3 eσ3 => ?_)
      have h := h σ3 eσ3
      refine g_iinc C 3 3 [(0, .ref (ad 23)), (1, vI x1), (2, vI x2)] rfl (by decide) rfl dX6_unfoldUse_33 (fun x_4 ex_4 => ?_)
      have h := h x_4 ex_4
      refine g_goto C 9 (by decide) dX6_unfoldUse_36 ?_
      exact g_pick [1, 2, 3, 0] rfl (ih _ _ _ _ h)
set_option maxRecDepth 100000 in
set_option maxHeartbeats 4000000 in
theorem m_X6_unfoldUse_E {p : Program} {l : Launch} {e : Env} {s : State} {m : MethodId} {args : Array Value} {below : List Frame} {meth : Method} {c : Code} {D : va_G} {cA : Nat → ClassId} {ad : Nat → Nat} (C : Cx p s m args c cX6_unfoldUse RX6 7 D cA shC ad zsC) (hlocks : meth.locks = false) (hr : meth.sig.returnType = none) {Q : St → Prop} {REC : Int → (St → Prop) → St → Prop} {dd : Nat} (hREC : ∀ (a1 : Int) (Q : St → Prop) (σ : St), REC a1 Q σ → CtV l yX6_unfoldUse (.code yX6_unfoldUse cX6_unfoldUse 7 none) (rmd_X6_unfoldUse dd) D cA shC ad zsC [.ref (ad 23), vI a1] σ Q) {a1 : Int} {σ : St} (h : wp_X6_unfoldUse_R REC a1 Q σ) : G p l e (rmd_X6_unfoldUse (dd + 1)) s m args below meth c 0 0 7 D cA shC ad (QV D cA shC ad zsC below args s Q) σ [(0, .ref (ad 23)), (1, vI a1)] [] 0 := by
  unfold wp_X6_unfoldUse_R at h
  refine g_aload_n C 0 0 rfl rfl dX6_unfoldUse_0 ?_
  refine g_iload_n C 1 1 rfl rfl dX6_unfoldUse_1 ?_
  refine g_iconst C dX6_unfoldUse_2 ?_
  refine g_callIv C (m_X6_useCell l D cA ad h) hv_X6_useCell tw_X6_43 (o := 23) (ci := 6) (As := [vI a1, vI 0]) (st := []) rfl rfl rfl rfl ⟨by dsimp only [rmd_X6_unfoldUse, rm_X6_useCell]; omega, by dsimp only [rmd_X6_unfoldUse, rm_X6_useCell]; omega⟩ rfl rfl (Nat.le_of_ble_eq_true rfl) dX6_unfoldUse_3 (fun r2 σ1 h => ?_)
  try dsimp only at h
  refine g_istore_n C 2 [(0, .ref (ad 23)), (1, vI a1)] rfl (by decide) rfl dX6_unfoldUse_6 ?_
  refine g_iconst C dX6_unfoldUse_7 ?_
  refine g_istore_n C 3 [(2, vI r2), (0, .ref (ad 23)), (1, vI a1)] rfl (by decide) rfl dX6_unfoldUse_8 ?_
  obtain ⟨nn, h⟩ := h
  exact g_pick [2, 3, 1, 0] rfl (m_X6_unfoldUse_L9 C hlocks hr hREC nn _ _ _ _ h)
set_option maxRecDepth 100000 in
set_option maxHeartbeats 4000000 in
theorem m_X6_unfoldUse_D (l : Launch) (D : va_G) (cA : Nat → ClassId) (ad : Nat → Nat) : ∀ (d : Nat) (a1 : Int) (Q : St → Prop) (σ : St), wp_X6_unfoldUse_D d a1 Q σ → CtV l yX6_unfoldUse (.code yX6_unfoldUse cX6_unfoldUse 7 none) (rmd_X6_unfoldUse d) D cA shC ad zsC [.ref (ad 23), vI a1] σ Q := by
  intro d
  induction d with
  | zero => intro _ _ _ h; exact h.elim
  | succ d ih =>
    intro a1 Q σ h
    exact ct_V RX6 (by decide +kernel) rfl (Nat.le_of_ble_eq_true rfl) (fun p e s m args below meth c C hlocks hr => m_X6_unfoldUse_E C hlocks hr ih h)
set_option maxRecDepth 100000 in
set_option maxHeartbeats 4000000 in
theorem m_X6_unfoldUse (l : Launch) (D : va_G) (cA : Nat → ClassId) (ad : Nat → Nat) {a1 : Int} {Q : St → Prop} {σ : St} (h : wp_X6_unfoldUse a1 Q σ) : CtV l yX6_unfoldUse (.code yX6_unfoldUse cX6_unfoldUse 7 none) rm_X6_unfoldUse D cA shC ad zsC [.ref (ad 23), vI a1] σ Q := m_X6_unfoldUse_D l D cA ad 10 a1 Q σ h
abbrev rm_X6_unfold : Room := { frames := 16, cells := 0, slots := 0, locals := 403 }
set_option maxRecDepth 100000 in
set_option maxHeartbeats 4000000 in
theorem m_X6_unfold_E {p : Program} {l : Launch} {e : Env} {s : State} {m : MethodId} {args : Array Value} {below : List Frame} {meth : Method} {c : Code} {D : va_G} {cA : Nat → ClassId} {ad : Nat → Nat} (C : Cx p s m args c cX6_unfold RX6 4 D cA shC ad zsC) (hlocks : meth.locks = false) (hr : meth.sig.returnType = none) {Q : St → Prop} {a1 a2 : Int} {σ : St} (h : wp_X6_unfold a1 a2 Q σ) : G p l e rm_X6_unfold s m args below meth c 0 0 4 D cA shC ad (QV D cA shC ad zsC below args s Q) σ [(0, .ref (ad 23)), (1, vI a1), (2, vI a2)] [] 0 := by
  unfold wp_X6_unfold at h
  refine g_aload_n C 0 0 rfl rfl dX6_unfold_0 ?_
  refine g_iconst C dX6_unfold_1 ?_
  refine g_put C iX6 (ci := 6) (o := 23) (z := 0) (ty := .int) rfl tyX6_ok nmX6 rfl 0 (by decide) rfl rfl tw_X6_26 rfl (by decide +kernel) rfl rfl dX6_unfold_2 (fun σ1 eσ1 => ?_)
  have h := h σ1 eσ1
  refine g_aload_n C 0 0 rfl rfl dX6_unfold_5 ?_
  refine g_iload_n C 1 1 rfl rfl dX6_unfold_6 ?_
  refine g_iconst C dX6_unfold_7 ?_
  refine g_iconst C dX6_unfold_8 ?_
  refine g_iconst C dX6_unfold_9 ?_
  refine g_aload_n C 0 0 rfl rfl dX6_unfold_10 ?_
  refine g_get C iX6 (ci := 6) (o := 23) (v := .ref (ad 17)) rfl rfl 2 (by decide) rfl tw_X6_22 dX6_unfold_11 ?_
  refine g_get C iX0 (ci := 0) (o := 17) (v := vI (σ1 17 0)) rfl rfl 0 (by decide) rfl tw_X6_30 dX6_unfold_14 ?_
  refine g_iload_n C 2 2 rfl rfl dX6_unfold_17 ?_
  refine g_callIv C (m_X6_startInitial l D cA ad h) hv_X6_startInitial tw_X6_35 (o := 23) (ci := 6) (As := [vI a1, vI (-1), vI (-1), vI 0, vI (σ1 17 0), vI a2]) (st := []) rfl rfl rfl rfl ⟨Nat.le_of_ble_eq_true rfl, Nat.le_of_ble_eq_true rfl⟩ rfl rfl (Nat.le_of_ble_eq_true rfl) dX6_unfold_18 (fun r3 σ2 h => ?_)
  try dsimp only at h
  refine g_istore_n C 3 [(0, .ref (ad 23)), (1, vI a1), (2, vI a2)] rfl (by decide) rfl dX6_unfold_21 ?_
  refine g_iload_n C 0 3 rfl rfl dX6_unfold_22 ?_
  refine g_iconst C dX6_unfold_23 ?_
  refine g_icmp_eq C (y' := (-1)) rfl (by decide) 32 (by decide) dX6_unfold_24 (fun hc => ?_) (fun hc => ?_)
  · have h := h.1 hc
    exact g_vret C hlocks hr h dX6_unfold_32
  · have h := h.2 hc
    refine g_aload_n C 1 0 rfl rfl dX6_unfold_27 ?_
    refine g_iload_n C 0 3 rfl rfl dX6_unfold_28 ?_
    refine g_callVv C (m_X6_unfoldUse l D cA ad h) hv_X6_unfoldUse tw_X6_39 (o := 23) (ci := 6) (As := [vI r3]) (st := []) rfl rfl rfl rfl ⟨Nat.le_of_ble_eq_true rfl, Nat.le_of_ble_eq_true rfl⟩ rfl rfl (Nat.le_of_ble_eq_true rfl) dX6_unfold_29 (fun σ4 h => ?_)
    try dsimp only at h
    exact g_vret C hlocks hr h dX6_unfold_32
set_option maxRecDepth 100000 in
set_option maxHeartbeats 4000000 in
theorem m_X6_unfold (l : Launch) (D : va_G) (cA : Nat → ClassId) (ad : Nat → Nat) {a1 a2 : Int} {Q : St → Prop} {σ : St} (h : wp_X6_unfold a1 a2 Q σ) : CtV l yX6_unfold (.code yX6_unfold cX6_unfold 4 none) rm_X6_unfold D cA shC ad zsC [.ref (ad 23), vI a1, vI a2] σ Q :=
  ct_V RX6 (by decide +kernel) rfl (Nat.le_of_ble_eq_true rfl) (fun p e s m args below meth c C hlocks hr => m_X6_unfold_E C hlocks hr h)
abbrev rm_X7_push : Room := { frames := 1, cells := 0, slots := 0, locals := 0 }
set_option maxRecDepth 100000 in
set_option maxHeartbeats 4000000 in
theorem m_X7_push_E {p : Program} {l : Launch} {e : Env} {s : State} {m : MethodId} {args : Array Value} {below : List Frame} {meth : Method} {c : Code} {D : va_G} {cA : Nat → ClassId} {ad : Nat → Nat} (C : Cx p s m args c cX7_push RX7 4 D cA shC ad zsC) (hlocks : meth.locks = false) (hr : meth.sig.returnType = none) {Q : St → Prop} {a1 a2 a3 : Int} {σ : St} (h : wp_X7_push a1 a2 a3 Q σ) : G p l e rm_X7_push s m args below meth c 0 0 4 D cA shC ad (QV D cA shC ad zsC below args s Q) σ [(0, .ref (ad 26)), (1, vI a1), (2, vI a2), (3, vI a3)] [] 0 := by
  unfold wp_X7_push at h
  refine g_aload_n C 0 0 rfl rfl dX7_push_0 ?_
  refine g_get C iX7 (ci := 7) (o := 26) (v := vI (σ 26 5)) rfl rfl 5 (by decide) rfl tw_X7_30 dX7_push_1 ?_
  refine g_bipush C dX7_push_4 (by decide) ?_
  refine g_icmp_ge C (y' := 96) rfl (by decide) 59 (by decide) dX7_push_6 (fun hc => ?_) (fun hc => ?_)
  · have h := h.1 hc
    exact g_vret C hlocks hr h dX7_push_59
  · have h := h.2 hc
    refine g_aload_n C 0 0 rfl rfl dX7_push_9 ?_
    refine g_get C iX7 (ci := 7) (o := 26) (v := .ref (ad 28)) rfl rfl 4 (by decide) rfl tw_X7_15 dX7_push_10 ?_
    refine g_aload_n C 0 0 rfl rfl dX7_push_13 ?_
    refine g_get C iX7 (ci := 7) (o := 26) (v := vI (σ 26 5)) rfl rfl 5 (by decide) rfl tw_X7_30 dX7_push_14 ?_
    refine g_iconst C dX7_push_17 ?_
    refine g_imul C dX7_push_18 ?_
    refine g_iload_n C 1 1 rfl rfl dX7_push_19 ?_
    obtain ⟨hi, h⟩ := h
    refine g_iast C (o := 28) (N := 288) rfl rfl hi rfl dX7_push_20 (fun σ1 eσ1 => ?_)
    have h := h σ1 eσ1
    refine g_aload_n C 0 0 rfl rfl dX7_push_21 ?_
    refine g_get C iX7 (ci := 7) (o := 26) (v := .ref (ad 28)) rfl rfl 4 (by decide) rfl tw_X7_15 dX7_push_22 ?_
    refine g_aload_n C 0 0 rfl rfl dX7_push_25 ?_
    refine g_get C iX7 (ci := 7) (o := 26) (v := vI (σ1 26 5)) rfl rfl 5 (by decide) rfl tw_X7_30 dX7_push_26 ?_
    refine g_iconst C dX7_push_29 ?_
    refine g_imul C dX7_push_30 ?_
    refine g_iconst C dX7_push_31 ?_
    refine g_iadd C dX7_push_32 ?_
    refine g_iload_n C 2 2 rfl rfl dX7_push_33 ?_
    obtain ⟨hi, h⟩ := h
    refine g_iast C (o := 28) (N := 288) rfl rfl hi rfl dX7_push_34 (fun σ2 eσ2 => ?_)
    have h := h σ2 eσ2
    refine g_aload_n C 0 0 rfl rfl dX7_push_35 ?_
    refine g_get C iX7 (ci := 7) (o := 26) (v := .ref (ad 28)) rfl rfl 4 (by decide) rfl tw_X7_15 dX7_push_36 ?_
    refine g_aload_n C 0 0 rfl rfl dX7_push_39 ?_
    refine g_get C iX7 (ci := 7) (o := 26) (v := vI (σ2 26 5)) rfl rfl 5 (by decide) rfl tw_X7_30 dX7_push_40 ?_
    refine g_iconst C dX7_push_43 ?_
    refine g_imul C dX7_push_44 ?_
    refine g_iconst C dX7_push_45 ?_
    refine g_iadd C dX7_push_46 ?_
    refine g_iload_n C 3 3 rfl rfl dX7_push_47 ?_
    obtain ⟨hi, h⟩ := h
    refine g_iast C (o := 28) (N := 288) rfl rfl hi rfl dX7_push_48 (fun σ3 eσ3 => ?_)
    have h := h σ3 eσ3
    refine g_aload_n C 0 0 rfl rfl dX7_push_49 ?_
    refine g_dup C rfl dX7_push_50 ?_
    refine g_get C iX7 (ci := 7) (o := 26) (v := vI (σ3 26 5)) rfl rfl 5 (by decide) rfl tw_X7_30 dX7_push_51 ?_
    refine g_iconst C dX7_push_54 ?_
    refine g_iadd C dX7_push_55 ?_
    refine g_put C iX7 (ci := 7) (o := 26) (z := ((σ3 26 5) + 1)) (ty := .int) rfl tyX7_ok nmX7 rfl 5 (by decide) rfl rfl tw_X7_30 rfl (by decide +kernel) rfl rfl dX7_push_56 (fun σ4 eσ4 => ?_)
    have h := h σ4 eσ4
    exact g_vret C hlocks hr h dX7_push_59
set_option maxRecDepth 100000 in
set_option maxHeartbeats 4000000 in
theorem m_X7_push (l : Launch) (D : va_G) (cA : Nat → ClassId) (ad : Nat → Nat) {a1 a2 a3 : Int} {Q : St → Prop} {σ : St} (h : wp_X7_push a1 a2 a3 Q σ) : CtV l yX7_push (.code yX7_push cX7_push 4 none) rm_X7_push D cA shC ad zsC [.ref (ad 26), vI a1, vI a2, vI a3] σ Q :=
  ct_V RX7 (by decide +kernel) rfl (Nat.le_of_ble_eq_true rfl) (fun p e s m args below meth c C hlocks hr => m_X7_push_E C hlocks hr h)
abbrev rm_X7_add : Room := { frames := 2, cells := 0, slots := 0, locals := 23 }
set_option maxRecDepth 100000 in
set_option maxHeartbeats 4000000 in
theorem m_X7_add_B161 {p : Program} {l : Launch} {e : Env} {s : State} {m : MethodId} {args : Array Value} {below : List Frame} {meth : Method} {c : Code} {D : va_G} {cA : Nat → ClassId} {ad : Nat → Nat} (C : Cx p s m args c cX7_add RX7 7 D cA shC ad zsC) (hlocks : meth.locks = false) (hr : meth.sig.returnType = none) {Q : St → Prop} {K125 : Int → Int → Int → Int → St → Prop} (hK125 : ∀ (x1 : Int) (x2 : Int) (x4 : Int) (x6 : Int) (σ : St), K125 x1 x2 x4 x6 σ → G p l e rm_X7_add s m args below meth c 0 0 7 D cA shC ad (QV D cA shC ad zsC below args s Q) σ [(0, .ref (ad 26)), (1, vI x1), (2, vI x2), (4, vI x4), (6, vI x6)] [] 125) {x1 x2 x4 x6 : Int} {σ : St} (h : wp_X7_add_B161 K125 x1 x2 x4 x6 Q σ) : G p l e rm_X7_add s m args below meth c 0 0 7 D cA shC ad (QV D cA shC ad zsC below args s Q) σ [(0, .ref (ad 26)), (1, vI x1), (2, vI x2), (4, vI x4), (6, vI x6)] [] 161 := by
  unfold wp_X7_add_B161 at h
  refine g_iinc C 4 6 [(0, .ref (ad 26)), (1, vI x1), (2, vI x2), (4, vI x4)] rfl (by decide) rfl dX7_add_161 (fun x_1 ex_1 => ?_)
  have h := h x_1 ex_1
  refine g_goto C 125 (by decide) dX7_add_164 ?_
  exact g_pick [1, 2, 3, 4, 0] rfl (hK125 _ _ _ _ _ h)
set_option maxRecDepth 100000 in
set_option maxHeartbeats 4000000 in
theorem m_X7_add_L125 {p : Program} {l : Launch} {e : Env} {s : State} {m : MethodId} {args : Array Value} {below : List Frame} {meth : Method} {c : Code} {D : va_G} {cA : Nat → ClassId} {ad : Nat → Nat} (C : Cx p s m args c cX7_add RX7 7 D cA shC ad zsC) (hlocks : meth.locks = false) (hr : meth.sig.returnType = none) {Q : St → Prop} : ∀ (n : Nat) (x1 : Int) (x2 : Int) (x4 : Int) (x6 : Int) (σ : St), wp_X7_add_L125 Q n x1 x2 x4 x6 σ → G p l e rm_X7_add s m args below meth c 0 0 7 D cA shC ad (QV D cA shC ad zsC below args s Q) σ [(0, .ref (ad 26)), (1, vI x1), (2, vI x2), (4, vI x4), (6, vI x6)] [] 125 := by
  intro n
  induction n with
  | zero => intro _ _ _ _ _ h; exact h.elim
  | succ n ih =>
    intro x1 x2 x4 x6 σ h
    simp only [wp_X7_add_L125] at h
    refine g_iload C 4 6 rfl dX7_add_125 ?_
    refine g_iload_n C 2 2 rfl rfl dX7_add_127 ?_
    refine g_icmp_le C rfl rfl 167 (by decide) dX7_add_128 (fun hc => ?_) (fun hc => ?_)
    · have h := h.1 hc
      refine g_aload_n C 0 0 rfl rfl dX7_add_167 ?_
      refine g_dup C rfl dX7_add_168 ?_
      refine g_get C iX7 (ci := 7) (o := 26) (v := vI (σ 26 0)) rfl rfl 0 (by decide) rfl tw_X7_26 dX7_add_169 ?_
      refine g_iconst C dX7_add_172 ?_
      refine g_iadd C dX7_add_173 ?_
      refine g_put C iX7 (ci := 7) (o := 26) (z := ((σ 26 0) + 1)) (ty := .int) rfl tyX7_ok nmX7 rfl 0 (by decide) rfl rfl tw_X7_26 rfl (by decide +kernel) rfl rfl dX7_add_174 (fun σ1 eσ1 => ?_)
      have h := h σ1 eσ1
      exact g_vret C hlocks hr h dX7_add_177
    · have h := h.2 hc
      refine g_aload_n C 0 0 rfl rfl dX7_add_131 ?_
      refine g_get C iX7 (ci := 7) (o := 26) (v := .ref (ad 3)) rfl rfl 1 (by decide) rfl tw_X7_18 dX7_add_132 ?_
      refine g_iload C 3 4 rfl dX7_add_135 ?_
      refine g_iload C 4 6 rfl dX7_add_137 ?_
      refine g_callIs C (m_X1_row l D cA ad h) hv_X1_row tw_X7_46 (As := [vI x4, vI x6]) (st := [.ref (ad 3)]) rfl rfl ⟨Nat.le_of_ble_eq_true rfl, Nat.le_of_ble_eq_true rfl⟩ rfl rfl (Nat.le_of_ble_eq_true rfl) dX7_add_139 (fun r3 σ2 h => ?_)
      try dsimp only at h
      refine g_iconst C dX7_add_142 ?_
      refine g_callIv C (m_X1_cell l D cA ad h) hv_X1_cell tw_X7_51 (o := 3) (ci := 1) (As := [vI r3, vI 2]) (st := []) rfl rfl rfl rfl ⟨Nat.le_of_ble_eq_true rfl, Nat.le_of_ble_eq_true rfl⟩ rfl rfl (Nat.le_of_ble_eq_true rfl) dX7_add_143 (fun r5 σ4 h => ?_)
      try dsimp only at h
      refine g_iload_n C 2 2 rfl rfl dX7_add_146 ?_
      refine g_icmp_ne C rfl rfl 161 (by decide) dX7_add_147 (fun hc => ?_) (fun hc => ?_)
      · have h := h.1 hc
        exact g_pick [0, 1, 2, 3, 4] rfl (m_X7_add_B161 C hlocks hr (fun _ _ _ _ _ h => ih _ _ _ _ _ h) h)
      · have h := h.2 hc
        refine g_aload_n C 0 0 rfl rfl dX7_add_150 ?_
        refine g_iload_n C 1 1 rfl rfl dX7_add_151 ?_
        refine g_iload C 4 6 rfl dX7_add_152 ?_
        refine g_aload_n C 0 0 rfl rfl dX7_add_154 ?_
        refine g_get C iX7 (ci := 7) (o := 26) (v := vI (σ4 26 0)) rfl rfl 0 (by decide) rfl tw_X7_26 dX7_add_155 ?_
        refine g_callVv C (m_X7_push l D cA ad h) hv_X7_push tw_X7_33 (o := 26) (ci := 7) (As := [vI x1, vI x6, vI (σ4 26 0)]) (st := []) rfl rfl rfl rfl ⟨Nat.le_of_ble_eq_true rfl, Nat.le_of_ble_eq_true rfl⟩ rfl rfl (Nat.le_of_ble_eq_true rfl) dX7_add_158 (fun σ6 h => ?_)
        try dsimp only at h
        exact g_pick [0, 1, 2, 3, 4] rfl (m_X7_add_B161 C hlocks hr (fun _ _ _ _ _ h => ih _ _ _ _ _ h) h)
set_option maxRecDepth 100000 in
set_option maxHeartbeats 4000000 in
theorem m_X7_add_E {p : Program} {l : Launch} {e : Env} {s : State} {m : MethodId} {args : Array Value} {below : List Frame} {meth : Method} {c : Code} {D : va_G} {cA : Nat → ClassId} {ad : Nat → Nat} (C : Cx p s m args c cX7_add RX7 7 D cA shC ad zsC) (hlocks : meth.locks = false) (hr : meth.sig.returnType = none) {Q : St → Prop} {a1 a2 a3 : Int} {σ : St} (h : wp_X7_add a1 a2 a3 Q σ) : G p l e rm_X7_add s m args below meth c 0 0 7 D cA shC ad (QV D cA shC ad zsC below args s Q) σ [(0, .ref (ad 26)), (1, vI a1), (2, vI a2), (3, vI a3)] [] 0 := by
  unfold wp_X7_add at h
  refine g_aload_n C 0 0 rfl rfl dX7_add_0 ?_
  refine g_get C iX7 (ci := 7) (o := 26) (v := .ref (ad 23)) rfl rfl 2 (by decide) rfl tw_X7_22 dX7_add_1 ?_
  refine g_iload_n C 1 1 rfl rfl dX7_add_4 ?_
  refine g_iconst C dX7_add_5 ?_
  refine g_callIv C (m_X6_useCell l D cA ad h) hv_X6_useCell tw_X7_42 (o := 23) (ci := 6) (As := [vI a1, vI 0]) (st := []) rfl rfl rfl rfl ⟨Nat.le_of_ble_eq_true rfl, Nat.le_of_ble_eq_true rfl⟩ rfl rfl (Nat.le_of_ble_eq_true rfl) dX7_add_6 (fun r2 σ1 h => ?_)
  try dsimp only at h
  refine g_istore C 4 [(0, .ref (ad 26)), (1, vI a1), (2, vI a2), (3, vI a3)] (by decide) rfl dX7_add_9 ?_
  refine g_aload_n C 1 0 rfl rfl dX7_add_11 ?_
  refine g_get C iX7 (ci := 7) (o := 26) (v := vI (σ1 26 0)) rfl rfl 0 (by decide) rfl tw_X7_26 dX7_add_12 ?_
  refine g_bipush C dX7_add_15 (by decide) ?_
  refine g_imul C dX7_add_17 ?_
  refine g_name (fun x_3 ex_3 => ?_)
  have h := h x_3 ex_3
  refine g_istore C 5 [(4, vI r2), (0, .ref (ad 26)), (1, vI a1), (2, vI a2), (3, vI a3)] (by decide) rfl dX7_add_18 ?_
  refine g_aload_n C 2 0 rfl rfl dX7_add_20 ?_
  refine g_get C iX7 (ci := 7) (o := 26) (v := .ref (ad 27)) rfl rfl 3 (by decide) rfl tw_X7_11 dX7_add_21 ?_
  refine g_iload C 0 5 rfl dX7_add_24 ?_
  refine g_iconst C dX7_add_26 ?_
  refine g_iadd C dX7_add_27 ?_
  refine g_iload_n C 3 1 rfl rfl dX7_add_28 ?_
  obtain ⟨hi, h⟩ := h
  refine g_iast C (o := 27) (N := 576) rfl rfl hi rfl dX7_add_29 (fun σ4 eσ4 => ?_)
  have h := h σ4 eσ4
  refine g_aload_n C 2 0 rfl rfl dX7_add_30 ?_
  refine g_get C iX7 (ci := 7) (o := 26) (v := .ref (ad 27)) rfl rfl 3 (by decide) rfl tw_X7_11 dX7_add_31 ?_
  refine g_iload C 0 5 rfl dX7_add_34 ?_
  refine g_iconst C dX7_add_36 ?_
  refine g_iadd C dX7_add_37 ?_
  refine g_iload_n C 4 2 rfl rfl dX7_add_38 ?_
  obtain ⟨hi, h⟩ := h
  refine g_iast C (o := 27) (N := 576) rfl rfl hi rfl dX7_add_39 (fun σ5 eσ5 => ?_)
  have h := h σ5 eσ5
  refine g_aload_n C 2 0 rfl rfl dX7_add_40 ?_
  refine g_get C iX7 (ci := 7) (o := 26) (v := .ref (ad 27)) rfl rfl 3 (by decide) rfl tw_X7_11 dX7_add_41 ?_
  refine g_iload C 0 5 rfl dX7_add_44 ?_
  refine g_iconst C dX7_add_46 ?_
  refine g_iadd C dX7_add_47 ?_
  refine g_iload_n C 5 3 rfl rfl dX7_add_48 ?_
  obtain ⟨hi, h⟩ := h
  refine g_iast C (o := 27) (N := 576) rfl rfl hi rfl dX7_add_49 (fun σ6 eσ6 => ?_)
  have h := h σ6 eσ6
  refine g_aload_n C 2 0 rfl rfl dX7_add_50 ?_
  refine g_get C iX7 (ci := 7) (o := 26) (v := .ref (ad 27)) rfl rfl 3 (by decide) rfl tw_X7_11 dX7_add_51 ?_
  refine g_iload C 0 5 rfl dX7_add_54 ?_
  refine g_iconst C dX7_add_56 ?_
  refine g_iadd C dX7_add_57 ?_
  refine g_aload_n C 2 0 rfl rfl dX7_add_58 ?_
  refine g_get C iX7 (ci := 7) (o := 26) (v := .ref (ad 23)) rfl rfl 2 (by decide) rfl tw_X7_22 dX7_add_59 ?_
  refine g_iload_n C 3 1 rfl rfl dX7_add_62 ?_
  refine g_iload_n C 4 2 rfl rfl dX7_add_63 ?_
  refine g_iconst C dX7_add_64 ?_
  refine g_callIv C (m_X6_nodeCell l D cA ad h) hv_X6_nodeCell tw_X7_57 (o := 23) (ci := 6) (As := [vI a1, vI a2, vI 3]) (st := [vI (x_3 + 3), .ref (ad 27)]) rfl rfl rfl rfl ⟨Nat.le_of_ble_eq_true rfl, Nat.le_of_ble_eq_true rfl⟩ rfl rfl (Nat.le_of_ble_eq_true rfl) dX7_add_65 (fun r8 σ7 h => ?_)
  try dsimp only at h
  obtain ⟨hi, h⟩ := h
  refine g_iast C (o := 27) (N := 576) rfl rfl hi rfl dX7_add_68 (fun σ9 eσ9 => ?_)
  have h := h σ9 eσ9
  refine g_aload_n C 2 0 rfl rfl dX7_add_69 ?_
  refine g_get C iX7 (ci := 7) (o := 26) (v := .ref (ad 27)) rfl rfl 3 (by decide) rfl tw_X7_11 dX7_add_70 ?_
  refine g_iload C 0 5 rfl dX7_add_73 ?_
  refine g_iconst C dX7_add_75 ?_
  refine g_iadd C dX7_add_76 ?_
  refine g_aload_n C 2 0 rfl rfl dX7_add_77 ?_
  refine g_get C iX7 (ci := 7) (o := 26) (v := .ref (ad 23)) rfl rfl 2 (by decide) rfl tw_X7_22 dX7_add_78 ?_
  refine g_iload_n C 3 1 rfl rfl dX7_add_81 ?_
  refine g_iload_n C 4 2 rfl rfl dX7_add_82 ?_
  refine g_iconst C dX7_add_83 ?_
  refine g_callIv C (m_X6_nodeCell l D cA ad h) hv_X6_nodeCell tw_X7_57 (o := 23) (ci := 6) (As := [vI a1, vI a2, vI 4]) (st := [vI (x_3 + 4), .ref (ad 27)]) rfl rfl rfl rfl ⟨Nat.le_of_ble_eq_true rfl, Nat.le_of_ble_eq_true rfl⟩ rfl rfl (Nat.le_of_ble_eq_true rfl) dX7_add_84 (fun r11 σ10 h => ?_)
  try dsimp only at h
  obtain ⟨hi, h⟩ := h
  refine g_iast C (o := 27) (N := 576) rfl rfl hi rfl dX7_add_87 (fun σ12 eσ12 => ?_)
  have h := h σ12 eσ12
  refine g_aload_n C 2 0 rfl rfl dX7_add_88 ?_
  refine g_get C iX7 (ci := 7) (o := 26) (v := .ref (ad 27)) rfl rfl 3 (by decide) rfl tw_X7_11 dX7_add_89 ?_
  refine g_iload C 0 5 rfl dX7_add_92 ?_
  refine g_iconst C dX7_add_94 ?_
  refine g_iadd C dX7_add_95 ?_
  refine g_aload_n C 2 0 rfl rfl dX7_add_96 ?_
  refine g_get C iX7 (ci := 7) (o := 26) (v := .ref (ad 3)) rfl rfl 1 (by decide) rfl tw_X7_18 dX7_add_97 ?_
  refine g_iload C 1 4 rfl dX7_add_100 ?_
  refine g_iload_n C 4 2 rfl rfl dX7_add_102 ?_
  refine g_callIs C (m_X1_row l D cA ad h) hv_X1_row tw_X7_46 (As := [vI r2, vI a2]) (st := [.ref (ad 3), vI (x_3 + 5), .ref (ad 27)]) rfl rfl ⟨Nat.le_of_ble_eq_true rfl, Nat.le_of_ble_eq_true rfl⟩ rfl rfl (Nat.le_of_ble_eq_true rfl) dX7_add_103 (fun r14 σ13 h => ?_)
  try dsimp only at h
  refine g_iconst C dX7_add_106 ?_
  refine g_callIv C (m_X1_cell l D cA ad h) hv_X1_cell tw_X7_51 (o := 3) (ci := 1) (As := [vI r14, vI 3]) (st := [vI (x_3 + 5), .ref (ad 27)]) rfl rfl rfl rfl ⟨Nat.le_of_ble_eq_true rfl, Nat.le_of_ble_eq_true rfl⟩ rfl rfl (Nat.le_of_ble_eq_true rfl) dX7_add_107 (fun r16 σ15 h => ?_)
  try dsimp only at h
  obtain ⟨hi, h⟩ := h
  refine g_iast C (o := 27) (N := 576) rfl rfl hi rfl dX7_add_110 (fun σ17 eσ17 => ?_)
  have h := h σ17 eσ17
  refine g_aload_n C 2 0 rfl rfl dX7_add_111 ?_
  refine g_get C iX7 (ci := 7) (o := 26) (v := .ref (ad 3)) rfl rfl 1 (by decide) rfl tw_X7_18 dX7_add_112 ?_
  refine g_get C iX1 (ci := 1) (o := 3) (v := .ref (ad 10)) rfl rfl 2 (by decide) rfl tw_X7_61 dX7_add_115 ?_
  refine g_iload C 1 4 rfl dX7_add_118 ?_
  obtain ⟨hi, h⟩ := h
  refine g_iald C (o := 10) (N := 17) rfl rfl hi rfl dX7_add_120 ?_
  refine g_iconst C dX7_add_121 ?_
  refine g_isub C dX7_add_122 ?_
  refine g_name (fun x_18 ex_18 => ?_)
  have h := h x_18 ex_18
  refine g_istore C 6 [(5, vI x_3), (4, vI r2), (0, .ref (ad 26)), (1, vI a1), (2, vI a2), (3, vI a3)] (by decide) rfl dX7_add_123 ?_
  obtain ⟨nn, h⟩ := h
  exact g_pick [3, 4, 5, 2, 0] rfl (m_X7_add_L125 C hlocks hr nn _ _ _ _ _ h)
set_option maxRecDepth 100000 in
set_option maxHeartbeats 4000000 in
theorem m_X7_add (l : Launch) (D : va_G) (cA : Nat → ClassId) (ad : Nat → Nat) {a1 a2 a3 : Int} {Q : St → Prop} {σ : St} (h : wp_X7_add a1 a2 a3 Q σ) : CtV l yX7_add (.code yX7_add cX7_add 7 none) rm_X7_add D cA shC ad zsC [.ref (ad 26), vI a1, vI a2, vI a3] σ Q :=
  ct_V RX7 (by decide +kernel) rfl (Nat.le_of_ble_eq_true rfl) (fun p e s m args below meth c C hlocks hr => m_X7_add_E C hlocks hr h)
abbrev rm_X7_addInstead : Room := { frames := 3, cells := 0, slots := 0, locals := 49 }
set_option maxRecDepth 100000 in
set_option maxHeartbeats 4000000 in
theorem m_X7_addInstead_B105 {p : Program} {l : Launch} {e : Env} {s : State} {m : MethodId} {args : Array Value} {below : List Frame} {meth : Method} {c : Code} {D : va_G} {cA : Nat → ClassId} {ad : Nat → Nat} (C : Cx p s m args c cX7_addInstead RX7 9 D cA shC ad zsC) (hlocks : meth.locks = false) (hr : meth.sig.returnType = none) {Q : St → Prop} {x3 x5 x6 : Int} {σ : St} (h : wp_X7_addInstead_B105 x3 x5 x6 Q σ) : G p l e rm_X7_addInstead s m args below meth c 0 0 9 D cA shC ad (QV D cA shC ad zsC below args s Q) σ [(0, .ref (ad 26)), (3, vI x3), (5, vI x5), (6, vI x6)] [] 105 := by
  unfold wp_X7_addInstead_B105 at h
  refine g_aload_n C 0 0 rfl rfl dX7_addInstead_105 ?_
  refine g_iload C 2 5 rfl dX7_addInstead_106 ?_
  refine g_iload C 3 6 rfl dX7_addInstead_108 ?_
  refine g_iload_n C 1 3 rfl rfl dX7_addInstead_110 ?_
  refine g_callVv C (m_X7_add l D cA ad h) hv_X7_add tw_X7_54 (o := 26) (ci := 7) (As := [vI x5, vI x6, vI x3]) (st := []) rfl rfl rfl rfl ⟨Nat.le_of_ble_eq_true rfl, Nat.le_of_ble_eq_true rfl⟩ rfl rfl (Nat.le_of_ble_eq_true rfl) dX7_addInstead_111 (fun σ1 h => ?_)
  try dsimp only at h
  exact g_vret C hlocks hr h dX7_addInstead_114
set_option maxRecDepth 100000 in
set_option maxHeartbeats 4000000 in
theorem m_X7_addInstead_L62 {p : Program} {l : Launch} {e : Env} {s : State} {m : MethodId} {args : Array Value} {below : List Frame} {meth : Method} {c : Code} {D : va_G} {cA : Nat → ClassId} {ad : Nat → Nat} (C : Cx p s m args c cX7_addInstead RX7 9 D cA shC ad zsC) (hlocks : meth.locks = false) (hr : meth.sig.returnType = none) {Q : St → Prop} : ∀ (n : Nat) (x3 : Int) (x5 : Int) (x6 : Int) (x7 : Int) (σ : St), wp_X7_addInstead_L62 Q n x3 x5 x6 x7 σ → G p l e rm_X7_addInstead s m args below meth c 0 0 9 D cA shC ad (QV D cA shC ad zsC below args s Q) σ [(0, .ref (ad 26)), (3, vI x3), (5, vI x5), (6, vI x6), (7, vI x7)] [] 62 := by
  intro n
  induction n with
  | zero => intro _ _ _ _ _ h; exact h.elim
  | succ n ih =>
    intro x3 x5 x6 x7 σ h
    simp only [wp_X7_addInstead_L62] at h
    refine g_iload C 4 7 rfl dX7_addInstead_62 ?_
    refine g_bipush C dX7_addInstead_64 (by decide) ?_
    refine g_icmp_ge C (y' := 8) rfl (by decide) 105 (by decide) dX7_addInstead_66 (fun hc => ?_) (fun hc => ?_)
    · have h := h.1 hc
      exact g_pick [0, 1, 2, 3] rfl (m_X7_addInstead_B105 C hlocks hr h)
    · have h := h.2 hc
      refine g_aload_n C 0 0 rfl rfl dX7_addInstead_69 ?_
      refine g_get C iX7 (ci := 7) (o := 26) (v := .ref (ad 23)) rfl rfl 2 (by decide) rfl tw_X7_22 dX7_addInstead_70 ?_
      refine g_iload C 2 5 rfl dX7_addInstead_73 ?_
      refine g_iload C 3 6 rfl dX7_addInstead_75 ?_
      refine g_iconst C dX7_addInstead_77 ?_
      refine g_callIv C (m_X6_nodeCell l D cA ad h) hv_X6_nodeCell tw_X7_57 (o := 23) (ci := 6) (As := [vI x5, vI x6, vI 2]) (st := []) rfl rfl rfl rfl ⟨Nat.le_of_ble_eq_true rfl, Nat.le_of_ble_eq_true rfl⟩ rfl rfl (Nat.le_of_ble_eq_true rfl) dX7_addInstead_78 (fun r2 σ1 h => ?_)
      try dsimp only at h
      refine g_istore C 8 [(0, .ref (ad 26)), (3, vI x3), (5, vI x5), (6, vI x6), (7, vI x7)] (by decide) rfl dX7_addInstead_81 ?_
      refine g_iload C 0 8 rfl dX7_addInstead_83 ?_
      refine g_iconst C dX7_addInstead_85 ?_
      refine g_icmp_ne C (y' := (-1)) rfl (by decide) 92 (by decide) dX7_addInstead_86 (fun hc => ?_) (fun hc => ?_)
      · have h := h.1 hc
        refine g_iload C 0 8 rfl dX7_addInstead_92 ?_
        refine g_istore C 5 [(8, vI r2), (0, .ref (ad 26)), (3, vI x3), (6, vI x6), (7, vI x7)] (by decide) rfl dX7_addInstead_94 ?_
        refine g_iconst C dX7_addInstead_96 ?_
        refine g_istore C 6 [(5, vI r2), (8, vI r2), (0, .ref (ad 26)), (3, vI x3), (7, vI x7)] (by decide) rfl dX7_addInstead_97 ?_
        refine g_iinc C 5 7 [(6, vI 0), (5, vI r2), (8, vI r2), (0, .ref (ad 26)), (3, vI x3)] rfl (by decide) rfl dX7_addInstead_99 (fun x_3 ex_3 => ?_)
        have h := h x_3 ex_3
        refine g_goto C 62 (by decide) dX7_addInstead_102 ?_
        exact g_pick [4, 5, 2, 1, 0] rfl (ih _ _ _ _ _ h)
      · have h := h.2 hc
        refine g_goto C 105 (by decide) dX7_addInstead_89 ?_
        exact g_pick [1, 2, 3, 4] rfl (m_X7_addInstead_B105 C hlocks hr h)
set_option maxRecDepth 100000 in
set_option maxHeartbeats 4000000 in
theorem m_X7_addInstead_E {p : Program} {l : Launch} {e : Env} {s : State} {m : MethodId} {args : Array Value} {below : List Frame} {meth : Method} {c : Code} {D : va_G} {cA : Nat → ClassId} {ad : Nat → Nat} (C : Cx p s m args c cX7_addInstead RX7 9 D cA shC ad zsC) (hlocks : meth.locks = false) (hr : meth.sig.returnType = none) {Q : St → Prop} {a1 a2 a3 : Int} {σ : St} (h : wp_X7_addInstead a1 a2 a3 Q σ) : G p l e rm_X7_addInstead s m args below meth c 0 0 9 D cA shC ad (QV D cA shC ad zsC below args s Q) σ [(0, .ref (ad 26)), (1, vI a1), (2, vI a2), (3, vI a3)] [] 0 := by
  unfold wp_X7_addInstead at h
  refine g_aload_n C 0 0 rfl rfl dX7_addInstead_0 ?_
  refine g_get C iX7 (ci := 7) (o := 26) (v := .ref (ad 23)) rfl rfl 2 (by decide) rfl tw_X7_22 dX7_addInstead_1 ?_
  refine g_iload_n C 1 1 rfl rfl dX7_addInstead_4 ?_
  refine g_iconst C dX7_addInstead_5 ?_
  refine g_callIv C (m_X6_useCell l D cA ad h) hv_X6_useCell tw_X7_42 (o := 23) (ci := 6) (As := [vI a1, vI 0]) (st := []) rfl rfl rfl rfl ⟨Nat.le_of_ble_eq_true rfl, Nat.le_of_ble_eq_true rfl⟩ rfl rfl (Nat.le_of_ble_eq_true rfl) dX7_addInstead_6 (fun r2 σ1 h => ?_)
  try dsimp only at h
  refine g_istore C 4 [(0, .ref (ad 26)), (1, vI a1), (2, vI a2), (3, vI a3)] (by decide) rfl dX7_addInstead_9 ?_
  refine g_aload_n C 1 0 rfl rfl dX7_addInstead_11 ?_
  refine g_get C iX7 (ci := 7) (o := 26) (v := .ref (ad 3)) rfl rfl 1 (by decide) rfl tw_X7_18 dX7_addInstead_12 ?_
  refine g_iload C 0 4 rfl dX7_addInstead_15 ?_
  refine g_iload_n C 3 2 rfl rfl dX7_addInstead_17 ?_
  refine g_callIs C (m_X1_row l D cA ad h) hv_X1_row tw_X7_46 (As := [vI r2, vI a2]) (st := [.ref (ad 3)]) rfl rfl ⟨Nat.le_of_ble_eq_true rfl, Nat.le_of_ble_eq_true rfl⟩ rfl rfl (Nat.le_of_ble_eq_true rfl) dX7_addInstead_18 (fun r4 σ3 h => ?_)
  try dsimp only at h
  refine g_iconst C dX7_addInstead_21 ?_
  refine g_callIv C (m_X1_cell l D cA ad h) hv_X1_cell tw_X7_51 (o := 3) (ci := 1) (As := [vI r4, vI 0]) (st := []) rfl rfl rfl rfl ⟨Nat.le_of_ble_eq_true rfl, Nat.le_of_ble_eq_true rfl⟩ rfl rfl (Nat.le_of_ble_eq_true rfl) dX7_addInstead_22 (fun r6 σ5 h => ?_)
  try dsimp only at h
  refine g_iconst C dX7_addInstead_25 ?_
  refine g_icmp_ne C (y' := 2) rfl (by decide) 53 (by decide) dX7_addInstead_26 (fun hc => ?_) (fun hc => ?_)
  · have h := h.1 hc
    refine g_iload_n C 2 1 rfl rfl dX7_addInstead_53 ?_
    refine g_istore C 5 [(4, vI r2), (0, .ref (ad 26)), (1, vI a1), (2, vI a2), (3, vI a3)] (by decide) rfl dX7_addInstead_54 ?_
    refine g_iload_n C 4 2 rfl rfl dX7_addInstead_56 ?_
    refine g_istore C 6 [(5, vI a1), (4, vI r2), (0, .ref (ad 26)), (1, vI a1), (2, vI a2), (3, vI a3)] (by decide) rfl dX7_addInstead_57 ?_
    refine g_iconst C dX7_addInstead_59 ?_
    refine g_istore C 7 [(6, vI a2), (5, vI a1), (4, vI r2), (0, .ref (ad 26)), (1, vI a1), (2, vI a2), (3, vI a3)] (by decide) rfl dX7_addInstead_60 ?_
    obtain ⟨nn, h⟩ := h
    exact g_pick [4, 7, 2, 1, 0] rfl (m_X7_addInstead_L62 C hlocks hr nn _ _ _ _ _ h)
  · have h := h.2 hc
    refine g_aload_n C 1 0 rfl rfl dX7_addInstead_29 ?_
    refine g_aload_n C 1 0 rfl rfl dX7_addInstead_30 ?_
    refine g_get C iX7 (ci := 7) (o := 26) (v := .ref (ad 23)) rfl rfl 2 (by decide) rfl tw_X7_22 dX7_addInstead_31 ?_
    refine g_iload_n C 2 1 rfl rfl dX7_addInstead_34 ?_
    refine g_iconst C dX7_addInstead_35 ?_
    refine g_callIv C (m_X6_useCell l D cA ad h) hv_X6_useCell tw_X7_42 (o := 23) (ci := 6) (As := [vI a1, vI 1]) (st := [.ref (ad 26)]) rfl rfl rfl rfl ⟨Nat.le_of_ble_eq_true rfl, Nat.le_of_ble_eq_true rfl⟩ rfl rfl (Nat.le_of_ble_eq_true rfl) dX7_addInstead_36 (fun r8 σ7 h => ?_)
    try dsimp only at h
    refine g_aload_n C 1 0 rfl rfl dX7_addInstead_39 ?_
    refine g_get C iX7 (ci := 7) (o := 26) (v := .ref (ad 23)) rfl rfl 2 (by decide) rfl tw_X7_22 dX7_addInstead_40 ?_
    refine g_iload_n C 2 1 rfl rfl dX7_addInstead_43 ?_
    refine g_iconst C dX7_addInstead_44 ?_
    refine g_callIv C (m_X6_useCell l D cA ad h) hv_X6_useCell tw_X7_42 (o := 23) (ci := 6) (As := [vI a1, vI 2]) (st := [vI r8, .ref (ad 26)]) rfl rfl rfl rfl ⟨Nat.le_of_ble_eq_true rfl, Nat.le_of_ble_eq_true rfl⟩ rfl rfl (Nat.le_of_ble_eq_true rfl) dX7_addInstead_45 (fun r10 σ9 h => ?_)
    try dsimp only at h
    refine g_iload_n C 4 3 rfl rfl dX7_addInstead_48 ?_
    refine g_callVv C (m_X7_add l D cA ad h) hv_X7_add tw_X7_54 (o := 26) (ci := 7) (As := [vI r8, vI r10, vI a3]) (st := []) rfl rfl rfl rfl ⟨Nat.le_of_ble_eq_true rfl, Nat.le_of_ble_eq_true rfl⟩ rfl rfl (Nat.le_of_ble_eq_true rfl) dX7_addInstead_49 (fun σ11 h => ?_)
    try dsimp only at h
    exact g_vret C hlocks hr h dX7_addInstead_52
set_option maxRecDepth 100000 in
set_option maxHeartbeats 4000000 in
theorem m_X7_addInstead (l : Launch) (D : va_G) (cA : Nat → ClassId) (ad : Nat → Nat) {a1 a2 a3 : Int} {Q : St → Prop} {σ : St} (h : wp_X7_addInstead a1 a2 a3 Q σ) : CtV l yX7_addInstead (.code yX7_addInstead cX7_addInstead 9 none) rm_X7_addInstead D cA shC ad zsC [.ref (ad 26), vI a1, vI a2, vI a3] σ Q :=
  ct_V RX7 (by decide +kernel) rfl (Nat.le_of_ble_eq_true rfl) (fun p e s m args below meth c C hlocks hr => m_X7_addInstead_E C hlocks hr h)
abbrev rm_X7_grow : Room := { frames := 4, cells := 0, slots := 0, locals := 77 }
set_option maxRecDepth 100000 in
set_option maxHeartbeats 4000000 in
theorem m_X7_grow_L19 {p : Program} {l : Launch} {e : Env} {s : State} {m : MethodId} {args : Array Value} {below : List Frame} {meth : Method} {c : Code} {D : va_G} {cA : Nat → ClassId} {ad : Nat → Nat} (C : Cx p s m args c cX7_grow RX7 2 D cA shC ad zsC) (hlocks : meth.locks = false) (hr : meth.sig.returnType = none) {Q : St → Prop} : ∀ (n : Nat) (x1 : Int) (σ : St), wp_X7_grow_L19 Q n x1 σ → G p l e rm_X7_grow s m args below meth c 0 0 2 D cA shC ad (QV D cA shC ad zsC below args s Q) σ [(0, .ref (ad 26)), (1, vI x1)] [] 19 := by
  intro n
  induction n with
  | zero => intro _ _ h; exact h.elim
  | succ n ih =>
    intro x1 σ h
    simp only [wp_X7_grow_L19] at h
    refine g_iload_n C 1 1 rfl rfl dX7_grow_19 ?_
    refine g_bipush C dX7_grow_20 (by decide) ?_
    refine g_icmp_ge C (y' := 96) rfl (by decide) 89 (by decide) dX7_grow_22 (fun hc => ?_) (fun hc => ?_)
    · have h := h.1 hc
      exact g_vret C hlocks hr h dX7_grow_89
    · have h := h.2 hc
      refine g_aload_n C 0 0 rfl rfl dX7_grow_25 ?_
      refine g_get C iX7 (ci := 7) (o := 26) (v := vI (σ 26 5)) rfl rfl 5 (by decide) rfl tw_X7_30 dX7_grow_26 ?_
      refine g_if_le C rfl 89 (by decide) dX7_grow_29 (fun hc => ?_) (fun hc => ?_)
      · have h := h.1 hc
        exact g_vret C hlocks hr h dX7_grow_89
      · have h := h.2 hc
        refine g_aload_n C 0 0 rfl rfl dX7_grow_32 ?_
        refine g_dup C rfl dX7_grow_33 ?_
        refine g_get C iX7 (ci := 7) (o := 26) (v := vI (σ 26 5)) rfl rfl 5 (by decide) rfl tw_X7_30 dX7_grow_34 ?_
        refine g_iconst C dX7_grow_37 ?_
        refine g_isub C dX7_grow_38 ?_
        refine g_put C iX7 (ci := 7) (o := 26) (z := ((σ 26 5) - 1)) (ty := .int) rfl tyX7_ok nmX7 rfl 5 (by decide) rfl rfl tw_X7_30 rfl (by decide +kernel) rfl rfl dX7_grow_39 (fun σ1 eσ1 => ?_)
        have h := h σ1 eσ1
        refine g_aload_n C 0 0 rfl rfl dX7_grow_42 ?_
        refine g_aload_n C 0 0 rfl rfl dX7_grow_43 ?_
        refine g_get C iX7 (ci := 7) (o := 26) (v := .ref (ad 28)) rfl rfl 4 (by decide) rfl tw_X7_15 dX7_grow_44 ?_
        refine g_aload_n C 0 0 rfl rfl dX7_grow_47 ?_
        refine g_get C iX7 (ci := 7) (o := 26) (v := vI (σ1 26 5)) rfl rfl 5 (by decide) rfl tw_X7_30 dX7_grow_48 ?_
        refine g_iconst C dX7_grow_51 ?_
        refine g_imul C dX7_grow_52 ?_
        obtain ⟨hi, h⟩ := h
        refine g_iald C (o := 28) (N := 288) rfl rfl hi rfl dX7_grow_53 ?_
        refine g_aload_n C 0 0 rfl rfl dX7_grow_54 ?_
        refine g_get C iX7 (ci := 7) (o := 26) (v := .ref (ad 28)) rfl rfl 4 (by decide) rfl tw_X7_15 dX7_grow_55 ?_
        refine g_aload_n C 0 0 rfl rfl dX7_grow_58 ?_
        refine g_get C iX7 (ci := 7) (o := 26) (v := vI (σ1 26 5)) rfl rfl 5 (by decide) rfl tw_X7_30 dX7_grow_59 ?_
        refine g_iconst C dX7_grow_62 ?_
        refine g_imul C dX7_grow_63 ?_
        refine g_iconst C dX7_grow_64 ?_
        refine g_iadd C dX7_grow_65 ?_
        obtain ⟨hi, h⟩ := h
        refine g_iald C (o := 28) (N := 288) rfl rfl hi rfl dX7_grow_66 ?_
        refine g_aload_n C 0 0 rfl rfl dX7_grow_67 ?_
        refine g_get C iX7 (ci := 7) (o := 26) (v := .ref (ad 28)) rfl rfl 4 (by decide) rfl tw_X7_15 dX7_grow_68 ?_
        refine g_aload_n C 0 0 rfl rfl dX7_grow_71 ?_
        refine g_get C iX7 (ci := 7) (o := 26) (v := vI (σ1 26 5)) rfl rfl 5 (by decide) rfl tw_X7_30 dX7_grow_72 ?_
        refine g_iconst C dX7_grow_75 ?_
        refine g_imul C dX7_grow_76 ?_
        refine g_iconst C dX7_grow_77 ?_
        refine g_iadd C dX7_grow_78 ?_
        obtain ⟨hi, h⟩ := h
        refine g_iald C (o := 28) (N := 288) rfl rfl hi rfl dX7_grow_79 ?_
        refine g_callVv C (m_X7_addInstead l D cA ad h) hv_X7_addInstead tw_X7_37 (o := 26) (ci := 7) (As := [vI (σ1 28 (w32 ((σ1 26 5) * 3)).toNat), vI (σ1 28 (w32 (((σ1 26 5) * 3) + 1)).toNat), vI (σ1 28 (w32 (((σ1 26 5) * 3) + 2)).toNat)]) (st := []) rfl rfl rfl rfl ⟨Nat.le_of_ble_eq_true rfl, Nat.le_of_ble_eq_true rfl⟩ rfl rfl (Nat.le_of_ble_eq_true rfl) dX7_grow_80 (fun σ2 h => ?_)
        try dsimp only at h
        refine g_iinc C 1 1 [(0, .ref (ad 26))] rfl (by decide) rfl dX7_grow_83 (fun x_3 ex_3 => ?_)
        have h := h x_3 ex_3
        refine g_goto C 19 (by decide) dX7_grow_86 ?_
        exact g_pick [1, 0] rfl (ih _ _ h)
set_option maxRecDepth 100000 in
set_option maxHeartbeats 4000000 in
theorem m_X7_grow_E {p : Program} {l : Launch} {e : Env} {s : State} {m : MethodId} {args : Array Value} {below : List Frame} {meth : Method} {c : Code} {D : va_G} {cA : Nat → ClassId} {ad : Nat → Nat} (C : Cx p s m args c cX7_grow RX7 2 D cA shC ad zsC) (hlocks : meth.locks = false) (hr : meth.sig.returnType = none) {Q : St → Prop} {σ : St} (h : wp_X7_grow Q σ) : G p l e rm_X7_grow s m args below meth c 0 0 2 D cA shC ad (QV D cA shC ad zsC below args s Q) σ [(0, .ref (ad 26))] [] 0 := by
  unfold wp_X7_grow at h
  refine g_aload_n C 0 0 rfl rfl dX7_grow_0 ?_
  refine g_iconst C dX7_grow_1 ?_
  refine g_put C iX7 (ci := 7) (o := 26) (z := 0) (ty := .int) rfl tyX7_ok nmX7 rfl 0 (by decide) rfl rfl tw_X7_26 rfl (by decide +kernel) rfl rfl dX7_grow_2 (fun σ1 eσ1 => ?_)
  have h := h σ1 eσ1
  refine g_aload_n C 0 0 rfl rfl dX7_grow_5 ?_
  refine g_iconst C dX7_grow_6 ?_
  refine g_put C iX7 (ci := 7) (o := 26) (z := 0) (ty := .int) rfl tyX7_ok nmX7 rfl 5 (by decide) rfl rfl tw_X7_30 rfl (by decide +kernel) rfl rfl dX7_grow_7 (fun σ2 eσ2 => ?_)
  have h := h σ2 eσ2
  refine g_aload_n C 0 0 rfl rfl dX7_grow_10 ?_
  refine g_iconst C dX7_grow_11 ?_
  refine g_iconst C dX7_grow_12 ?_
  refine g_iconst C dX7_grow_13 ?_
  refine g_callVv C (m_X7_push l D cA ad h) hv_X7_push tw_X7_33 (o := 26) (ci := 7) (As := [vI 0, vI 0, vI (-1)]) (st := []) rfl rfl rfl rfl ⟨Nat.le_of_ble_eq_true rfl, Nat.le_of_ble_eq_true rfl⟩ rfl rfl (Nat.le_of_ble_eq_true rfl) dX7_grow_14 (fun σ3 h => ?_)
  try dsimp only at h
  refine g_iconst C dX7_grow_17 ?_
  refine g_istore_n C 1 [(0, .ref (ad 26))] rfl (by decide) rfl dX7_grow_18 ?_
  obtain ⟨nn, h⟩ := h
  exact g_pick [1, 0] rfl (m_X7_grow_L19 C hlocks hr nn _ _ h)
set_option maxRecDepth 100000 in
set_option maxHeartbeats 4000000 in
theorem m_X7_grow (l : Launch) (D : va_G) (cA : Nat → ClassId) (ad : Nat → Nat) {Q : St → Prop} {σ : St} (h : wp_X7_grow Q σ) : CtV l yX7_grow (.code yX7_grow cX7_grow 2 none) rm_X7_grow D cA shC ad zsC [.ref (ad 26)] σ Q :=
  ct_V RX7 (by decide +kernel) rfl (Nat.le_of_ble_eq_true rfl) (fun p e s m args below meth c C hlocks hr => m_X7_grow_E C hlocks hr h)
abbrev rm_X7_cell : Room := { frames := 1, cells := 0, slots := 0, locals := 0 }
set_option maxRecDepth 100000 in
set_option maxHeartbeats 4000000 in
theorem m_X7_cell_E {p : Program} {l : Launch} {e : Env} {s : State} {m : MethodId} {args : Array Value} {below : List Frame} {meth : Method} {c : Code} {D : va_G} {cA : Nat → ClassId} {ad : Nat → Nat} (C : Cx p s m args c cX7_cell RX7 3 D cA shC ad zsC) (hlocks : meth.locks = false) (hr : meth.sig.returnType = (some .int)) {Q : Int → St → Prop} {a1 a2 : Int} {σ : St} (h : wp_X7_cell a1 a2 Q σ) : G p l e rm_X7_cell s m args below meth c 0 0 3 D cA shC ad (QI D cA shC ad zsC below args s Q) σ [(0, .ref (ad 26)), (1, vI a1), (2, vI a2)] [] 0 := by
  unfold wp_X7_cell at h
  refine g_aload_n C 0 0 rfl rfl dX7_cell_0 ?_
  refine g_get C iX7 (ci := 7) (o := 26) (v := .ref (ad 27)) rfl rfl 3 (by decide) rfl tw_X7_11 dX7_cell_1 ?_
  refine g_iload_n C 1 1 rfl rfl dX7_cell_4 ?_
  refine g_bipush C dX7_cell_5 (by decide) ?_
  refine g_imul C dX7_cell_7 ?_
  refine g_iload_n C 2 2 rfl rfl dX7_cell_8 ?_
  refine g_iadd C dX7_cell_9 ?_
  obtain ⟨hi, h⟩ := h
  refine g_iald C (o := 27) (N := 576) rfl rfl hi rfl dX7_cell_10 ?_
  exact g_iret C hlocks hr h dX7_cell_11
set_option maxRecDepth 100000 in
set_option maxHeartbeats 4000000 in
theorem m_X7_cell (l : Launch) (D : va_G) (cA : Nat → ClassId) (ad : Nat → Nat) {a1 a2 : Int} {Q : Int → St → Prop} {σ : St} (h : wp_X7_cell a1 a2 Q σ) : CtI l yX7_cell (.code yX7_cell cX7_cell 3 (some .int)) rm_X7_cell D cA shC ad zsC [.ref (ad 26), vI a1, vI a2] σ Q :=
  ct_I RX7 (by decide +kernel) rfl (Nat.le_of_ble_eq_true rfl) (fun p e s m args below meth c C hlocks hr => m_X7_cell_E C hlocks hr h)
abbrev rm_X4_append : Room := { frames := 1, cells := 0, slots := 0, locals := 0 }
set_option maxRecDepth 100000 in
set_option maxHeartbeats 4000000 in
theorem m_X4_append_L3 {p : Program} {l : Launch} {e : Env} {s : State} {m : MethodId} {args : Array Value} {below : List Frame} {meth : Method} {c : Code} {D : va_G} {cA : Nat → ClassId} {ad : Nat → Nat} (C : Cx p s m args c cX4_append RX4 3 D cA shC ad zsC) (hlocks : meth.locks = false) (hr : meth.sig.returnType = none) {Q : St → Prop} : ∀ (n : Nat) (x1 : Int) (x2 : Int) (σ : St), wp_X4_append_L3 Q n x1 x2 σ → G p l e rm_X4_append s m args below meth c 0 0 3 D cA shC ad (QV D cA shC ad zsC below args s Q) σ [(0, .ref (ad 1)), (1, vI x1), (2, vI x2)] [] 3 := by
  intro n
  induction n with
  | zero => intro _ _ _ h; exact h.elim
  | succ n ih =>
    intro x1 x2 σ h
    simp only [wp_X4_append_L3] at h
    refine g_iload_n C 2 2 rfl rfl dX4_append_3 ?_
    refine g_if_lt C rfl 49 (by decide) dX4_append_4 (fun hc => ?_) (fun hc => ?_)
    · have h := h.1 hc
      exact g_vret C hlocks hr h dX4_append_49
    · have h := h.2 hc
      refine g_aload_n C 0 0 rfl rfl dX4_append_7 ?_
      refine g_get C iX4 (ci := 4) (o := 1) (v := vI (σ 1 1)) rfl rfl 1 (by decide) rfl tw_X4_15 dX4_append_8 ?_
      refine g_sipush C dX4_append_11 (by decide) ?_
      refine g_icmp_ge C (y' := 1000) rfl (by decide) 49 (by decide) dX4_append_14 (fun hc => ?_) (fun hc => ?_)
      · have h := h.1 hc
        exact g_vret C hlocks hr h dX4_append_49
      · have h := h.2 hc
        refine g_aload_n C 0 0 rfl rfl dX4_append_17 ?_
        refine g_get C iX4 (ci := 4) (o := 1) (v := .ref (ad 2)) rfl rfl 0 (by decide) rfl tw_X4_9 dX4_append_18 ?_
        refine g_aload_n C 0 0 rfl rfl dX4_append_21 ?_
        refine g_get C iX4 (ci := 4) (o := 1) (v := vI (σ 1 1)) rfl rfl 1 (by decide) rfl tw_X4_15 dX4_append_22 ?_
        refine g_iload_n C 1 1 rfl rfl dX4_append_25 ?_
        refine g_iload_n C 2 2 rfl rfl dX4_append_26 ?_
        refine g_iushr C dX4_append_27 ?_
        refine g_sipush C dX4_append_28 (by decide) ?_
        refine g_iand C dX4_append_31 ?_
        obtain ⟨hi, h⟩ := h
        refine g_iast C (o := 2) (N := 1000) rfl rfl hi rfl dX4_append_32 (fun σ1 eσ1 => ?_)
        have h := h σ1 eσ1
        refine g_aload_n C 0 0 rfl rfl dX4_append_33 ?_
        refine g_dup C rfl dX4_append_34 ?_
        refine g_get C iX4 (ci := 4) (o := 1) (v := vI (σ1 1 1)) rfl rfl 1 (by decide) rfl tw_X4_15 dX4_append_35 ?_
        refine g_iconst C dX4_append_38 ?_
        refine g_iadd C dX4_append_39 ?_
        refine g_put C iX4 (ci := 4) (o := 1) (z := ((σ1 1 1) + 1)) (ty := .int) rfl tyX4_ok nmX4 rfl 1 (by decide) rfl rfl tw_X4_15 rfl (by decide +kernel) rfl rfl dX4_append_40 (fun σ2 eσ2 => ?_)
        have h := h σ2 eσ2
        refine g_iinc C 2 2 [(0, .ref (ad 1)), (1, vI x1)] rfl (by decide) rfl dX4_append_43 (fun x_3 ex_3 => ?_)
        have h := h x_3 ex_3
        refine g_goto C 3 (by decide) dX4_append_46 ?_
        exact g_pick [1, 2, 0] rfl (ih _ _ _ h)
set_option maxRecDepth 100000 in
set_option maxHeartbeats 4000000 in
theorem m_X4_append_E {p : Program} {l : Launch} {e : Env} {s : State} {m : MethodId} {args : Array Value} {below : List Frame} {meth : Method} {c : Code} {D : va_G} {cA : Nat → ClassId} {ad : Nat → Nat} (C : Cx p s m args c cX4_append RX4 3 D cA shC ad zsC) (hlocks : meth.locks = false) (hr : meth.sig.returnType = none) {Q : St → Prop} {a1 : Int} {σ : St} (h : wp_X4_append a1 Q σ) : G p l e rm_X4_append s m args below meth c 0 0 3 D cA shC ad (QV D cA shC ad zsC below args s Q) σ [(0, .ref (ad 1)), (1, vI a1)] [] 0 := by
  unfold wp_X4_append at h
  refine g_bipush C dX4_append_0 (by decide) ?_
  refine g_istore_n C 2 [(0, .ref (ad 1)), (1, vI a1)] rfl (by decide) rfl dX4_append_2 ?_
  obtain ⟨nn, h⟩ := h
  exact g_pick [1, 2, 0] rfl (m_X4_append_L3 C hlocks hr nn _ _ _ h)
set_option maxRecDepth 100000 in
set_option maxHeartbeats 4000000 in
theorem m_X4_append (l : Launch) (D : va_G) (cA : Nat → ClassId) (ad : Nat → Nat) {a1 : Int} {Q : St → Prop} {σ : St} (h : wp_X4_append a1 Q σ) : CtV l yX4_append (.code yX4_append cX4_append 3 none) rm_X4_append D cA shC ad zsC [.ref (ad 1), vI a1] σ Q :=
  ct_V RX4 (by decide +kernel) rfl (Nat.le_of_ble_eq_true rfl) (fun p e s m args below meth c C hlocks hr => m_X4_append_E C hlocks hr h)
