set_option maxRecDepth 100000 in
set_option maxHeartbeats 4000000 in
theorem m_X2_isSame_7_15 (l : Launch) (D : va_G) (cA : Nat → ClassId) (ad : Nat → Nat) {a1 a3 a4 : Int} {Q : Int → St → Prop} {σ : St} (h : wp_X2_isSame 7 15 384 32 96 a1 a3 a4 Q σ) : CtI l yX2_isSame (.code yX2_isSame cX2_isSame 6 (some .boolean)) rm_X2_isSame_7_15 D cA shC ad zsC [.ref (ad 7), vI a1, .ref (ad 15), vI a3, vI a4] σ Q :=
  ct_I RX2 (by decide +kernel) rfl (Nat.le_of_ble_eq_true rfl) (fun p e s m args below meth c C hlocks hr => m_X2_isSame_7_15_E C hlocks hr h)
abbrev rm_X2_find_7_15 : Room := { frames := 2, cells := 0, slots := 0, locals := 25 }
set_option maxRecDepth 100000 in
set_option maxHeartbeats 4000000 in
theorem m_X2_find_B44_7_15 {p : Program} {l : Launch} {e : Env} {s : State} {m : MethodId} {args : Array Value} {below : List Frame} {meth : Method} {c : Code} {D : va_G} {cA : Nat → ClassId} {ad : Nat → Nat} (C : Cx p s m args c cX2_find RX2 5 D cA shC ad zsC) (hlocks : meth.locks = false) (hr : meth.sig.returnType = (some .int)) {Q : Int → St → Prop} {K3 : Int → Int → Int → St → Prop} (hK3 : ∀ (x2 : Int) (x3 : Int) (x4 : Int) (σ : St), K3 x2 x3 x4 σ → G p l e rm_X2_find_7_15 s m args below meth c 0 0 5 D cA shC ad (QI D cA shC ad zsC below args s Q) σ [(0, .ref (ad 7)), (1, .ref (ad 15)), (2, vI x2), (3, vI x3), (4, vI x4)] [] 3) {x2 x3 x4 : Int} {σ : St} (h : wp_X2_find_B44 7 15 384 32 96 K3 x2 x3 x4 Q σ) : G p l e rm_X2_find_7_15 s m args below meth c 0 0 5 D cA shC ad (QI D cA shC ad zsC below args s Q) σ [(0, .ref (ad 7)), (1, .ref (ad 15)), (2, vI x2), (3, vI x3), (4, vI x4)] [] 44 := by
  unfold wp_X2_find_B44 at h
  refine g_iinc C 4 4 [(0, .ref (ad 7)), (1, .ref (ad 15)), (2, vI x2), (3, vI x3)] rfl (by decide) rfl dX2_find_44 (fun x_1 ex_1 => ?_)
  have h := h x_1 ex_1
  refine g_goto C 3 (by decide) dX2_find_47 ?_
  exact g_pick [1, 2, 3, 4, 0] rfl (hK3 _ _ _ _ h)
set_option maxRecDepth 100000 in
set_option maxHeartbeats 4000000 in
theorem m_X2_find_L3_7_15 {p : Program} {l : Launch} {e : Env} {s : State} {m : MethodId} {args : Array Value} {below : List Frame} {meth : Method} {c : Code} {D : va_G} {cA : Nat → ClassId} {ad : Nat → Nat} (C : Cx p s m args c cX2_find RX2 5 D cA shC ad zsC) (hlocks : meth.locks = false) (hr : meth.sig.returnType = (some .int)) {Q : Int → St → Prop} : ∀ (n : Nat) (x2 : Int) (x3 : Int) (x4 : Int) (σ : St), wp_X2_find_L3 7 15 384 32 96 Q n x2 x3 x4 σ → G p l e rm_X2_find_7_15 s m args below meth c 0 0 5 D cA shC ad (QI D cA shC ad zsC below args s Q) σ [(0, .ref (ad 7)), (1, .ref (ad 15)), (2, vI x2), (3, vI x3), (4, vI x4)] [] 3 := by
  intro n
  induction n with
  | zero => intro _ _ _ _ h; exact h.elim
  | succ n ih =>
    intro x2 x3 x4 σ h
    simp only [wp_X2_find_L3] at h
    refine g_iload C 4 4 rfl dX2_find_3 ?_
    refine g_aload_n C 0 0 rfl rfl dX2_find_5 ?_
    refine g_get C iX2 (ci := 2) (o := 7) (v := vI (σ 7 3)) rfl rfl 3 (by decide) rfl tw_X2_22 dX2_find_6 ?_
    refine g_icmp_ge C rfl rfl 50 (by decide) dX2_find_9 (fun hc => ?_) (fun hc => ?_)
    · have h := h.1 hc
      refine g_iconst C dX2_find_50 ?_
      exact g_iret C hlocks hr h dX2_find_51
    · have h := h.2 hc
      refine g_aload_n C 0 0 rfl rfl dX2_find_12 ?_
      refine g_get C iX2 (ci := 2) (o := 7) (v := .ref (ad 9)) rfl rfl 2 (by decide) rfl tw_X2_19 dX2_find_13 ?_
      refine g_iload C 4 4 rfl dX2_find_16 ?_
      obtain ⟨hi, h⟩ := h
      refine g_iald C (o := 9) (N := 32) rfl rfl hi rfl dX2_find_18 ?_
      refine g_iload_n C 3 3 rfl rfl dX2_find_19 ?_
      refine g_iload_n C 2 2 rfl rfl dX2_find_20 ?_
      refine g_isub C dX2_find_21 ?_
      refine g_icmp_ne C rfl rfl 44 (by decide) dX2_find_22 (fun hc => ?_) (fun hc => ?_)
      · have h := h.1 hc
        exact g_pick [0, 1, 2, 3, 4] rfl (m_X2_find_B44_7_15 C hlocks hr (fun _ _ _ _ h => ih _ _ _ _ h) h)
      · have h := h.2 hc
        refine g_aload_n C 0 0 rfl rfl dX2_find_25 ?_
        refine g_aload_n C 0 0 rfl rfl dX2_find_26 ?_
        refine g_iload C 4 4 rfl dX2_find_27 ?_
        refine g_callIv C (m_X2_begin_7 l D cA ad h) hv_X2_begin tw_X2_29 (o := 7) (ci := 2) (As := [vI x4]) (st := [.ref (ad 7)]) rfl rfl rfl rfl ⟨Nat.le_of_ble_eq_true rfl, Nat.le_of_ble_eq_true rfl⟩ rfl rfl (Nat.le_of_ble_eq_true rfl) dX2_find_29 (fun r2 σ1 h => ?_)
        try dsimp only at h
        refine g_aload_n C 1 1 rfl rfl dX2_find_32 ?_
        refine g_iload_n C 2 2 rfl rfl dX2_find_33 ?_
        refine g_iload_n C 3 3 rfl rfl dX2_find_34 ?_
        refine g_callIv C (m_X2_isSame_7_15 l D cA ad h) hv_X2_isSame tw_X2_39 (o := 7) (ci := 2) (As := [vI r2, .ref (ad 15), vI x2, vI x3]) (st := []) rfl rfl rfl rfl ⟨Nat.le_of_ble_eq_true rfl, Nat.le_of_ble_eq_true rfl⟩ rfl rfl (Nat.le_of_ble_eq_true rfl) dX2_find_35 (fun r4 σ3 h => ?_)
        try dsimp only at h
        refine g_if_eq C rfl 44 (by decide) dX2_find_38 (fun hc => ?_) (fun hc => ?_)
        · have h := h.1 hc
          exact g_pick [0, 1, 2, 3, 4] rfl (m_X2_find_B44_7_15 C hlocks hr (fun _ _ _ _ h => ih _ _ _ _ h) h)
        · have h := h.2 hc
          refine g_iload C 4 4 rfl dX2_find_41 ?_
          exact g_iret C hlocks hr h dX2_find_43
set_option maxRecDepth 100000 in
set_option maxHeartbeats 4000000 in
theorem m_X2_find_7_15_E {p : Program} {l : Launch} {e : Env} {s : State} {m : MethodId} {args : Array Value} {below : List Frame} {meth : Method} {c : Code} {D : va_G} {cA : Nat → ClassId} {ad : Nat → Nat} (C : Cx p s m args c cX2_find RX2 5 D cA shC ad zsC) (hlocks : meth.locks = false) (hr : meth.sig.returnType = (some .int)) {Q : Int → St → Prop} {a2 a3 : Int} {σ : St} (h : wp_X2_find 7 15 384 32 96 a2 a3 Q σ) : G p l e rm_X2_find_7_15 s m args below meth c 0 0 5 D cA shC ad (QI D cA shC ad zsC below args s Q) σ [(0, .ref (ad 7)), (1, .ref (ad 15)), (2, vI a2), (3, vI a3)] [] 0 := by
  unfold wp_X2_find at h
  refine g_iconst C dX2_find_0 ?_
  refine g_istore C 4 [(0, .ref (ad 7)), (1, .ref (ad 15)), (2, vI a2), (3, vI a3)] (by decide) rfl dX2_find_1 ?_
  obtain ⟨nn, h⟩ := h
  exact g_pick [1, 2, 3, 4, 0] rfl (m_X2_find_L3_7_15 C hlocks hr nn _ _ _ _ h)
set_option maxRecDepth 100000 in
set_option maxHeartbeats 4000000 in
theorem m_X2_find_7_15 (l : Launch) (D : va_G) (cA : Nat → ClassId) (ad : Nat → Nat) {a2 a3 : Int} {Q : Int → St → Prop} {σ : St} (h : wp_X2_find 7 15 384 32 96 a2 a3 Q σ) : CtI l yX2_find (.code yX2_find cX2_find 5 (some .int)) rm_X2_find_7_15 D cA shC ad zsC [.ref (ad 7), .ref (ad 15), vI a2, vI a3] σ Q :=
  ct_I RX2 (by decide +kernel) rfl (Nat.le_of_ble_eq_true rfl) (fun p e s m args below meth c C hlocks hr => m_X2_find_7_15_E C hlocks hr h)
abbrev rm_X0_hear : Room := { frames := 3, cells := 0, slots := 0, locals := 49 }
set_option maxRecDepth 100000 in
set_option maxHeartbeats 4000000 in
theorem m_X0_hear_L10 {p : Program} {l : Launch} {e : Env} {s : State} {m : MethodId} {args : Array Value} {below : List Frame} {meth : Method} {c : Code} {D : va_G} {cA : Nat → ClassId} {ad : Nat → Nat} (C : Cx p s m args c cX0_hear RX0 4 D cA shC ad zsC) (hlocks : meth.locks = false) (hr : meth.sig.returnType = none) {Q : St → Prop} : ∀ (n : Nat) (x2 : Int) (σ : St), wp_X0_hear_L10 Q n x2 σ → G p l e rm_X0_hear s m args below meth c 0 0 4 D cA shC ad (QV D cA shC ad zsC below args s Q) σ [(0, .ref (ad 17)), (1, .ref (ad 14)), (2, vI x2)] [] 10 := by
  intro n
  induction n with
  | zero => intro _ _ h; exact h.elim
  | succ n ih =>
    intro x2 σ h
    simp only [wp_X0_hear_L10] at h
    refine g_iload_n C 2 2 rfl rfl dX0_hear_10 ?_
    refine g_aload_n C 0 0 rfl rfl dX0_hear_11 ?_
    refine g_get C iX0 (ci := 0) (o := 17) (v := vI (σ 17 0)) rfl rfl 0 (by decide) rfl tw_X0_73 dX0_hear_12 ?_
    refine g_icmp_ge C rfl rfl 59 (by decide) dX0_hear_15 (fun hc => ?_) (fun hc => ?_)
    · have h := h.1 hc
      exact g_vret C hlocks hr h dX0_hear_59
    · have h := h.2 hc
      refine g_aload_n C 1 1 rfl rfl dX0_hear_18 ?_
      refine g_iload_n C 2 2 rfl rfl dX0_hear_19 ?_
      refine g_callIv C (m_X2_begin_14 l D cA ad h) hv_X2_begin tw_X0_89 (o := 14) (ci := 2) (As := [vI x2]) (st := []) rfl rfl rfl rfl ⟨Nat.le_of_ble_eq_true rfl, Nat.le_of_ble_eq_true rfl⟩ rfl rfl (Nat.le_of_ble_eq_true rfl) dX0_hear_20 (fun r2 σ1 h => ?_)
      try dsimp only at h
      refine g_istore_n C 3 [(0, .ref (ad 17)), (1, .ref (ad 14)), (2, vI x2)] rfl (by decide) rfl dX0_hear_23 ?_
      refine g_aload_n C 1 0 rfl rfl dX0_hear_24 ?_
      refine g_get C iX0 (ci := 0) (o := 17) (v := .ref (ad 18)) rfl rfl 2 (by decide) rfl tw_X0_9 dX0_hear_25 ?_
      refine g_iload_n C 3 2 rfl rfl dX0_hear_28 ?_
      refine g_aload_n C 1 0 rfl rfl dX0_hear_29 ?_
      refine g_get C iX0 (ci := 0) (o := 17) (v := .ref (ad 3)) rfl rfl 1 (by decide) rfl tw_X0_31 dX0_hear_30 ?_
      refine g_get C iX1 (ci := 1) (o := 3) (v := .ref (ad 7)) rfl rfl 1 (by decide) rfl tw_X0_92 dX0_hear_33 ?_
      refine g_aload_n C 2 1 rfl rfl dX0_hear_36 ?_
      refine g_get C iX2 (ci := 2) (o := 14) (v := .ref (ad 15)) rfl rfl 1 (by decide) rfl tw_X0_96 dX0_hear_37 ?_
      refine g_iload_n C 0 3 rfl rfl dX0_hear_40 ?_
      refine g_iload_n C 0 3 rfl rfl dX0_hear_41 ?_
      refine g_aload_n C 2 1 rfl rfl dX0_hear_42 ?_
      refine g_get C iX2 (ci := 2) (o := 14) (v := .ref (ad 16)) rfl rfl 2 (by decide) rfl tw_X0_99 dX0_hear_43 ?_
      refine g_iload_n C 3 2 rfl rfl dX0_hear_46 ?_
      obtain ⟨hi, h⟩ := h
      refine g_iald C (o := 16) (N := 8) rfl rfl hi rfl dX0_hear_47 ?_
      refine g_iadd C dX0_hear_48 ?_
      refine g_callIv C (m_X2_find_7_15 l D cA ad h) hv_X2_find tw_X0_102 (o := 7) (ci := 2) (As := [.ref (ad 15), vI r2, vI (r2 + (σ1 16 (w32 x2).toNat))]) (st := [vI x2, .ref (ad 18)]) rfl rfl rfl rfl ⟨Nat.le_of_ble_eq_true rfl, Nat.le_of_ble_eq_true rfl⟩ rfl rfl (Nat.le_of_ble_eq_true rfl) dX0_hear_49 (fun r4 σ3 h => ?_)
      try dsimp only at h
      obtain ⟨hi, h⟩ := h
      refine g_iast C (o := 18) (N := 8) rfl rfl hi rfl dX0_hear_52 (fun σ5 eσ5 => ?_)
      have h := h σ5 eσ5
      refine g_iinc C 3 2 [(3, vI r2), (0, .ref (ad 17)), (1, .ref (ad 14))] rfl (by decide) rfl dX0_hear_53 (fun x_6 ex_6 => ?_)
      have h := h x_6 ex_6
      refine g_goto C 10 (by decide) dX0_hear_56 ?_
      exact g_pick [2, 3, 0] rfl (ih _ _ h)
set_option maxRecDepth 100000 in
set_option maxHeartbeats 4000000 in
theorem m_X0_hear_E {p : Program} {l : Launch} {e : Env} {s : State} {m : MethodId} {args : Array Value} {below : List Frame} {meth : Method} {c : Code} {D : va_G} {cA : Nat → ClassId} {ad : Nat → Nat} (C : Cx p s m args c cX0_hear RX0 4 D cA shC ad zsC) (hlocks : meth.locks = false) (hr : meth.sig.returnType = none) {Q : St → Prop} {σ : St} (h : wp_X0_hear Q σ) : G p l e rm_X0_hear s m args below meth c 0 0 4 D cA shC ad (QV D cA shC ad zsC below args s Q) σ [(0, .ref (ad 17)), (1, .ref (ad 14))] [] 0 := by
  unfold wp_X0_hear at h
  refine g_aload_n C 0 0 rfl rfl dX0_hear_0 ?_
  refine g_aload_n C 1 1 rfl rfl dX0_hear_1 ?_
  refine g_get C iX2 (ci := 2) (o := 14) (v := vI (σ 14 3)) rfl rfl 3 (by decide) rfl tw_X0_84 dX0_hear_2 ?_
  refine g_put C iX0 (ci := 0) (o := 17) (z := (σ 14 3)) (ty := .int) rfl tyX0_ok nmX0 rfl 0 (by decide) rfl rfl tw_X0_73 rfl (by decide +kernel) rfl rfl dX0_hear_5 (fun σ1 eσ1 => ?_)
  have h := h σ1 eσ1
  refine g_iconst C dX0_hear_8 ?_
  refine g_istore_n C 2 [(0, .ref (ad 17)), (1, .ref (ad 14))] rfl (by decide) rfl dX0_hear_9 ?_
  obtain ⟨nn, h⟩ := h
  exact g_pick [1, 2, 0] rfl (m_X0_hear_L10 C hlocks hr nn _ _ h)
set_option maxRecDepth 100000 in
set_option maxHeartbeats 4000000 in
theorem m_X0_hear (l : Launch) (D : va_G) (cA : Nat → ClassId) (ad : Nat → Nat) {Q : St → Prop} {σ : St} (h : wp_X0_hear Q σ) : CtV l yX0_hear (.code yX0_hear cX0_hear 4 none) rm_X0_hear D cA shC ad zsC [.ref (ad 17), .ref (ad 14)] σ Q :=
  ct_V RX0 (by decide +kernel) rfl (Nat.le_of_ble_eq_true rfl) (fun p e s m args below meth c C hlocks hr => m_X0_hear_E C hlocks hr h)
abbrev rm_J7_fill_53178_21 : Room := { frames := 1, cells := 0, slots := 0, locals := 0 }
set_option maxRecDepth 100000 in
set_option maxHeartbeats 4000000 in
theorem m_J7_fill_53178_L5_21 {p : Program} {l : Launch} {e : Env} {s : State} {m : MethodId} {args : Array Value} {below : List Frame} {meth : Method} {c : Code} {D : va_G} {cA : Nat → ClassId} {ad : Nat → Nat} (C : Cx p s m args c cJ7_fill_53178 RJ7 4 D cA shC ad zsC) (hlocks : meth.locks = false) (hr : meth.sig.returnType = none) {Q : St → Prop} : ∀ (n : Nat) (x1 : Int) (x2 : Int) (x3 : Int) (σ : St), wp_J7_fill_53178_L5 21 720 Q n x1 x2 x3 σ → G p l e rm_J7_fill_53178_21 s m args below meth c 0 0 4 D cA shC ad (QV D cA shC ad zsC below args s Q) σ [(0, .ref (ad 21)), (1, vI x1), (2, vI x2), (3, vI x3)] [] 5 := by
  intro n
  induction n with
  | zero => intro _ _ _ _ h; exact h.elim
  | succ n ih =>
    intro x1 x2 x3 σ h
    simp only [wp_J7_fill_53178_L5] at h
    refine g_iload_n C 2 2 rfl rfl dJ7_fill_53178_5 ?_
    refine g_iload_n C 3 3 rfl rfl dJ7_fill_53178_6 ?_
    refine g_icmp_ge C rfl rfl 20 (by decide) dJ7_fill_53178_7 (fun hc => ?_) (fun hc => ?_)
    · have h := h.1 hc
      exact g_vret C hlocks hr h dJ7_fill_53178_20
    · have h := h.2 hc
      refine g_aload_n C 0 0 rfl rfl dJ7_fill_53178_10 ?_
      refine g_iload_n C 2 2 rfl rfl dJ7_fill_53178_11 ?_
      refine g_iload_n C 1 1 rfl rfl dJ7_fill_53178_12 ?_
      obtain ⟨hi, h⟩ := h
      refine g_iast C (o := 21) (N := 720) rfl rfl hi rfl dJ7_fill_53178_13 (fun σ1 eσ1 => ?_)
      have h := h σ1 eσ1
      refine g_iinc C 2 2 [(0, .ref (ad 21)), (1, vI x1), (3, vI x3)] rfl (by decide) rfl dJ7_fill_53178_14 (fun x_2 ex_2 => ?_)
      have h := h x_2 ex_2
      refine g_goto C 5 (by decide) dJ7_fill_53178_17 ?_
      exact g_pick [1, 2, 0, 3] rfl (ih _ _ _ _ h)
set_option maxRecDepth 100000 in
set_option maxHeartbeats 4000000 in
theorem m_J7_fill_53178_21_E {p : Program} {l : Launch} {e : Env} {s : State} {m : MethodId} {args : Array Value} {below : List Frame} {meth : Method} {c : Code} {D : va_G} {cA : Nat → ClassId} {ad : Nat → Nat} (C : Cx p s m args c cJ7_fill_53178 RJ7 4 D cA shC ad zsC) (hlocks : meth.locks = false) (hr : meth.sig.returnType = none) {Q : St → Prop} {a1 : Int} {σ : St} (h : wp_J7_fill_53178 21 720 a1 Q σ) : G p l e rm_J7_fill_53178_21 s m args below meth c 0 0 4 D cA shC ad (QV D cA shC ad zsC below args s Q) σ [(0, .ref (ad 21)), (1, vI a1)] [] 0 := by
  unfold wp_J7_fill_53178 at h
  refine g_iconst C dJ7_fill_53178_0 ?_
  refine g_istore_n C 2 [(0, .ref (ad 21)), (1, vI a1)] rfl (by decide) rfl dJ7_fill_53178_1 ?_
  refine g_aload_n C 1 0 rfl rfl dJ7_fill_53178_2 ?_
  refine g_alen C (o := 21) (N := 720) rfl rfl dJ7_fill_53178_3 ?_
  refine g_istore_n C 3 [(2, vI 0), (0, .ref (ad 21)), (1, vI a1)] rfl (by decide) rfl dJ7_fill_53178_4 ?_
  obtain ⟨nn, h⟩ := h
  exact g_pick [2, 3, 1, 0] rfl (m_J7_fill_53178_L5_21 C hlocks hr nn _ _ _ _ h)
set_option maxRecDepth 100000 in
set_option maxHeartbeats 4000000 in
theorem m_J7_fill_53178_21 (l : Launch) (D : va_G) (cA : Nat → ClassId) (ad : Nat → Nat) {a1 : Int} {Q : St → Prop} {σ : St} (h : wp_J7_fill_53178 21 720 a1 Q σ) : CtV l yJ7_fill_53178 (.code yJ7_fill_53178 cJ7_fill_53178 4 none) rm_J7_fill_53178_21 D cA shC ad zsC [.ref (ad 21), vI a1] σ Q :=
  ct_V RJ7 (by decide +kernel) rfl (Nat.le_of_ble_eq_true rfl) (fun p e s m args below meth c C hlocks hr => m_J7_fill_53178_21_E C hlocks hr h)
abbrev rm_J7_fill_53178_22 : Room := { frames := 1, cells := 0, slots := 0, locals := 0 }
set_option maxRecDepth 100000 in
set_option maxHeartbeats 4000000 in
theorem m_J7_fill_53178_L5_22 {p : Program} {l : Launch} {e : Env} {s : State} {m : MethodId} {args : Array Value} {below : List Frame} {meth : Method} {c : Code} {D : va_G} {cA : Nat → ClassId} {ad : Nat → Nat} (C : Cx p s m args c cJ7_fill_53178 RJ7 4 D cA shC ad zsC) (hlocks : meth.locks = false) (hr : meth.sig.returnType = none) {Q : St → Prop} : ∀ (n : Nat) (x1 : Int) (x2 : Int) (x3 : Int) (σ : St), wp_J7_fill_53178_L5 22 5280 Q n x1 x2 x3 σ → G p l e rm_J7_fill_53178_22 s m args below meth c 0 0 4 D cA shC ad (QV D cA shC ad zsC below args s Q) σ [(0, .ref (ad 22)), (1, vI x1), (2, vI x2), (3, vI x3)] [] 5 := by
  intro n
  induction n with
  | zero => intro _ _ _ _ h; exact h.elim
  | succ n ih =>
    intro x1 x2 x3 σ h
    simp only [wp_J7_fill_53178_L5] at h
    refine g_iload_n C 2 2 rfl rfl dJ7_fill_53178_5 ?_
    refine g_iload_n C 3 3 rfl rfl dJ7_fill_53178_6 ?_
    refine g_icmp_ge C rfl rfl 20 (by decide) dJ7_fill_53178_7 (fun hc => ?_) (fun hc => ?_)
    · have h := h.1 hc
      exact g_vret C hlocks hr h dJ7_fill_53178_20
    · have h := h.2 hc
      refine g_aload_n C 0 0 rfl rfl dJ7_fill_53178_10 ?_
      refine g_iload_n C 2 2 rfl rfl dJ7_fill_53178_11 ?_
      refine g_iload_n C 1 1 rfl rfl dJ7_fill_53178_12 ?_
      obtain ⟨hi, h⟩ := h
      refine g_iast C (o := 22) (N := 5280) rfl rfl hi rfl dJ7_fill_53178_13 (fun σ1 eσ1 => ?_)
      have h := h σ1 eσ1
      refine g_iinc C 2 2 [(0, .ref (ad 22)), (1, vI x1), (3, vI x3)] rfl (by decide) rfl dJ7_fill_53178_14 (fun x_2 ex_2 => ?_)
      have h := h x_2 ex_2
      refine g_goto C 5 (by decide) dJ7_fill_53178_17 ?_
      exact g_pick [1, 2, 0, 3] rfl (ih _ _ _ _ h)
set_option maxRecDepth 100000 in
set_option maxHeartbeats 4000000 in
theorem m_J7_fill_53178_22_E {p : Program} {l : Launch} {e : Env} {s : State} {m : MethodId} {args : Array Value} {below : List Frame} {meth : Method} {c : Code} {D : va_G} {cA : Nat → ClassId} {ad : Nat → Nat} (C : Cx p s m args c cJ7_fill_53178 RJ7 4 D cA shC ad zsC) (hlocks : meth.locks = false) (hr : meth.sig.returnType = none) {Q : St → Prop} {a1 : Int} {σ : St} (h : wp_J7_fill_53178 22 5280 a1 Q σ) : G p l e rm_J7_fill_53178_22 s m args below meth c 0 0 4 D cA shC ad (QV D cA shC ad zsC below args s Q) σ [(0, .ref (ad 22)), (1, vI a1)] [] 0 := by
  unfold wp_J7_fill_53178 at h
  refine g_iconst C dJ7_fill_53178_0 ?_
  refine g_istore_n C 2 [(0, .ref (ad 22)), (1, vI a1)] rfl (by decide) rfl dJ7_fill_53178_1 ?_
  refine g_aload_n C 1 0 rfl rfl dJ7_fill_53178_2 ?_
  refine g_alen C (o := 22) (N := 5280) rfl rfl dJ7_fill_53178_3 ?_
  refine g_istore_n C 3 [(2, vI 0), (0, .ref (ad 22)), (1, vI a1)] rfl (by decide) rfl dJ7_fill_53178_4 ?_
  obtain ⟨nn, h⟩ := h
  exact g_pick [2, 3, 1, 0] rfl (m_J7_fill_53178_L5_22 C hlocks hr nn _ _ _ _ h)
set_option maxRecDepth 100000 in
set_option maxHeartbeats 4000000 in
theorem m_J7_fill_53178_22 (l : Launch) (D : va_G) (cA : Nat → ClassId) (ad : Nat → Nat) {a1 : Int} {Q : St → Prop} {σ : St} (h : wp_J7_fill_53178 22 5280 a1 Q σ) : CtV l yJ7_fill_53178 (.code yJ7_fill_53178 cJ7_fill_53178 4 none) rm_J7_fill_53178_22 D cA shC ad zsC [.ref (ad 22), vI a1] σ Q :=
  ct_V RJ7 (by decide +kernel) rfl (Nat.le_of_ble_eq_true rfl) (fun p e s m args below meth c C hlocks hr => m_J7_fill_53178_22_E C hlocks hr h)
abbrev rm_J7_fill_53178_29 : Room := { frames := 1, cells := 0, slots := 0, locals := 0 }
set_option maxRecDepth 100000 in
set_option maxHeartbeats 4000000 in
theorem m_J7_fill_53178_L5_29 {p : Program} {l : Launch} {e : Env} {s : State} {m : MethodId} {args : Array Value} {below : List Frame} {meth : Method} {c : Code} {D : va_G} {cA : Nat → ClassId} {ad : Nat → Nat} (C : Cx p s m args c cJ7_fill_53178 RJ7 4 D cA shC ad zsC) (hlocks : meth.locks = false) (hr : meth.sig.returnType = none) {Q : St → Prop} : ∀ (n : Nat) (x1 : Int) (x2 : Int) (x3 : Int) (σ : St), wp_J7_fill_53178_L5 29 16 Q n x1 x2 x3 σ → G p l e rm_J7_fill_53178_29 s m args below meth c 0 0 4 D cA shC ad (QV D cA shC ad zsC below args s Q) σ [(0, .ref (ad 29)), (1, vI x1), (2, vI x2), (3, vI x3)] [] 5 := by
  intro n
  induction n with
  | zero => intro _ _ _ _ h; exact h.elim
  | succ n ih =>
    intro x1 x2 x3 σ h
    simp only [wp_J7_fill_53178_L5] at h
    refine g_iload_n C 2 2 rfl rfl dJ7_fill_53178_5 ?_
    refine g_iload_n C 3 3 rfl rfl dJ7_fill_53178_6 ?_
    refine g_icmp_ge C rfl rfl 20 (by decide) dJ7_fill_53178_7 (fun hc => ?_) (fun hc => ?_)
    · have h := h.1 hc
      exact g_vret C hlocks hr h dJ7_fill_53178_20
    · have h := h.2 hc
      refine g_aload_n C 0 0 rfl rfl dJ7_fill_53178_10 ?_
      refine g_iload_n C 2 2 rfl rfl dJ7_fill_53178_11 ?_
      refine g_iload_n C 1 1 rfl rfl dJ7_fill_53178_12 ?_
      obtain ⟨hi, h⟩ := h
      refine g_iast C (o := 29) (N := 16) rfl rfl hi rfl dJ7_fill_53178_13 (fun σ1 eσ1 => ?_)
      have h := h σ1 eσ1
      refine g_iinc C 2 2 [(0, .ref (ad 29)), (1, vI x1), (3, vI x3)] rfl (by decide) rfl dJ7_fill_53178_14 (fun x_2 ex_2 => ?_)
      have h := h x_2 ex_2
      refine g_goto C 5 (by decide) dJ7_fill_53178_17 ?_
      exact g_pick [1, 2, 0, 3] rfl (ih _ _ _ _ h)
set_option maxRecDepth 100000 in
set_option maxHeartbeats 4000000 in
theorem m_J7_fill_53178_29_E {p : Program} {l : Launch} {e : Env} {s : State} {m : MethodId} {args : Array Value} {below : List Frame} {meth : Method} {c : Code} {D : va_G} {cA : Nat → ClassId} {ad : Nat → Nat} (C : Cx p s m args c cJ7_fill_53178 RJ7 4 D cA shC ad zsC) (hlocks : meth.locks = false) (hr : meth.sig.returnType = none) {Q : St → Prop} {a1 : Int} {σ : St} (h : wp_J7_fill_53178 29 16 a1 Q σ) : G p l e rm_J7_fill_53178_29 s m args below meth c 0 0 4 D cA shC ad (QV D cA shC ad zsC below args s Q) σ [(0, .ref (ad 29)), (1, vI a1)] [] 0 := by
  unfold wp_J7_fill_53178 at h
  refine g_iconst C dJ7_fill_53178_0 ?_
  refine g_istore_n C 2 [(0, .ref (ad 29)), (1, vI a1)] rfl (by decide) rfl dJ7_fill_53178_1 ?_
  refine g_aload_n C 1 0 rfl rfl dJ7_fill_53178_2 ?_
  refine g_alen C (o := 29) (N := 16) rfl rfl dJ7_fill_53178_3 ?_
  refine g_istore_n C 3 [(2, vI 0), (0, .ref (ad 29)), (1, vI a1)] rfl (by decide) rfl dJ7_fill_53178_4 ?_
  obtain ⟨nn, h⟩ := h
  exact g_pick [2, 3, 1, 0] rfl (m_J7_fill_53178_L5_29 C hlocks hr nn _ _ _ _ h)
set_option maxRecDepth 100000 in
set_option maxHeartbeats 4000000 in
theorem m_J7_fill_53178_29 (l : Launch) (D : va_G) (cA : Nat → ClassId) (ad : Nat → Nat) {a1 : Int} {Q : St → Prop} {σ : St} (h : wp_J7_fill_53178 29 16 a1 Q σ) : CtV l yJ7_fill_53178 (.code yJ7_fill_53178 cJ7_fill_53178 4 none) rm_J7_fill_53178_29 D cA shC ad zsC [.ref (ad 29), vI a1] σ Q :=
  ct_V RJ7 (by decide +kernel) rfl (Nat.le_of_ble_eq_true rfl) (fun p e s m args below meth c C hlocks hr => m_J7_fill_53178_29_E C hlocks hr h)
abbrev rm_X1_hasFoot : Room := { frames := 1, cells := 0, slots := 0, locals := 0 }
set_option maxRecDepth 100000 in
set_option maxHeartbeats 4000000 in
theorem m_X1_hasFoot_E {p : Program} {l : Launch} {e : Env} {s : State} {m : MethodId} {args : Array Value} {below : List Frame} {meth : Method} {c : Code} {D : va_G} {cA : Nat → ClassId} {ad : Nat → Nat} (C : Cx p s m args c cX1_hasFoot RX1 2 D cA shC ad zsC) (hlocks : meth.locks = false) (hr : meth.sig.returnType = (some .boolean)) {Q : Int → St → Prop} {a1 : Int} {σ : St} (h : wp_X1_hasFoot a1 Q σ) : G p l e rm_X1_hasFoot s m args below meth c 0 0 2 D cA shC ad (QI D cA shC ad zsC below args s Q) σ [(0, .ref (ad 3)), (1, vI a1)] [] 0 := by
  unfold wp_X1_hasFoot at h
  refine g_aload_n C 0 0 rfl rfl dX1_hasFoot_0 ?_
  refine g_get C iX1 (ci := 1) (o := 3) (v := .ref (ad 11)) rfl rfl 3 (by decide) rfl tw_X1_27 dX1_hasFoot_1 ?_
  refine g_iload_n C 1 1 rfl rfl dX1_hasFoot_4 ?_
  refine g_bipush C dX1_hasFoot_5 (by decide) ?_
  refine g_imul C dX1_hasFoot_7 ?_
  refine g_bipush C dX1_hasFoot_8 (by decide) ?_
  refine g_iadd C dX1_hasFoot_10 ?_
  obtain ⟨hi, h⟩ := h
  refine g_iald C (o := 11) (N := 2448) rfl rfl hi rfl dX1_hasFoot_11 ?_
  refine g_iconst C dX1_hasFoot_12 ?_
  refine g_icmp_ne C (y' := 1) rfl (by decide) 20 (by decide) dX1_hasFoot_13 (fun hc => ?_) (fun hc => ?_)
  · have h := h.1 hc
    refine g_iconst C dX1_hasFoot_20 ?_
    exact g_zret C hlocks hr (by decide) h dX1_hasFoot_21
  · have h := h.2 hc
    refine g_iconst C dX1_hasFoot_16 ?_
    refine g_goto C 21 (by decide) dX1_hasFoot_17 ?_
    exact g_zret C hlocks hr (by decide) h dX1_hasFoot_21
set_option maxRecDepth 100000 in
set_option maxHeartbeats 4000000 in
theorem m_X1_hasFoot (l : Launch) (D : va_G) (cA : Nat → ClassId) (ad : Nat → Nat) {a1 : Int} {Q : Int → St → Prop} {σ : St} (h : wp_X1_hasFoot a1 Q σ) : CtI l yX1_hasFoot (.code yX1_hasFoot cX1_hasFoot 2 (some .boolean)) rm_X1_hasFoot D cA shC ad zsC [.ref (ad 3), vI a1] σ Q :=
  ct_I RX1 (by decide +kernel) rfl (Nat.le_of_ble_eq_true rfl) (fun p e s m args below meth c C hlocks hr => m_X1_hasFoot_E C hlocks hr h)
abbrev rm_X1_isAuxiliary : Room := { frames := 2, cells := 0, slots := 0, locals := 21 }
set_option maxRecDepth 100000 in
set_option maxHeartbeats 4000000 in
theorem m_X1_isAuxiliary_E {p : Program} {l : Launch} {e : Env} {s : State} {m : MethodId} {args : Array Value} {below : List Frame} {meth : Method} {c : Code} {D : va_G} {cA : Nat → ClassId} {ad : Nat → Nat} (C : Cx p s m args c cX1_isAuxiliary RX1 2 D cA shC ad zsC) (hlocks : meth.locks = false) (hr : meth.sig.returnType = (some .boolean)) {Q : Int → St → Prop} {a1 : Int} {σ : St} (h : wp_X1_isAuxiliary a1 Q σ) : G p l e rm_X1_isAuxiliary s m args below meth c 0 0 2 D cA shC ad (QI D cA shC ad zsC below args s Q) σ [(0, .ref (ad 3)), (1, vI a1)] [] 0 := by
  unfold wp_X1_isAuxiliary at h
  refine g_aload_n C 0 0 rfl rfl dX1_isAuxiliary_0 ?_
  refine g_iload_n C 1 1 rfl rfl dX1_isAuxiliary_1 ?_
  refine g_iconst C dX1_isAuxiliary_2 ?_
  refine g_callIs C (m_X1_row l D cA ad h) hv_X1_row tw_X1_34 (As := [vI a1, vI 0]) (st := [.ref (ad 3)]) rfl rfl ⟨Nat.le_of_ble_eq_true rfl, Nat.le_of_ble_eq_true rfl⟩ rfl rfl (Nat.le_of_ble_eq_true rfl) dX1_isAuxiliary_3 (fun r2 σ1 h => ?_)
  try dsimp only at h
  refine g_callIv C (m_X1_hasFoot l D cA ad h) hv_X1_hasFoot tw_X1_37 (o := 3) (ci := 1) (As := [vI r2]) (st := []) rfl rfl rfl rfl ⟨Nat.le_of_ble_eq_true rfl, Nat.le_of_ble_eq_true rfl⟩ rfl rfl (Nat.le_of_ble_eq_true rfl) dX1_isAuxiliary_6 (fun r4 σ3 h => ?_)
  try dsimp only at h
  exact g_zret C hlocks hr h.1 h.2 dX1_isAuxiliary_9
set_option maxRecDepth 100000 in
set_option maxHeartbeats 4000000 in
theorem m_X1_isAuxiliary (l : Launch) (D : va_G) (cA : Nat → ClassId) (ad : Nat → Nat) {a1 : Int} {Q : Int → St → Prop} {σ : St} (h : wp_X1_isAuxiliary a1 Q σ) : CtI l yX1_isAuxiliary (.code yX1_isAuxiliary cX1_isAuxiliary 2 (some .boolean)) rm_X1_isAuxiliary D cA shC ad zsC [.ref (ad 3), vI a1] σ Q :=
  ct_I RX1 (by decide +kernel) rfl (Nat.le_of_ble_eq_true rfl) (fun p e s m args below meth c C hlocks hr => m_X1_isAuxiliary_E C hlocks hr h)
abbrev rm_X1_rootLabel : Room := { frames := 2, cells := 0, slots := 0, locals := 22 }
set_option maxRecDepth 100000 in
set_option maxHeartbeats 4000000 in
theorem m_X1_rootLabel_E {p : Program} {l : Launch} {e : Env} {s : State} {m : MethodId} {args : Array Value} {below : List Frame} {meth : Method} {c : Code} {D : va_G} {cA : Nat → ClassId} {ad : Nat → Nat} (C : Cx p s m args c cX1_rootLabel RX1 2 D cA shC ad zsC) (hlocks : meth.locks = false) (hr : meth.sig.returnType = (some .int)) {Q : Int → St → Prop} {a1 : Int} {σ : St} (h : wp_X1_rootLabel a1 Q σ) : G p l e rm_X1_rootLabel s m args below meth c 0 0 2 D cA shC ad (QI D cA shC ad zsC below args s Q) σ [(0, .ref (ad 3)), (1, vI a1)] [] 0 := by
  unfold wp_X1_rootLabel at h
  refine g_aload_n C 0 0 rfl rfl dX1_rootLabel_0 ?_
  refine g_iload_n C 1 1 rfl rfl dX1_rootLabel_1 ?_
  refine g_iconst C dX1_rootLabel_2 ?_
  refine g_callIs C (m_X1_row l D cA ad h) hv_X1_row tw_X1_34 (As := [vI a1, vI 0]) (st := [.ref (ad 3)]) rfl rfl ⟨Nat.le_of_ble_eq_true rfl, Nat.le_of_ble_eq_true rfl⟩ rfl rfl (Nat.le_of_ble_eq_true rfl) dX1_rootLabel_3 (fun r2 σ1 h => ?_)
  try dsimp only at h
  refine g_iconst C dX1_rootLabel_6 ?_
  refine g_callIv C (m_X1_cell l D cA ad h) hv_X1_cell tw_X1_30 (o := 3) (ci := 1) (As := [vI r2, vI 1]) (st := []) rfl rfl rfl rfl ⟨Nat.le_of_ble_eq_true rfl, Nat.le_of_ble_eq_true rfl⟩ rfl rfl (Nat.le_of_ble_eq_true rfl) dX1_rootLabel_7 (fun r4 σ3 h => ?_)
  try dsimp only at h
  exact g_iret C hlocks hr h dX1_rootLabel_10
set_option maxRecDepth 100000 in
set_option maxHeartbeats 4000000 in
theorem m_X1_rootLabel (l : Launch) (D : va_G) (cA : Nat → ClassId) (ad : Nat → Nat) {a1 : Int} {Q : Int → St → Prop} {σ : St} (h : wp_X1_rootLabel a1 Q σ) : CtI l yX1_rootLabel (.code yX1_rootLabel cX1_rootLabel 2 (some .int)) rm_X1_rootLabel D cA shC ad zsC [.ref (ad 3), vI a1] σ Q :=
  ct_I RX1 (by decide +kernel) rfl (Nat.le_of_ble_eq_true rfl) (fun p e s m args below meth c C hlocks hr => m_X1_rootLabel_E C hlocks hr h)
abbrev rm_X1_hasWord : Room := { frames := 2, cells := 0, slots := 0, locals := 22 }
set_option maxRecDepth 100000 in
set_option maxHeartbeats 4000000 in
theorem m_X1_hasWord_E {p : Program} {l : Launch} {e : Env} {s : State} {m : MethodId} {args : Array Value} {below : List Frame} {meth : Method} {c : Code} {D : va_G} {cA : Nat → ClassId} {ad : Nat → Nat} (C : Cx p s m args c cX1_hasWord RX1 3 D cA shC ad zsC) (hlocks : meth.locks = false) (hr : meth.sig.returnType = (some .boolean)) {Q : Int → St → Prop} {a1 a2 : Int} {σ : St} (h : wp_X1_hasWord a1 a2 Q σ) : G p l e rm_X1_hasWord s m args below meth c 0 0 3 D cA shC ad (QI D cA shC ad zsC below args s Q) σ [(0, .ref (ad 3)), (1, vI a1), (2, vI a2)] [] 0 := by
  unfold wp_X1_hasWord at h
  refine g_aload_n C 0 0 rfl rfl dX1_hasWord_0 ?_
  refine g_iload_n C 1 1 rfl rfl dX1_hasWord_1 ?_
  refine g_bipush C dX1_hasWord_2 (by decide) ?_
  refine g_iload_n C 2 2 rfl rfl dX1_hasWord_4 ?_
  refine g_iadd C dX1_hasWord_5 ?_
  refine g_callIv C (m_X1_cell l D cA ad h) hv_X1_cell tw_X1_30 (o := 3) (ci := 1) (As := [vI a1, vI (8 + a2)]) (st := []) rfl rfl rfl rfl ⟨Nat.le_of_ble_eq_true rfl, Nat.le_of_ble_eq_true rfl⟩ rfl rfl (Nat.le_of_ble_eq_true rfl) dX1_hasWord_6 (fun r2 σ1 h => ?_)
  try dsimp only at h
  refine g_if_le C rfl 16 (by decide) dX1_hasWord_9 (fun hc => ?_) (fun hc => ?_)
  · have h := h.1 hc
    refine g_iconst C dX1_hasWord_16 ?_
    exact g_zret C hlocks hr (by decide) h dX1_hasWord_17
  · have h := h.2 hc
    refine g_iconst C dX1_hasWord_12 ?_
    refine g_goto C 17 (by decide) dX1_hasWord_13 ?_
    exact g_zret C hlocks hr (by decide) h dX1_hasWord_17
set_option maxRecDepth 100000 in
set_option maxHeartbeats 4000000 in
theorem m_X1_hasWord (l : Launch) (D : va_G) (cA : Nat → ClassId) (ad : Nat → Nat) {a1 a2 : Int} {Q : Int → St → Prop} {σ : St} (h : wp_X1_hasWord a1 a2 Q σ) : CtI l yX1_hasWord (.code yX1_hasWord cX1_hasWord 3 (some .boolean)) rm_X1_hasWord D cA shC ad zsC [.ref (ad 3), vI a1, vI a2] σ Q :=
  ct_I RX1 (by decide +kernel) rfl (Nat.le_of_ble_eq_true rfl) (fun p e s m args below meth c C hlocks hr => m_X1_hasWord_E C hlocks hr h)
abbrev rm_X0_at : Room := { frames := 1, cells := 0, slots := 0, locals := 0 }
set_option maxRecDepth 100000 in
set_option maxHeartbeats 4000000 in
theorem m_X0_at_E {p : Program} {l : Launch} {e : Env} {s : State} {m : MethodId} {args : Array Value} {below : List Frame} {meth : Method} {c : Code} {D : va_G} {cA : Nat → ClassId} {ad : Nat → Nat} (C : Cx p s m args c cX0_at RX0 4 D cA shC ad zsC) (hlocks : meth.locks = false) (hr : meth.sig.returnType = (some .int)) {Q : Int → St → Prop} {a0 a1 a2 a3 : Int} {σ : St} (h : wp_X0_at a0 a1 a2 a3 Q σ) : G p l e rm_X0_at s m args below meth c 0 0 4 D cA shC ad (QI D cA shC ad zsC below args s Q) σ [(0, vI a0), (1, vI a1), (2, vI a2), (3, vI a3)] [] 0 := by
  unfold wp_X0_at at h
  refine g_iload_n C 2 2 rfl rfl dX0_at_0 ?_
  refine g_iconst C dX0_at_1 ?_
  refine g_icmp_ne C (y' := (-1)) rfl (by decide) 13 (by decide) dX0_at_2 (fun hc => ?_) (fun hc => ?_)
  · have h := h.1 hc
    refine g_iload_n C 0 0 rfl rfl dX0_at_13 ?_
    refine g_gets C (q := (RX0, "SECOND", 9, fun k => Int32.ofInt (zf0 k))) (List.mem_of_getElem? (i := 0) rfl) tw_X0_171 dX0_at_14 (fun b1 hXb1 hbb1 hAb1 => ?_)
    refine g_iload_n C 2 2 rfl rfl dX0_at_17 ?_
    obtain ⟨hi, h⟩ := h
    refine g_sald C hXb1 hbb1 hAb1 rfl hi rfl rfl dX0_at_18 ?_
    refine g_iadd C dX0_at_19 ?_
    refine g_gets C (q := (RX0, "THIRD", 9, fun k => Int32.ofInt (zf1 k))) (List.mem_of_getElem? (i := 1) rfl) tw_X0_174 dX0_at_20 (fun b2 hXb2 hbb2 hAb2 => ?_)
    refine g_iload_n C 3 3 rfl rfl dX0_at_23 ?_
    obtain ⟨hi, h⟩ := h
    refine g_sald C hXb2 hbb2 hAb2 rfl hi rfl rfl dX0_at_24 ?_
    refine g_iadd C dX0_at_25 ?_
    refine g_gets C (q := (RX0, "FOURTH", 9, fun k => Int32.ofInt (zf2 k))) (List.mem_of_getElem? (i := 2) rfl) tw_X0_177 dX0_at_26 (fun b3 hXb3 hbb3 hAb3 => ?_)
    refine g_iload_n C 1 1 rfl rfl dX0_at_29 ?_
    obtain ⟨hi, h⟩ := h
    refine g_sald C hXb3 hbb3 hAb3 rfl hi rfl rfl dX0_at_30 ?_
    refine g_iadd C dX0_at_31 ?_
    exact g_iret C hlocks hr h dX0_at_32
  · have h := h.2 hc
    refine g_iload_n C 0 0 rfl rfl dX0_at_5 ?_
    refine g_gets C (q := (RX0, "SECOND", 9, fun k => Int32.ofInt (zf0 k))) (List.mem_of_getElem? (i := 0) rfl) tw_X0_171 dX0_at_6 (fun b4 hXb4 hbb4 hAb4 => ?_)
    refine g_iload_n C 1 1 rfl rfl dX0_at_9 ?_
    obtain ⟨hi, h⟩ := h
    refine g_sald C hXb4 hbb4 hAb4 rfl hi rfl rfl dX0_at_10 ?_
    refine g_iadd C dX0_at_11 ?_
    exact g_iret C hlocks hr h dX0_at_12
set_option maxRecDepth 100000 in
set_option maxHeartbeats 4000000 in
theorem m_X0_at (l : Launch) (D : va_G) (cA : Nat → ClassId) (ad : Nat → Nat) {a0 a1 a2 a3 : Int} {Q : Int → St → Prop} {σ : St} (h : wp_X0_at a0 a1 a2 a3 Q σ) : CtI l yX0_at (.code yX0_at cX0_at 4 (some .int)) rm_X0_at D cA shC ad zsC [vI a0, vI a1, vI a2, vI a3] σ Q :=
  ct_I RX0 (by decide +kernel) rfl (Nat.le_of_ble_eq_true rfl) (fun p e s m args below meth c C hlocks hr => m_X0_at_E C hlocks hr h)
abbrev rm_X0_lastSplit : Room := { frames := 2, cells := 0, slots := 0, locals := 22 }
set_option maxRecDepth 100000 in
set_option maxHeartbeats 4000000 in
theorem m_X0_lastSplit_B27 {p : Program} {l : Launch} {e : Env} {s : State} {m : MethodId} {args : Array Value} {below : List Frame} {meth : Method} {c : Code} {D : va_G} {cA : Nat → ClassId} {ad : Nat → Nat} (C : Cx p s m args c cX0_lastSplit RX0 5 D cA shC ad zsC) (hlocks : meth.locks = false) (hr : meth.sig.returnType = (some .int)) {Q : Int → St → Prop} {x2 x4 : Int} {σ : St} (h : wp_X0_lastSplit_B27 x2 x4 Q σ) : G p l e rm_X0_lastSplit s m args below meth c 0 0 5 D cA shC ad (QI D cA shC ad zsC below args s Q) σ [(0, .ref (ad 17)), (2, vI x2), (4, vI x4)] [] 27 := by
  unfold wp_X0_lastSplit_B27 at h
  refine g_iload_n C 1 2 rfl rfl dX0_lastSplit_27 ?_
  refine g_aload_n C 0 0 rfl rfl dX0_lastSplit_28 ?_
  refine g_get C iX0 (ci := 0) (o := 17) (v := .ref (ad 3)) rfl rfl 1 (by decide) rfl tw_X0_31 dX0_lastSplit_29 ?_
  refine g_iload C 2 4 rfl dX0_lastSplit_32 ?_
  refine g_bipush C dX0_lastSplit_34 (by decide) ?_
  refine g_callIv C (m_X1_cell l D cA ad h) hv_X1_cell tw_X0_48 (o := 3) (ci := 1) (As := [vI x4, vI 10]) (st := [vI x2]) rfl rfl rfl rfl ⟨Nat.le_of_ble_eq_true rfl, Nat.le_of_ble_eq_true rfl⟩ rfl rfl (Nat.le_of_ble_eq_true rfl) dX0_lastSplit_36 (fun r2 σ1 h => ?_)
  try dsimp only at h
  refine g_isub C dX0_lastSplit_39 ?_
  refine g_goto C 44 (by decide) dX0_lastSplit_40 ?_
  exact g_iret C hlocks hr h dX0_lastSplit_44
set_option maxRecDepth 100000 in
set_option maxHeartbeats 4000000 in
theorem m_X0_lastSplit_E {p : Program} {l : Launch} {e : Env} {s : State} {m : MethodId} {args : Array Value} {below : List Frame} {meth : Method} {c : Code} {D : va_G} {cA : Nat → ClassId} {ad : Nat → Nat} (C : Cx p s m args c cX0_lastSplit RX0 5 D cA shC ad zsC) (hlocks : meth.locks = false) (hr : meth.sig.returnType = (some .int)) {Q : Int → St → Prop} {a1 a2 a3 : Int} {σ : St} (h : wp_X0_lastSplit a1 a2 a3 Q σ) : G p l e rm_X0_lastSplit s m args below meth c 0 0 5 D cA shC ad (QI D cA shC ad zsC below args s Q) σ [(0, .ref (ad 17)), (1, vI a1), (2, vI a2), (3, vI a3)] [] 0 := by
  unfold wp_X0_lastSplit at h
  refine g_aload_n C 0 0 rfl rfl dX0_lastSplit_0 ?_
  refine g_get C iX0 (ci := 0) (o := 17) (v := .ref (ad 3)) rfl rfl 1 (by decide) rfl tw_X0_31 dX0_lastSplit_1 ?_
  refine g_iload_n C 1 1 rfl rfl dX0_lastSplit_4 ?_
  refine g_iconst C dX0_lastSplit_5 ?_
  refine g_callIv C (m_X1_cell l D cA ad h) hv_X1_cell tw_X0_48 (o := 3) (ci := 1) (As := [vI a1, vI 5]) (st := []) rfl rfl rfl rfl ⟨Nat.le_of_ble_eq_true rfl, Nat.le_of_ble_eq_true rfl⟩ rfl rfl (Nat.le_of_ble_eq_true rfl) dX0_lastSplit_6 (fun r2 σ1 h => ?_)
  try dsimp only at h
  refine g_istore C 4 [(0, .ref (ad 17)), (1, vI a1), (2, vI a2), (3, vI a3)] (by decide) rfl dX0_lastSplit_9 ?_
  refine g_aload_n C 1 0 rfl rfl dX0_lastSplit_11 ?_
  refine g_get C iX0 (ci := 0) (o := 17) (v := .ref (ad 3)) rfl rfl 1 (by decide) rfl tw_X0_31 dX0_lastSplit_12 ?_
  refine g_iload_n C 2 1 rfl rfl dX0_lastSplit_15 ?_
  refine g_callIv C (m_X1_hasFoot l D cA ad h) hv_X1_hasFoot tw_X0_42 (o := 3) (ci := 1) (As := [vI a1]) (st := []) rfl rfl rfl rfl ⟨Nat.le_of_ble_eq_true rfl, Nat.le_of_ble_eq_true rfl⟩ rfl rfl (Nat.le_of_ble_eq_true rfl) dX0_lastSplit_16 (fun r4 σ3 h => ?_)
  try dsimp only at h
  refine g_if_ne C rfl 27 (by decide) dX0_lastSplit_19 (fun hc => ?_) (fun hc => ?_)
  · have h := h.1 hc
    exact g_pick [1, 3, 0] rfl (m_X0_lastSplit_B27 C hlocks hr h)
  · have h := h.2 hc
    refine g_iload_n C 4 3 rfl rfl dX0_lastSplit_22 ?_
    refine g_iconst C dX0_lastSplit_23 ?_
    refine g_icmp_ne C (y' := (-1)) rfl (by decide) 43 (by decide) dX0_lastSplit_24 (fun hc => ?_) (fun hc => ?_)
    · have h := h.1 hc
      refine g_iload_n C 4 3 rfl rfl dX0_lastSplit_43 ?_
      exact g_iret C hlocks hr h dX0_lastSplit_44
    · have h := h.2 hc
      exact g_pick [1, 3, 0] rfl (m_X0_lastSplit_B27 C hlocks hr h)
set_option maxRecDepth 100000 in
set_option maxHeartbeats 4000000 in
theorem m_X0_lastSplit (l : Launch) (D : va_G) (cA : Nat → ClassId) (ad : Nat → Nat) {a1 a2 a3 : Int} {Q : Int → St → Prop} {σ : St} (h : wp_X0_lastSplit a1 a2 a3 Q σ) : CtI l yX0_lastSplit (.code yX0_lastSplit cX0_lastSplit 5 (some .int)) rm_X0_lastSplit D cA shC ad zsC [.ref (ad 17), vI a1, vI a2, vI a3] σ Q :=
  ct_I RX0 (by decide +kernel) rfl (Nat.le_of_ble_eq_true rfl) (fun p e s m args below meth c C hlocks hr => m_X0_lastSplit_E C hlocks hr h)
abbrev rm_X0_firstSplit : Room := { frames := 2, cells := 0, slots := 0, locals := 22 }
set_option maxRecDepth 100000 in
set_option maxHeartbeats 4000000 in
theorem m_X0_firstSplit_E {p : Program} {l : Launch} {e : Env} {s : State} {m : MethodId} {args : Array Value} {below : List Frame} {meth : Method} {c : Code} {D : va_G} {cA : Nat → ClassId} {ad : Nat → Nat} (C : Cx p s m args c cX0_firstSplit RX0 4 D cA shC ad zsC) (hlocks : meth.locks = false) (hr : meth.sig.returnType = (some .int)) {Q : Int → St → Prop} {a1 a2 a3 : Int} {σ : St} (h : wp_X0_firstSplit a1 a2 a3 Q σ) : G p l e rm_X0_firstSplit s m args below meth c 0 0 4 D cA shC ad (QI D cA shC ad zsC below args s Q) σ [(0, .ref (ad 17)), (1, vI a1), (2, vI a2), (3, vI a3)] [] 0 := by
  unfold wp_X0_firstSplit at h
  refine g_aload_n C 0 0 rfl rfl dX0_firstSplit_0 ?_
  refine g_get C iX0 (ci := 0) (o := 17) (v := .ref (ad 3)) rfl rfl 1 (by decide) rfl tw_X0_31 dX0_firstSplit_1 ?_
  refine g_iload_n C 1 1 rfl rfl dX0_firstSplit_4 ?_
  refine g_callIv C (m_X1_hasFoot l D cA ad h) hv_X1_hasFoot tw_X0_42 (o := 3) (ci := 1) (As := [vI a1]) (st := []) rfl rfl rfl rfl ⟨Nat.le_of_ble_eq_true rfl, Nat.le_of_ble_eq_true rfl⟩ rfl rfl (Nat.le_of_ble_eq_true rfl) dX0_firstSplit_5 (fun r2 σ1 h => ?_)
  try dsimp only at h
  refine g_if_eq C rfl 15 (by decide) dX0_firstSplit_8 (fun hc => ?_) (fun hc => ?_)
  · have h := h.1 hc
    refine g_iload_n C 2 2 rfl rfl dX0_firstSplit_15 ?_
    refine g_aload_n C 0 0 rfl rfl dX0_firstSplit_16 ?_
    refine g_get C iX0 (ci := 0) (o := 17) (v := .ref (ad 3)) rfl rfl 1 (by decide) rfl tw_X0_31 dX0_firstSplit_17 ?_
    refine g_iload_n C 1 1 rfl rfl dX0_firstSplit_20 ?_
    refine g_bipush C dX0_firstSplit_21 (by decide) ?_
    refine g_callIv C (m_X1_cell l D cA ad h) hv_X1_cell tw_X0_48 (o := 3) (ci := 1) (As := [vI a1, vI 7]) (st := [vI a2]) rfl rfl rfl rfl ⟨Nat.le_of_ble_eq_true rfl, Nat.le_of_ble_eq_true rfl⟩ rfl rfl (Nat.le_of_ble_eq_true rfl) dX0_firstSplit_23 (fun r4 σ3 h => ?_)
    try dsimp only at h
    refine g_iadd C dX0_firstSplit_26 ?_
    exact g_iret C hlocks hr h dX0_firstSplit_27
  · have h := h.2 hc
    refine g_iload_n C 3 3 rfl rfl dX0_firstSplit_11 ?_
    refine g_goto C 27 (by decide) dX0_firstSplit_12 ?_
    exact g_iret C hlocks hr h dX0_firstSplit_27
set_option maxRecDepth 100000 in
set_option maxHeartbeats 4000000 in
theorem m_X0_firstSplit (l : Launch) (D : va_G) (cA : Nat → ClassId) (ad : Nat → Nat) {a1 a2 a3 : Int} {Q : Int → St → Prop} {σ : St} (h : wp_X0_firstSplit a1 a2 a3 Q σ) : CtI l yX0_firstSplit (.code yX0_firstSplit cX0_firstSplit 4 (some .int)) rm_X0_firstSplit D cA shC ad zsC [.ref (ad 17), vI a1, vI a2, vI a3] σ Q :=
  ct_I RX0 (by decide +kernel) rfl (Nat.le_of_ble_eq_true rfl) (fun p e s m args below meth c C hlocks hr => m_X0_firstSplit_E C hlocks hr h)
abbrev rm_X0_nodeWays : Room := { frames := 2, cells := 0, slots := 0, locals := 23 }
set_option maxRecDepth 100000 in
set_option maxHeartbeats 4000000 in
theorem m_X0_nodeWays_E {p : Program} {l : Launch} {e : Env} {s : State} {m : MethodId} {args : Array Value} {below : List Frame} {meth : Method} {c : Code} {D : va_G} {cA : Nat → ClassId} {ad : Nat → Nat} (C : Cx p s m args c cX0_nodeWays RX0 6 D cA shC ad zsC) (hlocks : meth.locks = false) (hr : meth.sig.returnType = (some .int)) {Q : Int → St → Prop} {a1 a2 a3 a4 a5 : Int} {σ : St} (h : wp_X0_nodeWays a1 a2 a3 a4 a5 Q σ) : G p l e rm_X0_nodeWays s m args below meth c 0 0 6 D cA shC ad (QI D cA shC ad zsC below args s Q) σ [(0, .ref (ad 17)), (1, vI a1), (2, vI a2), (3, vI a3), (4, vI a4), (5, vI a5)] [] 0 := by
  unfold wp_X0_nodeWays at h
  refine g_aload_n C 0 0 rfl rfl dX0_nodeWays_0 ?_
  refine g_get C iX0 (ci := 0) (o := 17) (v := .ref (ad 19)) rfl rfl 3 (by decide) rfl tw_X0_16 dX0_nodeWays_1 ?_
  refine g_iload_n C 1 1 rfl rfl dX0_nodeWays_4 ?_
  refine g_sipush C dX0_nodeWays_5 (by decide) ?_
  refine g_imul C dX0_nodeWays_8 ?_
  refine g_iload_n C 2 2 rfl rfl dX0_nodeWays_9 ?_
  refine g_iload_n C 3 3 rfl rfl dX0_nodeWays_10 ?_
  refine g_iload C 4 4 rfl dX0_nodeWays_11 ?_
  refine g_iload C 5 5 rfl dX0_nodeWays_13 ?_
  refine g_callIs C (m_X0_at l D cA ad h) hv_X0_at tw_X0_38 (As := [vI a2, vI a3, vI a4, vI a5]) (st := [vI (a1 * 330), .ref (ad 19)]) rfl rfl ⟨Nat.le_of_ble_eq_true rfl, Nat.le_of_ble_eq_true rfl⟩ rfl rfl (Nat.le_of_ble_eq_true rfl) dX0_nodeWays_15 (fun r2 σ1 h => ?_)
  try dsimp only at h
  refine g_iadd C dX0_nodeWays_18 ?_
  obtain ⟨hi, h⟩ := h
  refine g_iald C (o := 19) (N := 63360) rfl rfl hi rfl dX0_nodeWays_19 ?_
  exact g_iret C hlocks hr h dX0_nodeWays_20
set_option maxRecDepth 100000 in
set_option maxHeartbeats 4000000 in
theorem m_X0_nodeWays (l : Launch) (D : va_G) (cA : Nat → ClassId) (ad : Nat → Nat) {a1 a2 a3 a4 a5 : Int} {Q : Int → St → Prop} {σ : St} (h : wp_X0_nodeWays a1 a2 a3 a4 a5 Q σ) : CtI l yX0_nodeWays (.code yX0_nodeWays cX0_nodeWays 6 (some .int)) rm_X0_nodeWays D cA shC ad zsC [.ref (ad 17), vI a1, vI a2, vI a3, vI a4, vI a5] σ Q :=
  ct_I RX0 (by decide +kernel) rfl (Nat.le_of_ble_eq_true rfl) (fun p e s m args below meth c C hlocks hr => m_X0_nodeWays_E C hlocks hr h)
abbrev rm_X0_headWays : Room := { frames := 2, cells := 0, slots := 0, locals := 23 }
set_option maxRecDepth 100000 in
set_option maxHeartbeats 4000000 in
theorem m_X0_headWays_B43 {p : Program} {l : Launch} {e : Env} {s : State} {m : MethodId} {args : Array Value} {below : List Frame} {meth : Method} {c : Code} {D : va_G} {cA : Nat → ClassId} {ad : Nat → Nat} (C : Cx p s m args c cX0_headWays RX0 7 D cA shC ad zsC) (hlocks : meth.locks = false) (hr : meth.sig.returnType = (some .int)) {Q : Int → St → Prop} {y1 y2 y3 y4 y5 : Int} {σ : St} (h : wp_X0_headWays_B43 y1 y2 y3 y4 y5 Q σ) : G p l e rm_X0_headWays s m args below meth c 0 0 7 D cA shC ad (QI D cA shC ad zsC below args s Q) σ [] [vI y5, vI y4, vI y3, vI y2, vI y1, .ref (ad 19)] 43 := by
  unfold wp_X0_headWays_B43 at h
  refine g_callIs C (m_X0_at l D cA ad h) hv_X0_at tw_X0_38 (As := [vI y2, vI y3, vI y4, vI y5]) (st := [vI y1, .ref (ad 19)]) rfl rfl ⟨Nat.le_of_ble_eq_true rfl, Nat.le_of_ble_eq_true rfl⟩ rfl rfl (Nat.le_of_ble_eq_true rfl) dX0_headWays_43 (fun r2 σ1 h => ?_)
  try dsimp only at h
  refine g_iadd C dX0_headWays_46 ?_
  obtain ⟨hi, h⟩ := h
  refine g_iald C (o := 19) (N := 63360) rfl rfl hi rfl dX0_headWays_47 ?_
  exact g_iret C hlocks hr h dX0_headWays_48
set_option maxRecDepth 100000 in
set_option maxHeartbeats 4000000 in
theorem m_X0_headWays_B32 {p : Program} {l : Launch} {e : Env} {s : State} {m : MethodId} {args : Array Value} {below : List Frame} {meth : Method} {c : Code} {D : va_G} {cA : Nat → ClassId} {ad : Nat → Nat} (C : Cx p s m args c cX0_headWays RX0 7 D cA shC ad zsC) (hlocks : meth.locks = false) (hr : meth.sig.returnType = (some .int)) {Q : Int → St → Prop} {x5 x6 y1 y2 y3 y4 : Int} {σ : St} (h : wp_X0_headWays_B32 x5 x6 y1 y2 y3 y4 Q σ) : G p l e rm_X0_headWays s m args below meth c 0 0 7 D cA shC ad (QI D cA shC ad zsC below args s Q) σ [(5, vI x5), (6, vI x6)] [vI y4, vI y3, vI y2, vI y1, .ref (ad 19)] 32 := by
  unfold wp_X0_headWays_B32 at h
  refine g_iload C 1 6 rfl dX0_headWays_32 ?_
  refine g_if_eq C rfl 42 (by decide) dX0_headWays_34 (fun hc => ?_) (fun hc => ?_)
  · have h := h.1 hc
    refine g_iconst C dX0_headWays_42 ?_
    exact g_pick [] rfl (m_X0_headWays_B43 C hlocks hr h)
  · have h := h.2 hc
    refine g_iload C 0 5 rfl dX0_headWays_37 ?_
    refine g_goto C 43 (by decide) dX0_headWays_39 ?_
    exact g_pick [] rfl (m_X0_headWays_B43 C hlocks hr h)
set_option maxRecDepth 100000 in
set_option maxHeartbeats 4000000 in
theorem m_X0_headWays_E {p : Program} {l : Launch} {e : Env} {s : State} {m : MethodId} {args : Array Value} {below : List Frame} {meth : Method} {c : Code} {D : va_G} {cA : Nat → ClassId} {ad : Nat → Nat} (C : Cx p s m args c cX0_headWays RX0 7 D cA shC ad zsC) (hlocks : meth.locks = false) (hr : meth.sig.returnType = (some .int)) {Q : Int → St → Prop} {a1 a2 a3 a4 a5 : Int} {σ : St} (h : wp_X0_headWays a1 a2 a3 a4 a5 Q σ) : G p l e rm_X0_headWays s m args below meth c 0 0 7 D cA shC ad (QI D cA shC ad zsC below args s Q) σ [(0, .ref (ad 17)), (1, vI a1), (2, vI a2), (3, vI a3), (4, vI a4), (5, vI a5)] [] 0 := by
  unfold wp_X0_headWays at h
  refine g_aload_n C 0 0 rfl rfl dX0_headWays_0 ?_
  refine g_get C iX0 (ci := 0) (o := 17) (v := .ref (ad 3)) rfl rfl 1 (by decide) rfl tw_X0_31 dX0_headWays_1 ?_
  refine g_iload_n C 1 1 rfl rfl dX0_headWays_4 ?_
  refine g_callIv C (m_X1_hasFoot l D cA ad h) hv_X1_hasFoot tw_X0_42 (o := 3) (ci := 1) (As := [vI a1]) (st := []) rfl rfl rfl rfl ⟨Nat.le_of_ble_eq_true rfl, Nat.le_of_ble_eq_true rfl⟩ rfl rfl (Nat.le_of_ble_eq_true rfl) dX0_headWays_5 (fun r2 σ1 h => ?_)
  try dsimp only at h
  refine g_istore C 6 [(0, .ref (ad 17)), (1, vI a1), (2, vI a2), (3, vI a3), (4, vI a4), (5, vI a5)] (by decide) rfl dX0_headWays_8 ?_
  refine g_aload_n C 1 0 rfl rfl dX0_headWays_10 ?_
  refine g_get C iX0 (ci := 0) (o := 17) (v := .ref (ad 19)) rfl rfl 3 (by decide) rfl tw_X0_16 dX0_headWays_11 ?_
  refine g_iload_n C 2 1 rfl rfl dX0_headWays_14 ?_
  refine g_sipush C dX0_headWays_15 (by decide) ?_
  refine g_imul C dX0_headWays_18 ?_
  refine g_iload_n C 3 2 rfl rfl dX0_headWays_19 ?_
  refine g_iload_n C 4 3 rfl rfl dX0_headWays_20 ?_
  refine g_iload C 0 6 rfl dX0_headWays_21 ?_
  refine g_if_eq C rfl 31 (by decide) dX0_headWays_23 (fun hc => ?_) (fun hc => ?_)
  · have h := h.1 hc
    refine g_iconst C dX0_headWays_31 ?_
    exact g_pick [6, 0] rfl (m_X0_headWays_B32 C hlocks hr h)
  · have h := h.2 hc
    refine g_iload C 5 4 rfl dX0_headWays_26 ?_
    refine g_goto C 32 (by decide) dX0_headWays_28 ?_
    exact g_pick [6, 0] rfl (m_X0_headWays_B32 C hlocks hr h)
set_option maxRecDepth 100000 in
set_option maxHeartbeats 4000000 in
theorem m_X0_headWays (l : Launch) (D : va_G) (cA : Nat → ClassId) (ad : Nat → Nat) {a1 a2 a3 a4 a5 : Int} {Q : Int → St → Prop} {σ : St} (h : wp_X0_headWays a1 a2 a3 a4 a5 Q σ) : CtI l yX0_headWays (.code yX0_headWays cX0_headWays 7 (some .int)) rm_X0_headWays D cA shC ad zsC [.ref (ad 17), vI a1, vI a2, vI a3, vI a4, vI a5] σ Q :=
  ct_I RX0 (by decide +kernel) rfl (Nat.le_of_ble_eq_true rfl) (fun p e s m args below meth c C hlocks hr => m_X0_headWays_E C hlocks hr h)
abbrev rm_X0_tailWays : Room := { frames := 2, cells := 0, slots := 0, locals := 23 }
set_option maxRecDepth 100000 in
set_option maxHeartbeats 4000000 in
theorem m_X0_tailWays_B63 {p : Program} {l : Launch} {e : Env} {s : State} {m : MethodId} {args : Array Value} {below : List Frame} {meth : Method} {c : Code} {D : va_G} {cA : Nat → ClassId} {ad : Nat → Nat} (C : Cx p s m args c cX0_tailWays RX0 8 D cA shC ad zsC) (hlocks : meth.locks = false) (hr : meth.sig.returnType = (some .int)) {Q : Int → St → Prop} {y1 y2 y3 y4 y5 : Int} {σ : St} (h : wp_X0_tailWays_B63 y1 y2 y3 y4 y5 Q σ) : G p l e rm_X0_tailWays s m args below meth c 0 0 8 D cA shC ad (QI D cA shC ad zsC below args s Q) σ [] [vI y5, vI y4, vI y3, vI y2, vI y1, .ref (ad 20)] 63 := by
  unfold wp_X0_tailWays_B63 at h
  refine g_callIs C (m_X0_at l D cA ad h) hv_X0_at tw_X0_38 (As := [vI y2, vI y3, vI y4, vI y5]) (st := [vI y1, .ref (ad 20)]) rfl rfl ⟨Nat.le_of_ble_eq_true rfl, Nat.le_of_ble_eq_true rfl⟩ rfl rfl (Nat.le_of_ble_eq_true rfl) dX0_tailWays_63 (fun r2 σ1 h => ?_)
  try dsimp only at h
  refine g_iadd C dX0_tailWays_66 ?_
  obtain ⟨hi, h⟩ := h
  refine g_iald C (o := 20) (N := 63360) rfl rfl hi rfl dX0_tailWays_67 ?_
  exact g_iret C hlocks hr h dX0_tailWays_68
set_option maxRecDepth 100000 in
set_option maxHeartbeats 4000000 in
theorem m_X0_tailWays_B52 {p : Program} {l : Launch} {e : Env} {s : State} {m : MethodId} {args : Array Value} {below : List Frame} {meth : Method} {c : Code} {D : va_G} {cA : Nat → ClassId} {ad : Nat → Nat} (C : Cx p s m args c cX0_tailWays RX0 8 D cA shC ad zsC) (hlocks : meth.locks = false) (hr : meth.sig.returnType = (some .int)) {Q : Int → St → Prop} {x5 x6 y1 y2 y3 y4 : Int} {σ : St} (h : wp_X0_tailWays_B52 x5 x6 y1 y2 y3 y4 Q σ) : G p l e rm_X0_tailWays s m args below meth c 0 0 8 D cA shC ad (QI D cA shC ad zsC below args s Q) σ [(5, vI x5), (6, vI x6)] [vI y4, vI y3, vI y2, vI y1, .ref (ad 20)] 52 := by
  unfold wp_X0_tailWays_B52 at h
  refine g_iload C 1 6 rfl dX0_tailWays_52 ?_
  refine g_if_eq C rfl 62 (by decide) dX0_tailWays_54 (fun hc => ?_) (fun hc => ?_)
  · have h := h.1 hc
    refine g_iconst C dX0_tailWays_62 ?_
    exact g_pick [] rfl (m_X0_tailWays_B63 C hlocks hr h)
  · have h := h.2 hc
    refine g_iload C 0 5 rfl dX0_tailWays_57 ?_
    refine g_goto C 63 (by decide) dX0_tailWays_59 ?_
    exact g_pick [] rfl (m_X0_tailWays_B63 C hlocks hr h)
set_option maxRecDepth 100000 in
set_option maxHeartbeats 4000000 in
theorem m_X0_tailWays_B16 {p : Program} {l : Launch} {e : Env} {s : State} {m : MethodId} {args : Array Value} {below : List Frame} {meth : Method} {c : Code} {D : va_G} {cA : Nat → ClassId} {ad : Nat → Nat} (C : Cx p s m args c cX0_tailWays RX0 8 D cA shC ad zsC) (hlocks : meth.locks = false) (hr : meth.sig.returnType = (some .int)) {Q : Int → St → Prop} {x1 x2 x3 x4 x5 y0 : Int} {σ : St} (h : wp_X0_tailWays_B16 x1 x2 x3 x4 x5 y0 Q σ) : G p l e rm_X0_tailWays s m args below meth c 0 0 8 D cA shC ad (QI D cA shC ad zsC below args s Q) σ [(0, .ref (ad 17)), (1, vI x1), (2, vI x2), (3, vI x3), (4, vI x4), (5, vI x5)] [vI y0] 16 := by
  unfold wp_X0_tailWays_B16 at h
  refine g_istore C 6 [(0, .ref (ad 17)), (1, vI x1), (2, vI x2), (3, vI x3), (4, vI x4), (5, vI x5)] (by decide) rfl dX0_tailWays_16 ?_
  refine g_aload_n C 1 0 rfl rfl dX0_tailWays_18 ?_
  refine g_get C iX0 (ci := 0) (o := 17) (v := .ref (ad 3)) rfl rfl 1 (by decide) rfl tw_X0_31 dX0_tailWays_19 ?_
  refine g_iload_n C 2 1 rfl rfl dX0_tailWays_22 ?_
  refine g_iconst C dX0_tailWays_23 ?_
  refine g_callIv C (m_X1_cell l D cA ad h) hv_X1_cell tw_X0_48 (o := 3) (ci := 1) (As := [vI x1, vI 5]) (st := []) rfl rfl rfl rfl ⟨Nat.le_of_ble_eq_true rfl, Nat.le_of_ble_eq_true rfl⟩ rfl rfl (Nat.le_of_ble_eq_true rfl) dX0_tailWays_24 (fun r2 σ1 h => ?_)
  try dsimp only at h
  refine g_istore C 7 [(6, vI y0), (0, .ref (ad 17)), (1, vI x1), (2, vI x2), (3, vI x3), (4, vI x4), (5, vI x5)] (by decide) rfl dX0_tailWays_27 ?_
  refine g_aload_n C 2 0 rfl rfl dX0_tailWays_29 ?_
  refine g_get C iX0 (ci := 0) (o := 17) (v := .ref (ad 20)) rfl rfl 4 (by decide) rfl tw_X0_19 dX0_tailWays_30 ?_
  refine g_iload C 0 7 rfl dX0_tailWays_33 ?_
  refine g_sipush C dX0_tailWays_35 (by decide) ?_
  refine g_imul C dX0_tailWays_38 ?_
  refine g_iload_n C 4 2 rfl rfl dX0_tailWays_39 ?_
  refine g_iload_n C 5 3 rfl rfl dX0_tailWays_40 ?_
  refine g_iload C 1 6 rfl dX0_tailWays_41 ?_
  refine g_if_eq C rfl 51 (by decide) dX0_tailWays_43 (fun hc => ?_) (fun hc => ?_)
  · have h := h.1 hc
    refine g_iconst C dX0_tailWays_51 ?_
    exact g_pick [7, 1] rfl (m_X0_tailWays_B52 C hlocks hr h)
  · have h := h.2 hc
    refine g_iload C 6 4 rfl dX0_tailWays_46 ?_
    refine g_goto C 52 (by decide) dX0_tailWays_48 ?_
    exact g_pick [7, 1] rfl (m_X0_tailWays_B52 C hlocks hr h)
set_option maxRecDepth 100000 in
set_option maxHeartbeats 4000000 in
theorem m_X0_tailWays_E {p : Program} {l : Launch} {e : Env} {s : State} {m : MethodId} {args : Array Value} {below : List Frame} {meth : Method} {c : Code} {D : va_G} {cA : Nat → ClassId} {ad : Nat → Nat} (C : Cx p s m args c cX0_tailWays RX0 8 D cA shC ad zsC) (hlocks : meth.locks = false) (hr : meth.sig.returnType = (some .int)) {Q : Int → St → Prop} {a1 a2 a3 a4 a5 : Int} {σ : St} (h : wp_X0_tailWays a1 a2 a3 a4 a5 Q σ) : G p l e rm_X0_tailWays s m args below meth c 0 0 8 D cA shC ad (QI D cA shC ad zsC below args s Q) σ [(0, .ref (ad 17)), (1, vI a1), (2, vI a2), (3, vI a3), (4, vI a4), (5, vI a5)] [] 0 := by
  unfold wp_X0_tailWays at h
  refine g_aload_n C 0 0 rfl rfl dX0_tailWays_0 ?_
  refine g_get C iX0 (ci := 0) (o := 17) (v := .ref (ad 3)) rfl rfl 1 (by decide) rfl tw_X0_31 dX0_tailWays_1 ?_
  refine g_iload_n C 1 1 rfl rfl dX0_tailWays_4 ?_
  refine g_callIv C (m_X1_hasFoot l D cA ad h) hv_X1_hasFoot tw_X0_42 (o := 3) (ci := 1) (As := [vI a1]) (st := []) rfl rfl rfl rfl ⟨Nat.le_of_ble_eq_true rfl, Nat.le_of_ble_eq_true rfl⟩ rfl rfl (Nat.le_of_ble_eq_true rfl) dX0_tailWays_5 (fun r2 σ1 h => ?_)
  try dsimp only at h
  refine g_if_ne C rfl 15 (by decide) dX0_tailWays_8 (fun hc => ?_) (fun hc => ?_)
  · have h := h.1 hc
    refine g_iconst C dX0_tailWays_15 ?_
    exact g_pick [0, 1, 2, 3, 4, 5] rfl (m_X0_tailWays_B16 C hlocks hr h)
  · have h := h.2 hc
    refine g_iconst C dX0_tailWays_11 ?_
    refine g_goto C 16 (by decide) dX0_tailWays_12 ?_
    exact g_pick [0, 1, 2, 3, 4, 5] rfl (m_X0_tailWays_B16 C hlocks hr h)
set_option maxRecDepth 100000 in
set_option maxHeartbeats 4000000 in
theorem m_X0_tailWays (l : Launch) (D : va_G) (cA : Nat → ClassId) (ad : Nat → Nat) {a1 a2 a3 a4 a5 : Int} {Q : Int → St → Prop} {σ : St} (h : wp_X0_tailWays a1 a2 a3 a4 a5 Q σ) : CtI l yX0_tailWays (.code yX0_tailWays cX0_tailWays 8 (some .int)) rm_X0_tailWays D cA shC ad zsC [.ref (ad 17), vI a1, vI a2, vI a3, vI a4, vI a5] σ Q :=
  ct_I RX0 (by decide +kernel) rfl (Nat.le_of_ble_eq_true rfl) (fun p e s m args below meth c C hlocks hr => m_X0_tailWays_E C hlocks hr h)
abbrev rm_X0_cut : Room := { frames := 1, cells := 0, slots := 0, locals := 0 }
set_option maxRecDepth 100000 in
set_option maxHeartbeats 4000000 in
theorem m_X0_cut_E {p : Program} {l : Launch} {e : Env} {s : State} {m : MethodId} {args : Array Value} {below : List Frame} {meth : Method} {c : Code} {D : va_G} {cA : Nat → ClassId} {ad : Nat → Nat} (C : Cx p s m args c cX0_cut RX0 2 D cA shC ad zsC) (hlocks : meth.locks = false) (hr : meth.sig.returnType = (some .int)) {Q : Int → St → Prop} {a0 : Int} {σ : St} (h : wp_X0_cut a0 Q σ) : G p l e rm_X0_cut s m args below meth c 0 0 2 D cA shC ad (QI D cA shC ad zsC below args s Q) σ [(0, vL a0)] [] 0 := by
  unfold wp_X0_cut at h
  refine g_lload_n C 0 0 rfl rfl dX0_cut_0 ?_
  refine g_ldc2 C (n := 1000000000) tw_X0_35 dX0_cut_1 ?_
  refine g_lcmp C dX0_cut_4 ?_
  refine g_if_le C rfl 13 (by decide) dX0_cut_5 (fun hc => ?_) (fun hc => ?_)
  · have h := h.1 hc
    refine g_lload_n C 0 0 rfl rfl dX0_cut_13 ?_
    refine g_l2i C dX0_cut_14 ?_
    exact g_iret C hlocks hr h dX0_cut_15
  · have h := h.2 hc
    refine g_ldc C (n := 1000000000) tw_X0_37 dX0_cut_8 ?_
    refine g_goto C 15 (by decide) dX0_cut_10 ?_
    exact g_iret C hlocks hr h dX0_cut_15
set_option maxRecDepth 100000 in
set_option maxHeartbeats 4000000 in
theorem m_X0_cut (l : Launch) (D : va_G) (cA : Nat → ClassId) (ad : Nat → Nat) {a0 : Int} {Q : Int → St → Prop} {σ : St} (h : wp_X0_cut a0 Q σ) : CtI l yX0_cut (.code yX0_cut cX0_cut 2 (some .int)) rm_X0_cut D cA shC ad zsC [vL a0] σ Q :=
  ct_I RX0 (by decide +kernel) rfl (Nat.le_of_ble_eq_true rfl) (fun p e s m args below meth c C hlocks hr => m_X0_cut_E C hlocks hr h)
abbrev rm_X0_reckonOnward : Room := { frames := 3, cells := 0, slots := 0, locals := 50 }
set_option maxRecDepth 100000 in
set_option maxHeartbeats 4000000 in
theorem m_X0_reckonOnward_B102 {p : Program} {l : Launch} {e : Env} {s : State} {m : MethodId} {args : Array Value} {below : List Frame} {meth : Method} {c : Code} {D : va_G} {cA : Nat → ClassId} {ad : Nat → Nat} (C : Cx p s m args c cX0_reckonOnward RX0 11 D cA shC ad zsC) (hlocks : meth.locks = false) (hr : meth.sig.returnType = (some .int)) {Q : Int → St → Prop} {K48 : Int → Int → Int → Int → Int → Int → Int → Int → St → Prop} (hK48 : ∀ (x1 : Int) (x2 : Int) (x3 : Int) (x4 : Int) (x5 : Int) (x6 : Int) (x7 : Int) (x8 : Int) (σ : St), K48 x1 x2 x3 x4 x5 x6 x7 x8 σ → G p l e rm_X0_reckonOnward s m args below meth c 0 0 11 D cA shC ad (QI D cA shC ad zsC below args s Q) σ [(0, .ref (ad 17)), (1, vI x1), (2, vI x2), (3, vI x3), (4, vI x4), (5, vI x5), (6, vI x6), (7, vI x7), (8, vI x8)] [] 48) {x1 x2 x3 x4 x5 x6 x7 x8 : Int} {σ : St} (h : wp_X0_reckonOnward_B102 K48 x1 x2 x3 x4 x5 x6 x7 x8 Q σ) : G p l e rm_X0_reckonOnward s m args below meth c 0 0 11 D cA shC ad (QI D cA shC ad zsC below args s Q) σ [(0, .ref (ad 17)), (1, vI x1), (2, vI x2), (3, vI x3), (4, vI x4), (5, vI x5), (6, vI x6), (7, vI x7), (8, vI x8)] [] 102 := by
  unfold wp_X0_reckonOnward_B102 at h
  refine g_iinc C 8 8 [(0, .ref (ad 17)), (1, vI x1), (2, vI x2), (3, vI x3), (4, vI x4), (5, vI x5), (6, vI x6), (7, vI x7)] rfl (by decide) rfl dX0_reckonOnward_102 (fun x_1 ex_1 => ?_)
  have h := h x_1 ex_1
  refine g_goto C 48 (by decide) dX0_reckonOnward_105 ?_
  exact g_pick [1, 2, 3, 4, 5, 6, 7, 8, 0] rfl (hK48 _ _ _ _ _ _ _ _ _ h)
set_option maxRecDepth 100000 in
set_option maxHeartbeats 4000000 in
theorem m_X0_reckonOnward_L48 {p : Program} {l : Launch} {e : Env} {s : State} {m : MethodId} {args : Array Value} {below : List Frame} {meth : Method} {c : Code} {D : va_G} {cA : Nat → ClassId} {ad : Nat → Nat} (C : Cx p s m args c cX0_reckonOnward RX0 11 D cA shC ad zsC) (hlocks : meth.locks = false) (hr : meth.sig.returnType = (some .int)) {Q : Int → St → Prop} : ∀ (n : Nat) (x1 : Int) (x2 : Int) (x3 : Int) (x4 : Int) (x5 : Int) (x6 : Int) (x7 : Int) (x8 : Int) (σ : St), wp_X0_reckonOnward_L48 Q n x1 x2 x3 x4 x5 x6 x7 x8 σ → G p l e rm_X0_reckonOnward s m args below meth c 0 0 11 D cA shC ad (QI D cA shC ad zsC below args s Q) σ [(0, .ref (ad 17)), (1, vI x1), (2, vI x2), (3, vI x3), (4, vI x4), (5, vI x5), (6, vI x6), (7, vI x7), (8, vI x8)] [] 48 := by
  intro n
  induction n with
  | zero => intro _ _ _ _ _ _ _ _ _ h; exact h.elim
  | succ n ih =>
    intro x1 x2 x3 x4 x5 x6 x7 x8 σ h
    simp only [wp_X0_reckonOnward_L48] at h
    refine g_iload C 8 8 rfl dX0_reckonOnward_48 ?_
    refine g_iload C 7 7 rfl dX0_reckonOnward_50 ?_
    refine g_icmp_gt C rfl rfl 108 (by decide) dX0_reckonOnward_52 (fun hc => ?_) (fun hc => ?_)
    · have h := h.1 hc
      refine g_iload C 6 6 rfl dX0_reckonOnward_108 ?_
      exact g_iret C hlocks hr h dX0_reckonOnward_110
    · have h := h.2 hc
      refine g_aload_n C 0 0 rfl rfl dX0_reckonOnward_55 ?_
      refine g_iload_n C 1 1 rfl rfl dX0_reckonOnward_56 ?_
      refine g_iload_n C 2 2 rfl rfl dX0_reckonOnward_57 ?_
      refine g_iload C 8 8 rfl dX0_reckonOnward_58 ?_
      refine g_iload C 4 4 rfl dX0_reckonOnward_60 ?_
      refine g_iload C 5 5 rfl dX0_reckonOnward_62 ?_
      refine g_callIv C (m_X0_headWays l D cA ad h) hv_X0_headWays tw_X0_161 (o := 17) (ci := 0) (As := [vI x1, vI x2, vI x8, vI x4, vI x5]) (st := []) rfl rfl rfl rfl ⟨Nat.le_of_ble_eq_true rfl, Nat.le_of_ble_eq_true rfl⟩ rfl rfl (Nat.le_of_ble_eq_true rfl) dX0_reckonOnward_64 (fun r2 σ1 h => ?_)
      try dsimp only at h
      refine g_i2l C rfl dX0_reckonOnward_67 ?_
      refine g_nameL (fun x_3 ex_3 => ?_)
      have h := h x_3 ex_3
      refine g_lstore C 9 [(0, .ref (ad 17)), (1, vI x1), (2, vI x2), (3, vI x3), (4, vI x4), (5, vI x5), (6, vI x6), (7, vI x7), (8, vI x8)] (by decide) rfl dX0_reckonOnward_68 ?_
      refine g_lload C 0 9 rfl dX0_reckonOnward_70 ?_
      refine g_lconst C 0 (by decide) dX0_reckonOnward_72 ?_
      refine g_lcmp C dX0_reckonOnward_73 ?_
      refine g_if_eq C rfl 102 (by decide) dX0_reckonOnward_74 (fun hc => ?_) (fun hc => ?_)
      · have h := h.1 hc
        exact g_pick [1, 2, 3, 4, 5, 6, 7, 8, 9] rfl (m_X0_reckonOnward_B102 C hlocks hr (fun _ _ _ _ _ _ _ _ _ h => ih _ _ _ _ _ _ _ _ _ h) h)
      · have h := h.2 hc
        refine g_iload C 7 6 rfl dX0_reckonOnward_77 ?_
        refine g_i2l C rfl dX0_reckonOnward_79 ?_
        refine g_lload C 0 9 rfl dX0_reckonOnward_80 ?_
        refine g_aload_n C 1 0 rfl rfl dX0_reckonOnward_82 ?_
        refine g_iload_n C 2 1 rfl rfl dX0_reckonOnward_83 ?_
        refine g_iload C 9 8 rfl dX0_reckonOnward_84 ?_
        refine g_iload_n C 4 3 rfl rfl dX0_reckonOnward_86 ?_
        refine g_iload C 5 4 rfl dX0_reckonOnward_87 ?_
        refine g_iload C 6 5 rfl dX0_reckonOnward_89 ?_
        refine g_callIv C (m_X0_tailWays l D cA ad h) hv_X0_tailWays tw_X0_164 (o := 17) (ci := 0) (As := [vI x1, vI x8, vI x3, vI x4, vI x5]) (st := [vL x_3, vL (w32 x6)]) rfl rfl rfl rfl ⟨Nat.le_of_ble_eq_true rfl, Nat.le_of_ble_eq_true rfl⟩ rfl rfl (Nat.le_of_ble_eq_true rfl) dX0_reckonOnward_91 (fun r5 σ4 h => ?_)
        try dsimp only at h
        refine g_i2l C rfl dX0_reckonOnward_94 ?_
        refine g_lmul C dX0_reckonOnward_95 ?_
        refine g_ladd C dX0_reckonOnward_96 ?_
        refine g_callIs C (m_X0_cut l D cA ad h) hv_X0_cut tw_X0_148 (As := [vL ((w32 x6) + (x_3 * (w32 r5)))]) (st := []) rfl rfl ⟨Nat.le_of_ble_eq_true rfl, Nat.le_of_ble_eq_true rfl⟩ rfl rfl (Nat.le_of_ble_eq_true rfl) dX0_reckonOnward_97 (fun r7 σ6 h => ?_)
        try dsimp only at h
        refine g_istore C 6 [(9, vL x_3), (0, .ref (ad 17)), (1, vI x1), (2, vI x2), (3, vI x3), (4, vI x4), (5, vI x5), (7, vI x7), (8, vI x8)] (by decide) rfl dX0_reckonOnward_100 ?_
        exact g_pick [2, 3, 4, 5, 6, 7, 0, 8, 9] rfl (m_X0_reckonOnward_B102 C hlocks hr (fun _ _ _ _ _ _ _ _ _ h => ih _ _ _ _ _ _ _ _ _ h) h)
set_option maxRecDepth 100000 in
set_option maxHeartbeats 4000000 in
theorem m_X0_reckonOnward_E {p : Program} {l : Launch} {e : Env} {s : State} {m : MethodId} {args : Array Value} {below : List Frame} {meth : Method} {c : Code} {D : va_G} {cA : Nat → ClassId} {ad : Nat → Nat} (C : Cx p s m args c cX0_reckonOnward RX0 11 D cA shC ad zsC) (hlocks : meth.locks = false) (hr : meth.sig.returnType = (some .int)) {Q : Int → St → Prop} {a1 a2 a3 a4 a5 : Int} {σ : St} (h : wp_X0_reckonOnward a1 a2 a3 a4 a5 Q σ) : G p l e rm_X0_reckonOnward s m args below meth c 0 0 11 D cA shC ad (QI D cA shC ad zsC below args s Q) σ [(0, .ref (ad 17)), (1, vI a1), (2, vI a2), (3, vI a3), (4, vI a4), (5, vI a5)] [] 0 := by
  unfold wp_X0_reckonOnward at h
  refine g_aload_n C 0 0 rfl rfl dX0_reckonOnward_0 ?_
  refine g_get C iX0 (ci := 0) (o := 17) (v := .ref (ad 3)) rfl rfl 1 (by decide) rfl tw_X0_31 dX0_reckonOnward_1 ?_
  refine g_iload_n C 1 1 rfl rfl dX0_reckonOnward_4 ?_
  refine g_iconst C dX0_reckonOnward_5 ?_
  refine g_callIv C (m_X1_cell l D cA ad h) hv_X1_cell tw_X0_48 (o := 3) (ci := 1) (As := [vI a1, vI 5]) (st := []) rfl rfl rfl rfl ⟨Nat.le_of_ble_eq_true rfl, Nat.le_of_ble_eq_true rfl⟩ rfl rfl (Nat.le_of_ble_eq_true rfl) dX0_reckonOnward_6 (fun r2 σ1 h => ?_)
  try dsimp only at h
  refine g_iconst C dX0_reckonOnward_9 ?_
  refine g_icmp_ne C (y' := (-1)) rfl (by decide) 25 (by decide) dX0_reckonOnward_10 (fun hc => ?_) (fun hc => ?_)
  · have h := h.1 hc
    refine g_iconst C dX0_reckonOnward_25 ?_
    refine g_istore C 6 [(0, .ref (ad 17)), (1, vI a1), (2, vI a2), (3, vI a3), (4, vI a4), (5, vI a5)] (by decide) rfl dX0_reckonOnward_26 ?_
    refine g_aload_n C 1 0 rfl rfl dX0_reckonOnward_28 ?_
    refine g_iload_n C 2 1 rfl rfl dX0_reckonOnward_29 ?_
    refine g_iload_n C 4 3 rfl rfl dX0_reckonOnward_30 ?_
    refine g_iload C 5 4 rfl dX0_reckonOnward_31 ?_
    refine g_callIv C (m_X0_lastSplit l D cA ad h) hv_X0_lastSplit tw_X0_155 (o := 17) (ci := 0) (As := [vI a1, vI a3, vI a4]) (st := []) rfl rfl rfl rfl ⟨Nat.le_of_ble_eq_true rfl, Nat.le_of_ble_eq_true rfl⟩ rfl rfl (Nat.le_of_ble_eq_true rfl) dX0_reckonOnward_33 (fun r4 σ3 h => ?_)
    try dsimp only at h
    refine g_istore C 7 [(6, vI 0), (0, .ref (ad 17)), (1, vI a1), (2, vI a2), (3, vI a3), (4, vI a4), (5, vI a5)] (by decide) rfl dX0_reckonOnward_36 ?_
    refine g_aload_n C 2 0 rfl rfl dX0_reckonOnward_38 ?_
    refine g_iload_n C 3 1 rfl rfl dX0_reckonOnward_39 ?_
    refine g_iload_n C 4 2 rfl rfl dX0_reckonOnward_40 ?_
    refine g_iload C 7 5 rfl dX0_reckonOnward_41 ?_
    refine g_callIv C (m_X0_firstSplit l D cA ad h) hv_X0_firstSplit tw_X0_158 (o := 17) (ci := 0) (As := [vI a1, vI a2, vI a5]) (st := []) rfl rfl rfl rfl ⟨Nat.le_of_ble_eq_true rfl, Nat.le_of_ble_eq_true rfl⟩ rfl rfl (Nat.le_of_ble_eq_true rfl) dX0_reckonOnward_43 (fun r6 σ5 h => ?_)
    try dsimp only at h
    refine g_istore C 8 [(7, vI r4), (6, vI 0), (0, .ref (ad 17)), (1, vI a1), (2, vI a2), (3, vI a3), (4, vI a4), (5, vI a5)] (by decide) rfl dX0_reckonOnward_46 ?_
    obtain ⟨nn, h⟩ := h
    exact g_pick [3, 4, 5, 6, 7, 8, 2, 1, 0] rfl (m_X0_reckonOnward_L48 C hlocks hr nn _ _ _ _ _ _ _ _ _ h)
  · have h := h.2 hc
    refine g_aload_n C 0 0 rfl rfl dX0_reckonOnward_13 ?_
    refine g_iload_n C 1 1 rfl rfl dX0_reckonOnward_14 ?_
    refine g_iload_n C 2 2 rfl rfl dX0_reckonOnward_15 ?_
    refine g_iload_n C 3 3 rfl rfl dX0_reckonOnward_16 ?_
    refine g_iload C 4 4 rfl dX0_reckonOnward_17 ?_
    refine g_iload C 5 5 rfl dX0_reckonOnward_19 ?_
    refine g_callIv C (m_X0_nodeWays l D cA ad h) hv_X0_nodeWays tw_X0_152 (o := 17) (ci := 0) (As := [vI a1, vI a2, vI a3, vI a4, vI a5]) (st := []) rfl rfl rfl rfl ⟨Nat.le_of_ble_eq_true rfl, Nat.le_of_ble_eq_true rfl⟩ rfl rfl (Nat.le_of_ble_eq_true rfl) dX0_reckonOnward_21 (fun r8 σ7 h => ?_)
    try dsimp only at h
    exact g_iret C hlocks hr h dX0_reckonOnward_24
set_option maxRecDepth 100000 in
set_option maxHeartbeats 4000000 in
theorem m_X0_reckonOnward (l : Launch) (D : va_G) (cA : Nat → ClassId) (ad : Nat → Nat) {a1 a2 a3 a4 a5 : Int} {Q : Int → St → Prop} {σ : St} (h : wp_X0_reckonOnward a1 a2 a3 a4 a5 Q σ) : CtI l yX0_reckonOnward (.code yX0_reckonOnward cX0_reckonOnward 11 (some .int)) rm_X0_reckonOnward D cA shC ad zsC [.ref (ad 17), vI a1, vI a2, vI a3, vI a4, vI a5] σ Q :=
  ct_I RX0 (by decide +kernel) rfl (Nat.le_of_ble_eq_true rfl) (fun p e s m args below meth c C hlocks hr => m_X0_reckonOnward_E C hlocks hr h)
abbrev rm_X0_initialWays : Room := { frames := 2, cells := 0, slots := 0, locals := 23 }
set_option maxRecDepth 100000 in
set_option maxHeartbeats 4000000 in
theorem m_X0_initialWays_E {p : Program} {l : Launch} {e : Env} {s : State} {m : MethodId} {args : Array Value} {below : List Frame} {meth : Method} {c : Code} {D : va_G} {cA : Nat → ClassId} {ad : Nat → Nat} (C : Cx p s m args c cX0_initialWays RX0 4 D cA shC ad zsC) (hlocks : meth.locks = false) (hr : meth.sig.returnType = (some .int)) {Q : Int → St → Prop} {a1 a2 a3 : Int} {σ : St} (h : wp_X0_initialWays a1 a2 a3 Q σ) : G p l e rm_X0_initialWays s m args below meth c 0 0 4 D cA shC ad (QI D cA shC ad zsC below args s Q) σ [(0, .ref (ad 17)), (1, vI a1), (2, vI a2), (3, vI a3)] [] 0 := by
  unfold wp_X0_initialWays at h
  refine g_aload_n C 0 0 rfl rfl dX0_initialWays_0 ?_
  refine g_get C iX0 (ci := 0) (o := 17) (v := .ref (ad 21)) rfl rfl 5 (by decide) rfl tw_X0_22 dX0_initialWays_1 ?_
  refine g_iload_n C 1 1 rfl rfl dX0_initialWays_4 ?_
  refine g_bipush C dX0_initialWays_5 (by decide) ?_
  refine g_imul C dX0_initialWays_7 ?_
  refine g_iload_n C 2 2 rfl rfl dX0_initialWays_8 ?_
  refine g_iload_n C 3 3 rfl rfl dX0_initialWays_9 ?_
  refine g_iconst C dX0_initialWays_10 ?_
  refine g_iconst C dX0_initialWays_11 ?_
  refine g_callIs C (m_X0_at l D cA ad h) hv_X0_at tw_X0_38 (As := [vI a2, vI a3, vI (-1), vI (-1)]) (st := [vI (a1 * 45), .ref (ad 21)]) rfl rfl ⟨Nat.le_of_ble_eq_true rfl, Nat.le_of_ble_eq_true rfl⟩ rfl rfl (Nat.le_of_ble_eq_true rfl) dX0_initialWays_12 (fun r2 σ1 h => ?_)
  try dsimp only at h
  refine g_iadd C dX0_initialWays_15 ?_
  obtain ⟨hi, h⟩ := h
  refine g_iald C (o := 21) (N := 720) rfl rfl hi rfl dX0_initialWays_16 ?_
  exact g_iret C hlocks hr h dX0_initialWays_17
set_option maxRecDepth 100000 in
set_option maxHeartbeats 4000000 in
theorem m_X0_initialWays (l : Launch) (D : va_G) (cA : Nat → ClassId) (ad : Nat → Nat) {a1 a2 a3 : Int} {Q : Int → St → Prop} {σ : St} (h : wp_X0_initialWays a1 a2 a3 Q σ) : CtI l yX0_initialWays (.code yX0_initialWays cX0_initialWays 4 (some .int)) rm_X0_initialWays D cA shC ad zsC [.ref (ad 17), vI a1, vI a2, vI a3] σ Q :=
  ct_I RX0 (by decide +kernel) rfl (Nat.le_of_ble_eq_true rfl) (fun p e s m args below meth c C hlocks hr => m_X0_initialWays_E C hlocks hr h)
abbrev rm_X0_partsWays : Room := { frames := 2, cells := 0, slots := 0, locals := 23 }
set_option maxRecDepth 100000 in
set_option maxHeartbeats 4000000 in
theorem m_X0_partsWays_E {p : Program} {l : Launch} {e : Env} {s : State} {m : MethodId} {args : Array Value} {below : List Frame} {meth : Method} {c : Code} {D : va_G} {cA : Nat → ClassId} {ad : Nat → Nat} (C : Cx p s m args c cX0_partsWays RX0 6 D cA shC ad zsC) (hlocks : meth.locks = false) (hr : meth.sig.returnType = (some .int)) {Q : Int → St → Prop} {a1 a2 a3 a4 a5 : Int} {σ : St} (h : wp_X0_partsWays a1 a2 a3 a4 a5 Q σ) : G p l e rm_X0_partsWays s m args below meth c 0 0 6 D cA shC ad (QI D cA shC ad zsC below args s Q) σ [(0, .ref (ad 17)), (1, vI a1), (2, vI a2), (3, vI a3), (4, vI a4), (5, vI a5)] [] 0 := by
  unfold wp_X0_partsWays at h
  refine g_aload_n C 0 0 rfl rfl dX0_partsWays_0 ?_
  refine g_get C iX0 (ci := 0) (o := 17) (v := .ref (ad 20)) rfl rfl 4 (by decide) rfl tw_X0_19 dX0_partsWays_1 ?_
  refine g_iload_n C 1 1 rfl rfl dX0_partsWays_4 ?_
  refine g_iconst C dX0_partsWays_5 ?_
  refine g_iadd C dX0_partsWays_6 ?_
  refine g_sipush C dX0_partsWays_7 (by decide) ?_
  refine g_imul C dX0_partsWays_10 ?_
  refine g_iload_n C 2 2 rfl rfl dX0_partsWays_11 ?_
  refine g_iload_n C 3 3 rfl rfl dX0_partsWays_12 ?_
  refine g_iload C 4 4 rfl dX0_partsWays_13 ?_
  refine g_iload C 5 5 rfl dX0_partsWays_15 ?_
  refine g_callIs C (m_X0_at l D cA ad h) hv_X0_at tw_X0_38 (As := [vI a2, vI a3, vI a4, vI a5]) (st := [vI ((a1 + 1) * 330), .ref (ad 20)]) rfl rfl ⟨Nat.le_of_ble_eq_true rfl, Nat.le_of_ble_eq_true rfl⟩ rfl rfl (Nat.le_of_ble_eq_true rfl) dX0_partsWays_17 (fun r2 σ1 h => ?_)
  try dsimp only at h
  refine g_iadd C dX0_partsWays_20 ?_
  obtain ⟨hi, h⟩ := h
  refine g_iald C (o := 20) (N := 63360) rfl rfl hi rfl dX0_partsWays_21 ?_
  exact g_iret C hlocks hr h dX0_partsWays_22
set_option maxRecDepth 100000 in
set_option maxHeartbeats 4000000 in
theorem m_X0_partsWays (l : Launch) (D : va_G) (cA : Nat → ClassId) (ad : Nat → Nat) {a1 a2 a3 a4 a5 : Int} {Q : Int → St → Prop} {σ : St} (h : wp_X0_partsWays a1 a2 a3 a4 a5 Q σ) : CtI l yX0_partsWays (.code yX0_partsWays cX0_partsWays 6 (some .int)) rm_X0_partsWays D cA shC ad zsC [.ref (ad 17), vI a1, vI a2, vI a3, vI a4, vI a5] σ Q :=
  ct_I RX0 (by decide +kernel) rfl (Nat.le_of_ble_eq_true rfl) (fun p e s m args below meth c C hlocks hr => m_X0_partsWays_E C hlocks hr h)
abbrev rm_X0_narrowest : Room := { frames := 2, cells := 0, slots := 0, locals := 22 }
set_option maxRecDepth 100000 in
set_option maxHeartbeats 4000000 in
theorem m_X0_narrowest_E {p : Program} {l : Launch} {e : Env} {s : State} {m : MethodId} {args : Array Value} {below : List Frame} {meth : Method} {c : Code} {D : va_G} {cA : Nat → ClassId} {ad : Nat → Nat} (C : Cx p s m args c cX0_narrowest RX0 4 D cA shC ad zsC) (hlocks : meth.locks = false) (hr : meth.sig.returnType = (some .int)) {Q : Int → St → Prop} {a1 a2 a3 : Int} {σ : St} (h : wp_X0_narrowest a1 a2 a3 Q σ) : G p l e rm_X0_narrowest s m args below meth c 0 0 4 D cA shC ad (QI D cA shC ad zsC below args s Q) σ [(0, .ref (ad 17)), (1, vI a1), (2, vI a2), (3, vI a3)] [] 0 := by
  unfold wp_X0_narrowest at h
  refine g_aload_n C 0 0 rfl rfl dX0_narrowest_0 ?_
  refine g_get C iX0 (ci := 0) (o := 17) (v := .ref (ad 3)) rfl rfl 1 (by decide) rfl tw_X0_31 dX0_narrowest_1 ?_
  refine g_iload_n C 1 1 rfl rfl dX0_narrowest_4 ?_
  refine g_bipush C dX0_narrowest_5 (by decide) ?_
  refine g_callIv C (m_X1_cell l D cA ad h) hv_X1_cell tw_X0_48 (o := 3) (ci := 1) (As := [vI a1, vI 7]) (st := []) rfl rfl rfl rfl ⟨Nat.le_of_ble_eq_true rfl, Nat.le_of_ble_eq_true rfl⟩ rfl rfl (Nat.le_of_ble_eq_true rfl) dX0_narrowest_7 (fun r2 σ1 h => ?_)
  try dsimp only at h
  refine g_iload_n C 3 3 rfl rfl dX0_narrowest_10 ?_
  refine g_iadd C dX0_narrowest_11 ?_
  refine g_iload_n C 2 2 rfl rfl dX0_narrowest_12 ?_
  refine g_isub C dX0_narrowest_13 ?_
  exact g_iret C hlocks hr h dX0_narrowest_14
set_option maxRecDepth 100000 in
set_option maxHeartbeats 4000000 in
theorem m_X0_narrowest (l : Launch) (D : va_G) (cA : Nat → ClassId) (ad : Nat → Nat) {a1 a2 a3 : Int} {Q : Int → St → Prop} {σ : St} (h : wp_X0_narrowest a1 a2 a3 Q σ) : CtI l yX0_narrowest (.code yX0_narrowest cX0_narrowest 4 (some .int)) rm_X0_narrowest D cA shC ad zsC [.ref (ad 17), vI a1, vI a2, vI a3] σ Q :=
  ct_I RX0 (by decide +kernel) rfl (Nat.le_of_ble_eq_true rfl) (fun p e s m args below meth c C hlocks hr => m_X0_narrowest_E C hlocks hr h)
abbrev rm_X0_lastBegin : Room := { frames := 1, cells := 0, slots := 0, locals := 0 }
set_option maxRecDepth 100000 in
set_option maxHeartbeats 4000000 in
theorem m_X0_lastBegin_E {p : Program} {l : Launch} {e : Env} {s : State} {m : MethodId} {args : Array Value} {below : List Frame} {meth : Method} {c : Code} {D : va_G} {cA : Nat → ClassId} {ad : Nat → Nat} (C : Cx p s m args c cX0_lastBegin RX0 4 D cA shC ad zsC) (hlocks : meth.locks = false) (hr : meth.sig.returnType = (some .int)) {Q : Int → St → Prop} {a1 a2 a3 : Int} {σ : St} (h : wp_X0_lastBegin a1 a2 a3 Q σ) : G p l e rm_X0_lastBegin s m args below meth c 0 0 4 D cA shC ad (QI D cA shC ad zsC below args s Q) σ [(0, .ref (ad 17)), (1, vI a1), (2, vI a2), (3, vI a3)] [] 0 := by
  unfold wp_X0_lastBegin at h
  refine g_iload_n C 2 2 rfl rfl dX0_lastBegin_0 ?_
  refine g_iconst C dX0_lastBegin_1 ?_
  refine g_icmp_ne C (y' := (-1)) rfl (by decide) 11 (by decide) dX0_lastBegin_2 (fun hc => ?_) (fun hc => ?_)
  · have h := h.1 hc
    refine g_iload_n C 2 2 rfl rfl dX0_lastBegin_11 ?_
    exact g_iret C hlocks hr h dX0_lastBegin_12
  · have h := h.2 hc
    refine g_iload_n C 1 1 rfl rfl dX0_lastBegin_5 ?_
    refine g_iload_n C 3 3 rfl rfl dX0_lastBegin_6 ?_
    refine g_isub C dX0_lastBegin_7 ?_
    refine g_goto C 12 (by decide) dX0_lastBegin_8 ?_
    exact g_iret C hlocks hr h dX0_lastBegin_12
set_option maxRecDepth 100000 in
set_option maxHeartbeats 4000000 in
theorem m_X0_lastBegin (l : Launch) (D : va_G) (cA : Nat → ClassId) (ad : Nat → Nat) {a1 a2 a3 : Int} {Q : Int → St → Prop} {σ : St} (h : wp_X0_lastBegin a1 a2 a3 Q σ) : CtI l yX0_lastBegin (.code yX0_lastBegin cX0_lastBegin 4 (some .int)) rm_X0_lastBegin D cA shC ad zsC [.ref (ad 17), vI a1, vI a2, vI a3] σ Q :=
  ct_I RX0 (by decide +kernel) rfl (Nat.le_of_ble_eq_true rfl) (fun p e s m args below meth c C hlocks hr => m_X0_lastBegin_E C hlocks hr h)
abbrev rm_X0_reckonInner : Room := { frames := 3, cells := 0, slots := 0, locals := 48 }
set_option maxRecDepth 100000 in
set_option maxHeartbeats 4000000 in
theorem m_X0_reckonInner_B171 {p : Program} {l : Launch} {e : Env} {s : State} {m : MethodId} {args : Array Value} {below : List Frame} {meth : Method} {c : Code} {D : va_G} {cA : Nat → ClassId} {ad : Nat → Nat} (C : Cx p s m args c cX0_reckonInner RX0 15 D cA shC ad zsC) (hlocks : meth.locks = false) (hr : meth.sig.returnType = (some .int)) {Q : Int → St → Prop} {K89 : Int → Int → Int → Int → Int → Int → Int → Int → Int → Int → St → Prop} (hK89 : ∀ (x1 : Int) (x2 : Int) (x3 : Int) (x4 : Int) (x5 : Int) (x7 : Int) (x8 : Int) (x9 : Int) (x10 : Int) (x11 : Int) (σ : St), K89 x1 x2 x3 x4 x5 x7 x8 x9 x10 x11 σ → G p l e rm_X0_reckonInner s m args below meth c 0 0 15 D cA shC ad (QI D cA shC ad zsC below args s Q) σ [(0, .ref (ad 17)), (1, vI x1), (2, vI x2), (3, vI x3), (4, vI x4), (5, vI x5), (7, vI x7), (8, vI x8), (9, vI x9), (10, vI x10), (11, vI x11)] [] 89) {K108 : Int → Int → Int → Int → Int → Int → Int → Int → Int → Int → Int → St → Prop} (hK108 : ∀ (x1 : Int) (x2 : Int) (x3 : Int) (x4 : Int) (x5 : Int) (x7 : Int) (x8 : Int) (x9 : Int) (x10 : Int) (x11 : Int) (x12 : Int) (σ : St), K108 x1 x2 x3 x4 x5 x7 x8 x9 x10 x11 x12 σ → G p l e rm_X0_reckonInner s m args below meth c 0 0 15 D cA shC ad (QI D cA shC ad zsC below args s Q) σ [(0, .ref (ad 17)), (1, vI x1), (2, vI x2), (3, vI x3), (4, vI x4), (5, vI x5), (7, vI x7), (8, vI x8), (9, vI x9), (10, vI x10), (11, vI x11), (12, vI x12)] [] 108) {x1 x2 x3 x4 x5 x7 x8 x9 x10 x11 x12 : Int} {σ : St} (h : wp_X0_reckonInner_B171 K89 K108 x1 x2 x3 x4 x5 x7 x8 x9 x10 x11 x12 Q σ) : G p l e rm_X0_reckonInner s m args below meth c 0 0 15 D cA shC ad (QI D cA shC ad zsC below args s Q) σ [(0, .ref (ad 17)), (1, vI x1), (2, vI x2), (3, vI x3), (4, vI x4), (5, vI x5), (7, vI x7), (8, vI x8), (9, vI x9), (10, vI x10), (11, vI x11), (12, vI x12)] [] 171 := by
  unfold wp_X0_reckonInner_B171 at h
  refine g_iinc C 11 12 [(0, .ref (ad 17)), (1, vI x1), (2, vI x2), (3, vI x3), (4, vI x4), (5, vI x5), (7, vI x7), (8, vI x8), (9, vI x9), (10, vI x10), (11, vI x11)] rfl (by decide) rfl dX0_reckonInner_171 (fun x_1 ex_1 => ?_)
  have h := h x_1 ex_1
  refine g_goto C 108 (by decide) dX0_reckonInner_174 ?_
  exact g_pick [1, 2, 3, 4, 5, 6, 7, 8, 9, 10, 11, 0] rfl (hK108 _ _ _ _ _ _ _ _ _ _ _ _ h)
set_option maxRecDepth 100000 in
set_option maxHeartbeats 4000000 in
theorem m_X0_reckonInner_L108 {p : Program} {l : Launch} {e : Env} {s : State} {m : MethodId} {args : Array Value} {below : List Frame} {meth : Method} {c : Code} {D : va_G} {cA : Nat → ClassId} {ad : Nat → Nat} (C : Cx p s m args c cX0_reckonInner RX0 15 D cA shC ad zsC) (hlocks : meth.locks = false) (hr : meth.sig.returnType = (some .int)) {Q : Int → St → Prop} {K89 : Int → Int → Int → Int → Int → Int → Int → Int → Int → Int → St → Prop} (hK89 : ∀ (x1 : Int) (x2 : Int) (x3 : Int) (x4 : Int) (x5 : Int) (x7 : Int) (x8 : Int) (x9 : Int) (x10 : Int) (x11 : Int) (σ : St), K89 x1 x2 x3 x4 x5 x7 x8 x9 x10 x11 σ → G p l e rm_X0_reckonInner s m args below meth c 0 0 15 D cA shC ad (QI D cA shC ad zsC below args s Q) σ [(0, .ref (ad 17)), (1, vI x1), (2, vI x2), (3, vI x3), (4, vI x4), (5, vI x5), (7, vI x7), (8, vI x8), (9, vI x9), (10, vI x10), (11, vI x11)] [] 89) : ∀ (n : Nat) (x1 : Int) (x2 : Int) (x3 : Int) (x4 : Int) (x5 : Int) (x7 : Int) (x8 : Int) (x9 : Int) (x10 : Int) (x11 : Int) (x12 : Int) (σ : St), wp_X0_reckonInner_L108 K89 Q n x1 x2 x3 x4 x5 x7 x8 x9 x10 x11 x12 σ → G p l e rm_X0_reckonInner s m args below meth c 0 0 15 D cA shC ad (QI D cA shC ad zsC below args s Q) σ [(0, .ref (ad 17)), (1, vI x1), (2, vI x2), (3, vI x3), (4, vI x4), (5, vI x5), (7, vI x7), (8, vI x8), (9, vI x9), (10, vI x10), (11, vI x11), (12, vI x12)] [] 108 := by
  intro n
  induction n with
  | zero => intro _ _ _ _ _ _ _ _ _ _ _ _ h; exact h.elim
  | succ n ih =>
    intro x1 x2 x3 x4 x5 x7 x8 x9 x10 x11 x12 σ h
    simp only [wp_X0_reckonInner_L108] at h
    refine g_iload C 11 12 rfl dX0_reckonInner_108 ?_
    refine g_iload_n C 3 3 rfl rfl dX0_reckonInner_110 ?_
    refine g_icmp_gt C rfl rfl 177 (by decide) dX0_reckonInner_111 (fun hc => ?_) (fun hc => ?_)
    · have h := h.1 hc
      refine g_iinc C 10 11 [(0, .ref (ad 17)), (1, vI x1), (2, vI x2), (3, vI x3), (4, vI x4), (5, vI x5), (7, vI x7), (8, vI x8), (9, vI x9), (10, vI x10), (12, vI x12)] rfl (by decide) rfl dX0_reckonInner_177 (fun x_1 ex_1 => ?_)
      have h := h x_1 ex_1
      refine g_goto C 89 (by decide) dX0_reckonInner_180 ?_
      exact g_pick [1, 2, 3, 4, 5, 6, 7, 8, 9, 10, 0] rfl (hK89 _ _ _ _ _ _ _ _ _ _ _ h)
    · have h := h.2 hc
      refine g_aload_n C 0 0 rfl rfl dX0_reckonInner_114 ?_
      refine g_get C iX0 (ci := 0) (o := 17) (v := .ref (ad 22)) rfl rfl 6 (by decide) rfl tw_X0_25 dX0_reckonInner_115 ?_
      refine g_iload C 6 7 rfl dX0_reckonInner_118 ?_
      refine g_sipush C dX0_reckonInner_120 (by decide) ?_
      refine g_imul C dX0_reckonInner_123 ?_
      refine g_iload_n C 2 2 rfl rfl dX0_reckonInner_124 ?_
      refine g_iload_n C 3 3 rfl rfl dX0_reckonInner_125 ?_
      refine g_iload C 10 11 rfl dX0_reckonInner_126 ?_
      refine g_iload C 11 12 rfl dX0_reckonInner_128 ?_
      refine g_callIs C (m_X0_at l D cA ad h) hv_X0_at tw_X0_38 (As := [vI x2, vI x3, vI x11, vI x12]) (st := [vI (x7 * 330), .ref (ad 22)]) rfl rfl ⟨Nat.le_of_ble_eq_true rfl, Nat.le_of_ble_eq_true rfl⟩ rfl rfl (Nat.le_of_ble_eq_true rfl) dX0_reckonInner_130 (fun r3 σ2 h => ?_)
      try dsimp only at h
      refine g_iadd C dX0_reckonInner_133 ?_
      obtain ⟨hi, h⟩ := h
      refine g_iald C (o := 22) (N := 5280) rfl rfl hi rfl dX0_reckonInner_134 ?_
      refine g_i2l C rfl dX0_reckonInner_135 ?_
      refine g_nameL (fun x_4 ex_4 => ?_)
      have h := h x_4 ex_4
      refine g_lstore C 13 [(0, .ref (ad 17)), (1, vI x1), (2, vI x2), (3, vI x3), (4, vI x4), (5, vI x5), (7, vI x7), (8, vI x8), (9, vI x9), (10, vI x10), (11, vI x11), (12, vI x12)] (by decide) rfl dX0_reckonInner_136 ?_
      refine g_lload C 0 13 rfl dX0_reckonInner_138 ?_
      refine g_lconst C 0 (by decide) dX0_reckonInner_140 ?_
      refine g_lcmp C dX0_reckonInner_141 ?_
      refine g_if_eq C rfl 171 (by decide) dX0_reckonInner_142 (fun hc => ?_) (fun hc => ?_)
      · have h := h.1 hc
        exact g_pick [1, 2, 3, 4, 5, 6, 7, 8, 9, 10, 11, 12] rfl (m_X0_reckonInner_B171 C hlocks hr hK89 (fun _ _ _ _ _ _ _ _ _ _ _ _ h => ih _ _ _ _ _ _ _ _ _ _ _ _ h) h)
      · have h := h.2 hc
        refine g_iload C 8 8 rfl dX0_reckonInner_145 ?_
        refine g_i2l C rfl dX0_reckonInner_147 ?_
        refine g_lload C 0 13 rfl dX0_reckonInner_148 ?_
        refine g_aload_n C 1 0 rfl rfl dX0_reckonInner_150 ?_
        refine g_iload_n C 2 1 rfl rfl dX0_reckonInner_151 ?_
        refine g_iload C 11 11 rfl dX0_reckonInner_152 ?_
        refine g_iload C 12 12 rfl dX0_reckonInner_154 ?_
        refine g_iload C 5 4 rfl dX0_reckonInner_156 ?_
        refine g_iload C 6 5 rfl dX0_reckonInner_158 ?_
        refine g_callIv C (m_X0_partsWays l D cA ad h) hv_X0_partsWays tw_X0_134 (o := 17) (ci := 0) (As := [vI x1, vI x11, vI x12, vI x4, vI x5]) (st := [vL x_4, vL (w32 x8)]) rfl rfl rfl rfl ⟨Nat.le_of_ble_eq_true rfl, Nat.le_of_ble_eq_true rfl⟩ rfl rfl (Nat.le_of_ble_eq_true rfl) dX0_reckonInner_160 (fun r6 σ5 h => ?_)
        try dsimp only at h
        refine g_i2l C rfl dX0_reckonInner_163 ?_
        refine g_lmul C dX0_reckonInner_164 ?_
        refine g_ladd C dX0_reckonInner_165 ?_
        refine g_callIs C (m_X0_cut l D cA ad h) hv_X0_cut tw_X0_148 (As := [vL ((w32 x8) + (x_4 * (w32 r6)))]) (st := []) rfl rfl ⟨Nat.le_of_ble_eq_true rfl, Nat.le_of_ble_eq_true rfl⟩ rfl rfl (Nat.le_of_ble_eq_true rfl) dX0_reckonInner_166 (fun r8 σ7 h => ?_)
        try dsimp only at h
        refine g_istore C 8 [(13, vL x_4), (0, .ref (ad 17)), (1, vI x1), (2, vI x2), (3, vI x3), (4, vI x4), (5, vI x5), (7, vI x7), (9, vI x9), (10, vI x10), (11, vI x11), (12, vI x12)] (by decide) rfl dX0_reckonInner_169 ?_
        exact g_pick [2, 3, 4, 5, 6, 7, 8, 0, 9, 10, 11, 12] rfl (m_X0_reckonInner_B171 C hlocks hr hK89 (fun _ _ _ _ _ _ _ _ _ _ _ _ h => ih _ _ _ _ _ _ _ _ _ _ _ _ h) h)
set_option maxRecDepth 100000 in
set_option maxHeartbeats 4000000 in
theorem m_X0_reckonInner_L89 {p : Program} {l : Launch} {e : Env} {s : State} {m : MethodId} {args : Array Value} {below : List Frame} {meth : Method} {c : Code} {D : va_G} {cA : Nat → ClassId} {ad : Nat → Nat} (C : Cx p s m args c cX0_reckonInner RX0 15 D cA shC ad zsC) (hlocks : meth.locks = false) (hr : meth.sig.returnType = (some .int)) {Q : Int → St → Prop} : ∀ (n : Nat) (x1 : Int) (x2 : Int) (x3 : Int) (x4 : Int) (x5 : Int) (x7 : Int) (x8 : Int) (x9 : Int) (x10 : Int) (x11 : Int) (σ : St), wp_X0_reckonInner_L89 Q n x1 x2 x3 x4 x5 x7 x8 x9 x10 x11 σ → G p l e rm_X0_reckonInner s m args below meth c 0 0 15 D cA shC ad (QI D cA shC ad zsC below args s Q) σ [(0, .ref (ad 17)), (1, vI x1), (2, vI x2), (3, vI x3), (4, vI x4), (5, vI x5), (7, vI x7), (8, vI x8), (9, vI x9), (10, vI x10), (11, vI x11)] [] 89 := by
  intro n
  induction n with
  | zero => intro _ _ _ _ _ _ _ _ _ _ _ h; exact h.elim
  | succ n ih =>
    intro x1 x2 x3 x4 x5 x7 x8 x9 x10 x11 σ h
    simp only [wp_X0_reckonInner_L89] at h
    refine g_iload C 10 11 rfl dX0_reckonInner_89 ?_
    refine g_iload C 9 10 rfl dX0_reckonInner_91 ?_
    refine g_icmp_gt C rfl rfl 183 (by decide) dX0_reckonInner_93 (fun hc => ?_) (fun hc => ?_)
    · have h := h.1 hc
      refine g_iload C 7 8 rfl dX0_reckonInner_183 ?_
      exact g_iret C hlocks hr h dX0_reckonInner_185
    · have h := h.2 hc
      refine g_iload C 10 11 rfl dX0_reckonInner_96 ?_
      refine g_iload C 8 9 rfl dX0_reckonInner_98 ?_
      refine g_iadd C dX0_reckonInner_100 ?_
      refine g_iload C 5 5 rfl dX0_reckonInner_101 ?_
      refine g_max C tw_X0_143 tw_maxS tw_maxI tw_maxC (Nat.le_of_ble_eq_true rfl) (Nat.le_of_ble_eq_true rfl) dX0_reckonInner_103 ?_
      refine g_name (fun x_1 ex_1 => ?_)
      have h := h x_1 ex_1
      refine g_istore C 12 [(0, .ref (ad 17)), (1, vI x1), (2, vI x2), (3, vI x3), (4, vI x4), (5, vI x5), (7, vI x7), (8, vI x8), (9, vI x9), (10, vI x10), (11, vI x11)] (by decide) rfl dX0_reckonInner_106 ?_
      obtain ⟨nn, h⟩ := h
      exact g_pick [1, 2, 3, 4, 5, 6, 7, 8, 9, 10, 11, 0] rfl (m_X0_reckonInner_L108 C hlocks hr (fun _ _ _ _ _ _ _ _ _ _ _ h => ih _ _ _ _ _ _ _ _ _ _ _ h) nn _ _ _ _ _ _ _ _ _ _ _ _ h)
set_option maxRecDepth 100000 in
set_option maxHeartbeats 4000000 in
theorem m_X0_reckonInner_B43 {p : Program} {l : Launch} {e : Env} {s : State} {m : MethodId} {args : Array Value} {below : List Frame} {meth : Method} {c : Code} {D : va_G} {cA : Nat → ClassId} {ad : Nat → Nat} (C : Cx p s m args c cX0_reckonInner RX0 15 D cA shC ad zsC) (hlocks : meth.locks = false) (hr : meth.sig.returnType = (some .int)) {Q : Int → St → Prop} {x1 x2 x3 x4 x5 x6 x7 y0 : Int} {σ : St} (h : wp_X0_reckonInner_B43 x1 x2 x3 x4 x5 x6 x7 y0 Q σ) : G p l e rm_X0_reckonInner s m args below meth c 0 0 15 D cA shC ad (QI D cA shC ad zsC below args s Q) σ [(0, .ref (ad 17)), (1, vI x1), (2, vI x2), (3, vI x3), (4, vI x4), (5, vI x5), (6, vI x6), (7, vI x7)] [vI y0] 43 := by
  unfold wp_X0_reckonInner_B43 at h
  refine g_istore C 8 [(0, .ref (ad 17)), (1, vI x1), (2, vI x2), (3, vI x3), (4, vI x4), (5, vI x5), (6, vI x6), (7, vI x7)] (by decide) rfl dX0_reckonInner_43 ?_
  refine g_iload C 7 6 rfl dX0_reckonInner_45 ?_
  refine g_iconst C dX0_reckonInner_47 ?_
  refine g_icmp_eq C (y' := 2) rfl (by decide) 61 (by decide) dX0_reckonInner_48 (fun hc => ?_) (fun hc => ?_)
  · have h := h.1 hc
    refine g_iload C 0 8 rfl dX0_reckonInner_61 ?_
    exact g_iret C hlocks hr h dX0_reckonInner_63
  · have h := h.2 hc
    refine g_aload_n C 1 0 rfl rfl dX0_reckonInner_51 ?_
    refine g_get C iX0 (ci := 0) (o := 17) (v := .ref (ad 29)) rfl rfl 7 (by decide) rfl tw_X0_28 dX0_reckonInner_52 ?_
    refine g_iload C 8 7 rfl dX0_reckonInner_55 ?_
    obtain ⟨hi, h⟩ := h
    refine g_iald C (o := 29) (N := 16) rfl rfl hi rfl dX0_reckonInner_57 ?_
    refine g_if_ne C rfl 64 (by decide) dX0_reckonInner_58 (fun hc => ?_) (fun hc => ?_)
    · have h := h.1 hc
      refine g_aload_n C 1 0 rfl rfl dX0_reckonInner_64 ?_
      refine g_iload_n C 2 1 rfl rfl dX0_reckonInner_65 ?_
      refine g_iload C 5 4 rfl dX0_reckonInner_66 ?_
      refine g_iload C 6 5 rfl dX0_reckonInner_68 ?_
      refine g_callIv C (m_X0_narrowest l D cA ad h) hv_X0_narrowest tw_X0_137 (o := 17) (ci := 0) (As := [vI x1, vI x4, vI x5]) (st := []) rfl rfl rfl rfl ⟨Nat.le_of_ble_eq_true rfl, Nat.le_of_ble_eq_true rfl⟩ rfl rfl (Nat.le_of_ble_eq_true rfl) dX0_reckonInner_70 (fun r2 σ1 h => ?_)
      try dsimp only at h
      refine g_istore C 9 [(8, vI y0), (0, .ref (ad 17)), (1, vI x1), (2, vI x2), (3, vI x3), (4, vI x4), (5, vI x5), (6, vI x6), (7, vI x7)] (by decide) rfl dX0_reckonInner_73 ?_
      refine g_aload_n C 2 0 rfl rfl dX0_reckonInner_75 ?_
      refine g_iload_n C 5 3 rfl rfl dX0_reckonInner_76 ?_
      refine g_iload C 6 4 rfl dX0_reckonInner_77 ?_
      refine g_iload C 0 9 rfl dX0_reckonInner_79 ?_
      refine g_callIv C (m_X0_lastBegin l D cA ad h) hv_X0_lastBegin tw_X0_140 (o := 17) (ci := 0) (As := [vI x3, vI x4, vI r2]) (st := []) rfl rfl rfl rfl ⟨Nat.le_of_ble_eq_true rfl, Nat.le_of_ble_eq_true rfl⟩ rfl rfl (Nat.le_of_ble_eq_true rfl) dX0_reckonInner_81 (fun r4 σ3 h => ?_)
      try dsimp only at h
      refine g_istore C 10 [(9, vI r2), (8, vI y0), (0, .ref (ad 17)), (1, vI x1), (2, vI x2), (3, vI x3), (4, vI x4), (5, vI x5), (6, vI x6), (7, vI x7)] (by decide) rfl dX0_reckonInner_84 ?_
      refine g_iload_n C 5 2 rfl rfl dX0_reckonInner_86 ?_
      refine g_istore C 11 [(10, vI r4), (9, vI r2), (8, vI y0), (0, .ref (ad 17)), (1, vI x1), (2, vI x2), (3, vI x3), (4, vI x4), (5, vI x5), (6, vI x6), (7, vI x7)] (by decide) rfl dX0_reckonInner_87 ?_
      obtain ⟨nn, h⟩ := h
      exact g_pick [4, 5, 6, 7, 8, 9, 11, 3, 2, 1, 0] rfl (m_X0_reckonInner_L89 C hlocks hr nn _ _ _ _ _ _ _ _ _ _ _ h)
    · have h := h.2 hc
      refine g_iload C 0 8 rfl dX0_reckonInner_61 ?_
      exact g_iret C hlocks hr h dX0_reckonInner_63
set_option maxRecDepth 100000 in
set_option maxHeartbeats 4000000 in
theorem m_X0_reckonInner_E {p : Program} {l : Launch} {e : Env} {s : State} {m : MethodId} {args : Array Value} {below : List Frame} {meth : Method} {c : Code} {D : va_G} {cA : Nat → ClassId} {ad : Nat → Nat} (C : Cx p s m args c cX0_reckonInner RX0 15 D cA shC ad zsC) (hlocks : meth.locks = false) (hr : meth.sig.returnType = (some .int)) {Q : Int → St → Prop} {a1 a2 a3 a4 a5 : Int} {σ : St} (h : wp_X0_reckonInner a1 a2 a3 a4 a5 Q σ) : G p l e rm_X0_reckonInner s m args below meth c 0 0 15 D cA shC ad (QI D cA shC ad zsC below args s Q) σ [(0, .ref (ad 17)), (1, vI a1), (2, vI a2), (3, vI a3), (4, vI a4), (5, vI a5)] [] 0 := by
  unfold wp_X0_reckonInner at h
  refine g_aload_n C 0 0 rfl rfl dX0_reckonInner_0 ?_
  refine g_get C iX0 (ci := 0) (o := 17) (v := .ref (ad 3)) rfl rfl 1 (by decide) rfl tw_X0_31 dX0_reckonInner_1 ?_
  refine g_iload_n C 1 1 rfl rfl dX0_reckonInner_4 ?_
  refine g_iconst C dX0_reckonInner_5 ?_
  refine g_callIv C (m_X1_cell l D cA ad h) hv_X1_cell tw_X0_48 (o := 3) (ci := 1) (As := [vI a1, vI 4]) (st := []) rfl rfl rfl rfl ⟨Nat.le_of_ble_eq_true rfl, Nat.le_of_ble_eq_true rfl⟩ rfl rfl (Nat.le_of_ble_eq_true rfl) dX0_reckonInner_6 (fun r2 σ1 h => ?_)
  try dsimp only at h
  refine g_istore C 6 [(0, .ref (ad 17)), (1, vI a1), (2, vI a2), (3, vI a3), (4, vI a4), (5, vI a5)] (by decide) rfl dX0_reckonInner_9 ?_
  refine g_aload_n C 1 0 rfl rfl dX0_reckonInner_11 ?_
  refine g_get C iX0 (ci := 0) (o := 17) (v := .ref (ad 3)) rfl rfl 1 (by decide) rfl tw_X0_31 dX0_reckonInner_12 ?_
  refine g_iload_n C 2 1 rfl rfl dX0_reckonInner_15 ?_
  refine g_iconst C dX0_reckonInner_16 ?_
  refine g_callIv C (m_X1_cell l D cA ad h) hv_X1_cell tw_X0_48 (o := 3) (ci := 1) (As := [vI a1, vI 1]) (st := []) rfl rfl rfl rfl ⟨Nat.le_of_ble_eq_true rfl, Nat.le_of_ble_eq_true rfl⟩ rfl rfl (Nat.le_of_ble_eq_true rfl) dX0_reckonInner_17 (fun r4 σ3 h => ?_)
  try dsimp only at h
  refine g_istore C 7 [(6, vI r2), (0, .ref (ad 17)), (1, vI a1), (2, vI a2), (3, vI a3), (4, vI a4), (5, vI a5)] (by decide) rfl dX0_reckonInner_20 ?_
  refine g_iload C 1 6 rfl dX0_reckonInner_22 ?_
  refine g_iconst C dX0_reckonInner_24 ?_
  refine g_icmp_ne C (y' := 1) rfl (by decide) 32 (by decide) dX0_reckonInner_25 (fun hc => ?_) (fun hc => ?_)
  · have h := h.1 hc
    refine g_aload_n C 2 0 rfl rfl dX0_reckonInner_32 ?_
    refine g_iload_n C 3 1 rfl rfl dX0_reckonInner_33 ?_
    refine g_iload_n C 4 2 rfl rfl dX0_reckonInner_34 ?_
    refine g_iload_n C 5 3 rfl rfl dX0_reckonInner_35 ?_
    refine g_iload C 6 4 rfl dX0_reckonInner_36 ?_
    refine g_iload C 7 5 rfl dX0_reckonInner_38 ?_
    refine g_callIv C (m_X0_partsWays l D cA ad h) hv_X0_partsWays tw_X0_134 (o := 17) (ci := 0) (As := [vI a1, vI a2, vI a3, vI a4, vI a5]) (st := []) rfl rfl rfl rfl ⟨Nat.le_of_ble_eq_true rfl, Nat.le_of_ble_eq_true rfl⟩ rfl rfl (Nat.le_of_ble_eq_true rfl) dX0_reckonInner_40 (fun r6 σ5 h => ?_)
    try dsimp only at h
    exact g_pick [2, 3, 4, 5, 6, 7, 1, 0] rfl (m_X0_reckonInner_B43 C hlocks hr h)
  · have h := h.2 hc
    refine g_iconst C dX0_reckonInner_28 ?_
    refine g_goto C 43 (by decide) dX0_reckonInner_29 ?_
    exact g_pick [2, 3, 4, 5, 6, 7, 1, 0] rfl (m_X0_reckonInner_B43 C hlocks hr h)
set_option maxRecDepth 100000 in
set_option maxHeartbeats 4000000 in
theorem m_X0_reckonInner (l : Launch) (D : va_G) (cA : Nat → ClassId) (ad : Nat → Nat) {a1 a2 a3 a4 a5 : Int} {Q : Int → St → Prop} {σ : St} (h : wp_X0_reckonInner a1 a2 a3 a4 a5 Q σ) : CtI l yX0_reckonInner (.code yX0_reckonInner cX0_reckonInner 15 (some .int)) rm_X0_reckonInner D cA shC ad zsC [.ref (ad 17), vI a1, vI a2, vI a3, vI a4, vI a5] σ Q :=
  ct_I RX0 (by decide +kernel) rfl (Nat.le_of_ble_eq_true rfl) (fun p e s m args below meth c C hlocks hr => m_X0_reckonInner_E C hlocks hr h)
abbrev rm_X0_reckonNode : Room := { frames := 4, cells := 0, slots := 0, locals := 82 }
set_option maxRecDepth 100000 in
set_option maxHeartbeats 4000000 in
theorem m_X0_reckonNode_E {p : Program} {l : Launch} {e : Env} {s : State} {m : MethodId} {args : Array Value} {below : List Frame} {meth : Method} {c : Code} {D : va_G} {cA : Nat → ClassId} {ad : Nat → Nat} (C : Cx p s m args c cX0_reckonNode RX0 7 D cA shC ad zsC) (hlocks : meth.locks = false) (hr : meth.sig.returnType = (some .int)) {Q : Int → St → Prop} {a1 a2 a3 a4 a5 : Int} {σ : St} (h : wp_X0_reckonNode a1 a2 a3 a4 a5 Q σ) : G p l e rm_X0_reckonNode s m args below meth c 0 0 7 D cA shC ad (QI D cA shC ad zsC below args s Q) σ [(0, .ref (ad 17)), (1, vI a1), (2, vI a2), (3, vI a3), (4, vI a4), (5, vI a5)] [] 0 := by
  unfold wp_X0_reckonNode at h
  refine g_aload_n C 0 0 rfl rfl dX0_reckonNode_0 ?_
  refine g_get C iX0 (ci := 0) (o := 17) (v := .ref (ad 3)) rfl rfl 1 (by decide) rfl tw_X0_31 dX0_reckonNode_1 ?_
  refine g_iload_n C 1 1 rfl rfl dX0_reckonNode_4 ?_
  refine g_iconst C dX0_reckonNode_5 ?_
  refine g_callIv C (m_X1_cell l D cA ad h) hv_X1_cell tw_X0_48 (o := 3) (ci := 1) (As := [vI a1, vI 1]) (st := []) rfl rfl rfl rfl ⟨Nat.le_of_ble_eq_true rfl, Nat.le_of_ble_eq_true rfl⟩ rfl rfl (Nat.le_of_ble_eq_true rfl) dX0_reckonNode_6 (fun r2 σ1 h => ?_)
  try dsimp only at h
  refine g_istore C 6 [(0, .ref (ad 17)), (1, vI a1), (2, vI a2), (3, vI a3), (4, vI a4), (5, vI a5)] (by decide) rfl dX0_reckonNode_9 ?_
  refine g_aload_n C 1 0 rfl rfl dX0_reckonNode_11 ?_
  refine g_get C iX0 (ci := 0) (o := 17) (v := .ref (ad 3)) rfl rfl 1 (by decide) rfl tw_X0_31 dX0_reckonNode_12 ?_
  refine g_iload_n C 2 1 rfl rfl dX0_reckonNode_15 ?_
  refine g_iconst C dX0_reckonNode_16 ?_
  refine g_callIv C (m_X1_cell l D cA ad h) hv_X1_cell tw_X0_48 (o := 3) (ci := 1) (As := [vI a1, vI 0]) (st := []) rfl rfl rfl rfl ⟨Nat.le_of_ble_eq_true rfl, Nat.le_of_ble_eq_true rfl⟩ rfl rfl (Nat.le_of_ble_eq_true rfl) dX0_reckonNode_17 (fun r4 σ3 h => ?_)
  try dsimp only at h
  rcases (show w32 r4 = 1 ∨ w32 r4 = 2 ∨ w32 r4 = 3 ∨ (w32 r4 < 1 ∨ 3 < w32 r4) by omega) with hc | hc | hc | hc
  · have h := h.1 hc
    refine g_tabIn C 90 1 hc (by decide) (by decide) rfl (by decide) dX0_reckonNode_20 ?_
    refine g_aload_n C 1 0 rfl rfl dX0_reckonNode_90 ?_
    refine g_iload C 0 6 rfl dX0_reckonNode_91 ?_
    refine g_iload_n C 3 2 rfl rfl dX0_reckonNode_93 ?_
    refine g_iload_n C 4 3 rfl rfl dX0_reckonNode_94 ?_
    refine g_callIv C (m_X0_initialWays l D cA ad h) hv_X0_initialWays tw_X0_127 (o := 17) (ci := 0) (As := [vI r2, vI a2, vI a3]) (st := []) rfl rfl rfl rfl ⟨Nat.le_of_ble_eq_true rfl, Nat.le_of_ble_eq_true rfl⟩ rfl rfl (Nat.le_of_ble_eq_true rfl) dX0_reckonNode_95 (fun r6 σ5 h => ?_)
    try dsimp only at h
    exact g_iret C hlocks hr h dX0_reckonNode_98
  · have h := h.2.1 hc
    refine g_tabIn C 72 2 hc (by decide) (by decide) rfl (by decide) dX0_reckonNode_20 ?_
    refine g_iload_n C 3 2 rfl rfl dX0_reckonNode_72 ?_
    refine g_iload C 5 4 rfl dX0_reckonNode_73 ?_
    refine g_icmp_ne C rfl rfl 88 (by decide) dX0_reckonNode_75 (fun hc => ?_) (fun hc => ?_)
    · have h := h.1 hc
      refine g_iconst C dX0_reckonNode_88 ?_
      exact g_iret C hlocks hr h dX0_reckonNode_89
    · have h := h.2 hc
      refine g_iload_n C 4 3 rfl rfl dX0_reckonNode_78 ?_
      refine g_iload C 6 5 rfl dX0_reckonNode_79 ?_
      refine g_icmp_ne C rfl rfl 88 (by decide) dX0_reckonNode_81 (fun hc => ?_) (fun hc => ?_)
      · have h := h.1 hc
        refine g_iconst C dX0_reckonNode_88 ?_
        exact g_iret C hlocks hr h dX0_reckonNode_89
      · have h := h.2 hc
        refine g_iconst C dX0_reckonNode_84 ?_
        refine g_goto C 89 (by decide) dX0_reckonNode_85 ?_
        exact g_iret C hlocks hr h dX0_reckonNode_89
  · have h := h.2.2.1 hc
    refine g_tabIn C 48 3 hc (by decide) (by decide) rfl (by decide) dX0_reckonNode_20 ?_
    refine g_iload_n C 4 3 rfl rfl dX0_reckonNode_48 ?_
    refine g_iload_n C 3 2 rfl rfl dX0_reckonNode_49 ?_
    refine g_iconst C dX0_reckonNode_50 ?_
    refine g_iadd C dX0_reckonNode_51 ?_
    refine g_icmp_ne C rfl rfl 70 (by decide) dX0_reckonNode_52 (fun hc => ?_) (fun hc => ?_)
    · have h := h.1 hc
      refine g_iconst C dX0_reckonNode_70 ?_
      exact g_iret C hlocks hr h dX0_reckonNode_71
    · have h := h.2 hc
      refine g_aload_n C 1 0 rfl rfl dX0_reckonNode_55 ?_
      refine g_get C iX0 (ci := 0) (o := 17) (v := .ref (ad 18)) rfl rfl 2 (by decide) rfl tw_X0_9 dX0_reckonNode_56 ?_
      refine g_iload_n C 3 2 rfl rfl dX0_reckonNode_59 ?_
      obtain ⟨hi, h⟩ := h
      refine g_iald C (o := 18) (N := 8) rfl rfl hi rfl dX0_reckonNode_60 ?_
      refine g_iload C 0 6 rfl dX0_reckonNode_61 ?_
      refine g_icmp_ne C rfl rfl 70 (by decide) dX0_reckonNode_63 (fun hc => ?_) (fun hc => ?_)
      · have h := h.1 hc
        refine g_iconst C dX0_reckonNode_70 ?_
        exact g_iret C hlocks hr h dX0_reckonNode_71
      · have h := h.2 hc
        refine g_iconst C dX0_reckonNode_66 ?_
        refine g_goto C 71 (by decide) dX0_reckonNode_67 ?_
        exact g_iret C hlocks hr h dX0_reckonNode_71
  · have h := h.2.2.2 hc
    refine g_tabOut C 99 hc (by decide) dX0_reckonNode_20 ?_
    refine g_aload_n C 1 0 rfl rfl dX0_reckonNode_99 ?_
    refine g_iload_n C 2 1 rfl rfl dX0_reckonNode_100 ?_
    refine g_iload_n C 3 2 rfl rfl dX0_reckonNode_101 ?_
    refine g_iload_n C 4 3 rfl rfl dX0_reckonNode_102 ?_
    refine g_iload C 5 4 rfl dX0_reckonNode_103 ?_
    refine g_iload C 6 5 rfl dX0_reckonNode_105 ?_
    refine g_callIv C (m_X0_reckonInner l D cA ad h) hv_X0_reckonInner tw_X0_131 (o := 17) (ci := 0) (As := [vI a1, vI a2, vI a3, vI a4, vI a5]) (st := []) rfl rfl rfl rfl ⟨Nat.le_of_ble_eq_true rfl, Nat.le_of_ble_eq_true rfl⟩ rfl rfl (Nat.le_of_ble_eq_true rfl) dX0_reckonNode_107 (fun r8 σ7 h => ?_)
    try dsimp only at h
    exact g_iret C hlocks hr h dX0_reckonNode_110
set_option maxRecDepth 100000 in
set_option maxHeartbeats 4000000 in
theorem m_X0_reckonNode (l : Launch) (D : va_G) (cA : Nat → ClassId) (ad : Nat → Nat) {a1 a2 a3 a4 a5 : Int} {Q : Int → St → Prop} {σ : St} (h : wp_X0_reckonNode a1 a2 a3 a4 a5 Q σ) : CtI l yX0_reckonNode (.code yX0_reckonNode cX0_reckonNode 7 (some .int)) rm_X0_reckonNode D cA shC ad zsC [.ref (ad 17), vI a1, vI a2, vI a3, vI a4, vI a5] σ Q :=
  ct_I RX0 (by decide +kernel) rfl (Nat.le_of_ble_eq_true rfl) (fun p e s m args below meth c C hlocks hr => m_X0_reckonNode_E C hlocks hr h)
abbrev rm_X0_lay : Room := { frames := 5, cells := 0, slots := 0, locals := 108 }
set_option maxRecDepth 100000 in
set_option maxHeartbeats 4000000 in
theorem m_X0_lay_B224 {p : Program} {l : Launch} {e : Env} {s : State} {m : MethodId} {args : Array Value} {below : List Frame} {meth : Method} {c : Code} {D : va_G} {cA : Nat → ClassId} {ad : Nat → Nat} (C : Cx p s m args c cX0_lay RX0 14 D cA shC ad zsC) (hlocks : meth.locks = false) (hr : meth.sig.returnType = none) {Q : St → Prop} {K57 : Int → Int → Int → Int → Int → Int → St → Prop} (hK57 : ∀ (x1 : Int) (x2 : Int) (x3 : Int) (x5 : Int) (x6 : Int) (x7 : Int) (σ : St), K57 x1 x2 x3 x5 x6 x7 σ → G p l e rm_X0_lay s m args below meth c 0 0 14 D cA shC ad (QV D cA shC ad zsC below args s Q) σ [(0, .ref (ad 17)), (1, vI x1), (2, vI x2), (3, vI x3), (4, .ref (ad 20)), (5, vI x5), (6, vI x6), (7, vI x7)] [] 57) {K95 : Int → Int → Int → Int → Int → Int → Int → Int → St → Prop} (hK95 : ∀ (x1 : Int) (x2 : Int) (x3 : Int) (x5 : Int) (x6 : Int) (x7 : Int) (x8 : Int) (x9 : Int) (σ : St), K95 x1 x2 x3 x5 x6 x7 x8 x9 σ → G p l e rm_X0_lay s m args below meth c 0 0 14 D cA shC ad (QV D cA shC ad zsC below args s Q) σ [(0, .ref (ad 17)), (1, vI x1), (2, vI x2), (3, vI x3), (4, .ref (ad 20)), (5, vI x5), (6, vI x6), (7, vI x7), (8, vI x8), (9, vI x9)] [] 95) {K122 : Int → Int → Int → Int → Int → Int → Int → Int → Int → Int → St → Prop} (hK122 : ∀ (x1 : Int) (x2 : Int) (x3 : Int) (x5 : Int) (x6 : Int) (x7 : Int) (x8 : Int) (x9 : Int) (x10 : Int) (x11 : Int) (σ : St), K122 x1 x2 x3 x5 x6 x7 x8 x9 x10 x11 σ → G p l e rm_X0_lay s m args below meth c 0 0 14 D cA shC ad (QV D cA shC ad zsC below args s Q) σ [(0, .ref (ad 17)), (1, vI x1), (2, vI x2), (3, vI x3), (4, .ref (ad 20)), (5, vI x5), (6, vI x6), (7, vI x7), (8, vI x8), (9, vI x9), (10, vI x10), (11, vI x11)] [] 122) {x1 x2 x3 x5 x6 x7 x8 x9 x10 x11 y1 y2 : Int} {σ : St} (h : wp_X0_lay_B224 K57 K95 K122 x1 x2 x3 x5 x6 x7 x8 x9 x10 x11 y1 y2 Q σ) : G p l e rm_X0_lay s m args below meth c 0 0 14 D cA shC ad (QV D cA shC ad zsC below args s Q) σ [(0, .ref (ad 17)), (1, vI x1), (2, vI x2), (3, vI x3), (4, .ref (ad 20)), (5, vI x5), (6, vI x6), (7, vI x7), (8, vI x8), (9, vI x9), (10, vI x10), (11, vI x11)] [vI y2, vI y1, .ref (ad 20)] 224 := by
  unfold wp_X0_lay_B224 at h
  obtain ⟨hi, h⟩ := h
  refine g_iast C (o := 20) (N := 63360) rfl rfl hi rfl dX0_lay_224 (fun σ1 eσ1 => ?_)
  have h := h σ1 eσ1
  refine g_iinc C 11 11 [(0, .ref (ad 17)), (1, vI x1), (2, vI x2), (3, vI x3), (4, .ref (ad 20)), (5, vI x5), (6, vI x6), (7, vI x7), (8, vI x8), (9, vI x9), (10, vI x10)] rfl (by decide) rfl dX0_lay_225 (fun x_2 ex_2 => ?_)
  have h := h x_2 ex_2
  refine g_goto C 122 (by decide) dX0_lay_228 ?_
  exact g_pick [1, 2, 3, 4, 5, 6, 7, 8, 9, 10, 11, 0] rfl (hK122 _ _ _ _ _ _ _ _ _ _ _ h)
set_option maxRecDepth 100000 in
set_option maxHeartbeats 4000000 in
theorem m_X0_lay_B161 {p : Program} {l : Launch} {e : Env} {s : State} {m : MethodId} {args : Array Value} {below : List Frame} {meth : Method} {c : Code} {D : va_G} {cA : Nat → ClassId} {ad : Nat → Nat} (C : Cx p s m args c cX0_lay RX0 14 D cA shC ad zsC) (hlocks : meth.locks = false) (hr : meth.sig.returnType = none) {Q : St → Prop} {K57 : Int → Int → Int → Int → Int → Int → St → Prop} (hK57 : ∀ (x1 : Int) (x2 : Int) (x3 : Int) (x5 : Int) (x6 : Int) (x7 : Int) (σ : St), K57 x1 x2 x3 x5 x6 x7 σ → G p l e rm_X0_lay s m args below meth c 0 0 14 D cA shC ad (QV D cA shC ad zsC below args s Q) σ [(0, .ref (ad 17)), (1, vI x1), (2, vI x2), (3, vI x3), (4, .ref (ad 20)), (5, vI x5), (6, vI x6), (7, vI x7)] [] 57) {K95 : Int → Int → Int → Int → Int → Int → Int → Int → St → Prop} (hK95 : ∀ (x1 : Int) (x2 : Int) (x3 : Int) (x5 : Int) (x6 : Int) (x7 : Int) (x8 : Int) (x9 : Int) (σ : St), K95 x1 x2 x3 x5 x6 x7 x8 x9 σ → G p l e rm_X0_lay s m args below meth c 0 0 14 D cA shC ad (QV D cA shC ad zsC below args s Q) σ [(0, .ref (ad 17)), (1, vI x1), (2, vI x2), (3, vI x3), (4, .ref (ad 20)), (5, vI x5), (6, vI x6), (7, vI x7), (8, vI x8), (9, vI x9)] [] 95) {K122 : Int → Int → Int → Int → Int → Int → Int → Int → Int → Int → St → Prop} (hK122 : ∀ (x1 : Int) (x2 : Int) (x3 : Int) (x5 : Int) (x6 : Int) (x7 : Int) (x8 : Int) (x9 : Int) (x10 : Int) (x11 : Int) (σ : St), K122 x1 x2 x3 x5 x6 x7 x8 x9 x10 x11 σ → G p l e rm_X0_lay s m args below meth c 0 0 14 D cA shC ad (QV D cA shC ad zsC below args s Q) σ [(0, .ref (ad 17)), (1, vI x1), (2, vI x2), (3, vI x3), (4, .ref (ad 20)), (5, vI x5), (6, vI x6), (7, vI x7), (8, vI x8), (9, vI x9), (10, vI x10), (11, vI x11)] [] 122) {x1 x2 x3 x5 x6 x7 x8 x9 x10 x11 x12 y0 : Int} {σ : St} (h : wp_X0_lay_B161 K57 K95 K122 x1 x2 x3 x5 x6 x7 x8 x9 x10 x11 x12 y0 Q σ) : G p l e rm_X0_lay s m args below meth c 0 0 14 D cA shC ad (QV D cA shC ad zsC below args s Q) σ [(0, .ref (ad 17)), (1, vI x1), (2, vI x2), (3, vI x3), (4, .ref (ad 20)), (5, vI x5), (6, vI x6), (7, vI x7), (8, vI x8), (9, vI x9), (10, vI x10), (11, vI x11), (12, vI x12)] [vI y0] 161 := by
  unfold wp_X0_lay_B161 at h
  refine g_istore C 13 [(0, .ref (ad 17)), (1, vI x1), (2, vI x2), (3, vI x3), (4, .ref (ad 20)), (5, vI x5), (6, vI x6), (7, vI x7), (8, vI x8), (9, vI x9), (10, vI x10), (11, vI x11), (12, vI x12)] (by decide) rfl dX0_lay_161 ?_
  refine g_aload C 5 4 rfl dX0_lay_163 ?_
  refine g_iload_n C 2 1 rfl rfl dX0_lay_165 ?_
  refine g_sipush C dX0_lay_166 (by decide) ?_
  refine g_imul C dX0_lay_169 ?_
  refine g_iload C 8 7 rfl dX0_lay_170 ?_
  refine g_iload C 10 9 rfl dX0_lay_172 ?_
  refine g_iload C 13 12 rfl dX0_lay_174 ?_
  refine g_iload C 0 13 rfl dX0_lay_176 ?_
  refine g_callIs C (m_X0_at l D cA ad h) hv_X0_at tw_X0_38 (As := [vI x7, vI x9, vI x12, vI y0]) (st := [vI (x1 * 330), .ref (ad 20)]) rfl rfl ⟨Nat.le_of_ble_eq_true rfl, Nat.le_of_ble_eq_true rfl⟩ rfl rfl (Nat.le_of_ble_eq_true rfl) dX0_lay_178 (fun r2 σ1 h => ?_)
  try dsimp only at h
  refine g_iadd C dX0_lay_181 ?_
  refine g_iload C 6 5 rfl dX0_lay_182 ?_
  refine g_if_ne C rfl 191 (by decide) dX0_lay_184 (fun hc => ?_) (fun hc => ?_)
  · have h := h.1 hc
    refine g_iload_n C 4 3 rfl rfl dX0_lay_191 ?_
    refine g_if_ne C rfl 211 (by decide) dX0_lay_192 (fun hc => ?_) (fun hc => ?_)
    · have h := h.1 hc
      refine g_aload_n C 1 0 rfl rfl dX0_lay_211 ?_
      refine g_iload_n C 2 1 rfl rfl dX0_lay_212 ?_
      refine g_iload C 8 7 rfl dX0_lay_213 ?_
      refine g_iload C 10 9 rfl dX0_lay_215 ?_
      refine g_iload C 13 12 rfl dX0_lay_217 ?_
      refine g_iload C 0 13 rfl dX0_lay_219 ?_
      refine g_callIv C (m_X0_reckonOnward l D cA ad h) hv_X0_reckonOnward tw_X0_124 (o := 17) (ci := 0) (As := [vI x1, vI x7, vI x9, vI x12, vI y0]) (st := [vI ((x1 * 330) + r2), .ref (ad 20)]) rfl rfl rfl rfl ⟨Nat.le_of_ble_eq_true rfl, Nat.le_of_ble_eq_true rfl⟩ rfl rfl (Nat.le_of_ble_eq_true rfl) dX0_lay_221 (fun r4 σ3 h => ?_)
      try dsimp only at h
      exact g_pick [1, 2, 3, 4, 5, 6, 7, 8, 9, 10, 11, 12] rfl (m_X0_lay_B224 C hlocks hr hK57 hK95 hK122 h)
    · have h := h.2 hc
      refine g_aload_n C 1 0 rfl rfl dX0_lay_195 ?_
      refine g_iload_n C 2 1 rfl rfl dX0_lay_196 ?_
      refine g_iload C 8 7 rfl dX0_lay_197 ?_
      refine g_iload C 10 9 rfl dX0_lay_199 ?_
      refine g_iload C 13 12 rfl dX0_lay_201 ?_
      refine g_iload C 0 13 rfl dX0_lay_203 ?_
      refine g_callIv C (m_X0_reckonNode l D cA ad h) hv_X0_reckonNode tw_X0_120 (o := 17) (ci := 0) (As := [vI x1, vI x7, vI x9, vI x12, vI y0]) (st := [vI ((x1 * 330) + r2), .ref (ad 20)]) rfl rfl rfl rfl ⟨Nat.le_of_ble_eq_true rfl, Nat.le_of_ble_eq_true rfl⟩ rfl rfl (Nat.le_of_ble_eq_true rfl) dX0_lay_205 (fun r6 σ5 h => ?_)
      try dsimp only at h
      refine g_goto C 224 (by decide) dX0_lay_208 ?_
      exact g_pick [1, 2, 3, 4, 5, 6, 7, 8, 9, 10, 11, 12] rfl (m_X0_lay_B224 C hlocks hr hK57 hK95 hK122 h)
  · have h := h.2 hc
    refine g_iconst C dX0_lay_187 ?_
    refine g_goto C 224 (by decide) dX0_lay_188 ?_
    exact g_pick [1, 2, 3, 4, 5, 6, 7, 8, 9, 10, 11, 12] rfl (m_X0_lay_B224 C hlocks hr hK57 hK95 hK122 h)
set_option maxRecDepth 100000 in
set_option maxHeartbeats 4000000 in
theorem m_X0_lay_B140 {p : Program} {l : Launch} {e : Env} {s : State} {m : MethodId} {args : Array Value} {below : List Frame} {meth : Method} {c : Code} {D : va_G} {cA : Nat → ClassId} {ad : Nat → Nat} (C : Cx p s m args c cX0_lay RX0 14 D cA shC ad zsC) (hlocks : meth.locks = false) (hr : meth.sig.returnType = none) {Q : St → Prop} {K57 : Int → Int → Int → Int → Int → Int → St → Prop} (hK57 : ∀ (x1 : Int) (x2 : Int) (x3 : Int) (x5 : Int) (x6 : Int) (x7 : Int) (σ : St), K57 x1 x2 x3 x5 x6 x7 σ → G p l e rm_X0_lay s m args below meth c 0 0 14 D cA shC ad (QV D cA shC ad zsC below args s Q) σ [(0, .ref (ad 17)), (1, vI x1), (2, vI x2), (3, vI x3), (4, .ref (ad 20)), (5, vI x5), (6, vI x6), (7, vI x7)] [] 57) {K95 : Int → Int → Int → Int → Int → Int → Int → Int → St → Prop} (hK95 : ∀ (x1 : Int) (x2 : Int) (x3 : Int) (x5 : Int) (x6 : Int) (x7 : Int) (x8 : Int) (x9 : Int) (σ : St), K95 x1 x2 x3 x5 x6 x7 x8 x9 σ → G p l e rm_X0_lay s m args below meth c 0 0 14 D cA shC ad (QV D cA shC ad zsC below args s Q) σ [(0, .ref (ad 17)), (1, vI x1), (2, vI x2), (3, vI x3), (4, .ref (ad 20)), (5, vI x5), (6, vI x6), (7, vI x7), (8, vI x8), (9, vI x9)] [] 95) {K122 : Int → Int → Int → Int → Int → Int → Int → Int → Int → Int → St → Prop} (hK122 : ∀ (x1 : Int) (x2 : Int) (x3 : Int) (x5 : Int) (x6 : Int) (x7 : Int) (x8 : Int) (x9 : Int) (x10 : Int) (x11 : Int) (σ : St), K122 x1 x2 x3 x5 x6 x7 x8 x9 x10 x11 σ → G p l e rm_X0_lay s m args below meth c 0 0 14 D cA shC ad (QV D cA shC ad zsC below args s Q) σ [(0, .ref (ad 17)), (1, vI x1), (2, vI x2), (3, vI x3), (4, .ref (ad 20)), (5, vI x5), (6, vI x6), (7, vI x7), (8, vI x8), (9, vI x9), (10, vI x10), (11, vI x11)] [] 122) {x1 x2 x3 x5 x6 x7 x8 x9 x10 x11 y0 : Int} {σ : St} (h : wp_X0_lay_B140 K57 K95 K122 x1 x2 x3 x5 x6 x7 x8 x9 x10 x11 y0 Q σ) : G p l e rm_X0_lay s m args below meth c 0 0 14 D cA shC ad (QV D cA shC ad zsC below args s Q) σ [(0, .ref (ad 17)), (1, vI x1), (2, vI x2), (3, vI x3), (4, .ref (ad 20)), (5, vI x5), (6, vI x6), (7, vI x7), (8, vI x8), (9, vI x9), (10, vI x10), (11, vI x11)] [vI y0] 140 := by
  unfold wp_X0_lay_B140 at h
  refine g_istore C 12 [(0, .ref (ad 17)), (1, vI x1), (2, vI x2), (3, vI x3), (4, .ref (ad 20)), (5, vI x5), (6, vI x6), (7, vI x7), (8, vI x8), (9, vI x9), (10, vI x10), (11, vI x11)] (by decide) rfl dX0_lay_140 ?_
  refine g_iload C 7 6 rfl dX0_lay_142 ?_
  refine g_if_ne C rfl 151 (by decide) dX0_lay_144 (fun hc => ?_) (fun hc => ?_)
  · have h := h.1 hc
    refine g_iload C 12 11 rfl dX0_lay_151 ?_
    refine g_iload C 10 9 rfl dX0_lay_153 ?_
    refine g_iadd C dX0_lay_155 ?_
    refine g_iload C 8 7 rfl dX0_lay_156 ?_
    refine g_isub C dX0_lay_158 ?_
    refine g_iload_n C 3 2 rfl rfl dX0_lay_159 ?_
    refine g_isub C dX0_lay_160 ?_
    exact g_pick [1, 2, 3, 4, 5, 6, 7, 8, 9, 10, 11, 12, 0] rfl (m_X0_lay_B161 C hlocks hr hK57 hK95 hK122 h)
  · have h := h.2 hc
    refine g_iconst C dX0_lay_147 ?_
    refine g_goto C 161 (by decide) dX0_lay_148 ?_
    exact g_pick [1, 2, 3, 4, 5, 6, 7, 8, 9, 10, 11, 12, 0] rfl (m_X0_lay_B161 C hlocks hr hK57 hK95 hK122 h)
set_option maxRecDepth 100000 in
set_option maxHeartbeats 4000000 in
theorem m_X0_lay_L122 {p : Program} {l : Launch} {e : Env} {s : State} {m : MethodId} {args : Array Value} {below : List Frame} {meth : Method} {c : Code} {D : va_G} {cA : Nat → ClassId} {ad : Nat → Nat} (C : Cx p s m args c cX0_lay RX0 14 D cA shC ad zsC) (hlocks : meth.locks = false) (hr : meth.sig.returnType = none) {Q : St → Prop} {K57 : Int → Int → Int → Int → Int → Int → St → Prop} (hK57 : ∀ (x1 : Int) (x2 : Int) (x3 : Int) (x5 : Int) (x6 : Int) (x7 : Int) (σ : St), K57 x1 x2 x3 x5 x6 x7 σ → G p l e rm_X0_lay s m args below meth c 0 0 14 D cA shC ad (QV D cA shC ad zsC below args s Q) σ [(0, .ref (ad 17)), (1, vI x1), (2, vI x2), (3, vI x3), (4, .ref (ad 20)), (5, vI x5), (6, vI x6), (7, vI x7)] [] 57) {K95 : Int → Int → Int → Int → Int → Int → Int → Int → St → Prop} (hK95 : ∀ (x1 : Int) (x2 : Int) (x3 : Int) (x5 : Int) (x6 : Int) (x7 : Int) (x8 : Int) (x9 : Int) (σ : St), K95 x1 x2 x3 x5 x6 x7 x8 x9 σ → G p l e rm_X0_lay s m args below meth c 0 0 14 D cA shC ad (QV D cA shC ad zsC below args s Q) σ [(0, .ref (ad 17)), (1, vI x1), (2, vI x2), (3, vI x3), (4, .ref (ad 20)), (5, vI x5), (6, vI x6), (7, vI x7), (8, vI x8), (9, vI x9)] [] 95) : ∀ (n : Nat) (x1 : Int) (x2 : Int) (x3 : Int) (x5 : Int) (x6 : Int) (x7 : Int) (x8 : Int) (x9 : Int) (x10 : Int) (x11 : Int) (σ : St), wp_X0_lay_L122 K57 K95 Q n x1 x2 x3 x5 x6 x7 x8 x9 x10 x11 σ → G p l e rm_X0_lay s m args below meth c 0 0 14 D cA shC ad (QV D cA shC ad zsC below args s Q) σ [(0, .ref (ad 17)), (1, vI x1), (2, vI x2), (3, vI x3), (4, .ref (ad 20)), (5, vI x5), (6, vI x6), (7, vI x7), (8, vI x8), (9, vI x9), (10, vI x10), (11, vI x11)] [] 122 := by
  intro n
  induction n with
  | zero => intro _ _ _ _ _ _ _ _ _ _ _ h; exact h.elim
  | succ n ih =>
    intro x1 x2 x3 x5 x6 x7 x8 x9 x10 x11 σ h
    simp only [wp_X0_lay_L122] at h
    refine g_iload C 11 11 rfl dX0_lay_122 ?_
    refine g_iload C 10 10 rfl dX0_lay_124 ?_
    refine g_icmp_gt C rfl rfl 231 (by decide) dX0_lay_126 (fun hc => ?_) (fun hc => ?_)
    · have h := h.1 hc
      refine g_iinc C 9 9 [(0, .ref (ad 17)), (1, vI x1), (2, vI x2), (3, vI x3), (4, .ref (ad 20)), (5, vI x5), (6, vI x6), (7, vI x7), (8, vI x8), (10, vI x10), (11, vI x11)] rfl (by decide) rfl dX0_lay_231 (fun x_1 ex_1 => ?_)
      have h := h x_1 ex_1
      refine g_goto C 95 (by decide) dX0_lay_234 ?_
      exact g_pick [1, 2, 3, 4, 5, 6, 7, 8, 9, 0] rfl (hK95 _ _ _ _ _ _ _ _ _ h)
    · have h := h.2 hc
      refine g_iload C 6 6 rfl dX0_lay_129 ?_
      refine g_if_ne C rfl 138 (by decide) dX0_lay_131 (fun hc => ?_) (fun hc => ?_)
      · have h := h.1 hc
        refine g_iload C 11 11 rfl dX0_lay_138 ?_
        exact g_pick [0, 1, 2, 3, 4, 5, 6, 7, 8, 9, 10, 11] rfl (m_X0_lay_B140 C hlocks hr hK57 hK95 (fun _ _ _ _ _ _ _ _ _ _ _ h => ih _ _ _ _ _ _ _ _ _ _ _ h) h)
      · have h := h.2 hc
        refine g_iconst C dX0_lay_134 ?_
        refine g_goto C 140 (by decide) dX0_lay_135 ?_
        exact g_pick [0, 1, 2, 3, 4, 5, 6, 7, 8, 9, 10, 11] rfl (m_X0_lay_B140 C hlocks hr hK57 hK95 (fun _ _ _ _ _ _ _ _ _ _ _ h => ih _ _ _ _ _ _ _ _ _ _ _ h) h)
set_option maxRecDepth 100000 in
set_option maxHeartbeats 4000000 in
theorem m_X0_lay_B116 {p : Program} {l : Launch} {e : Env} {s : State} {m : MethodId} {args : Array Value} {below : List Frame} {meth : Method} {c : Code} {D : va_G} {cA : Nat → ClassId} {ad : Nat → Nat} (C : Cx p s m args c cX0_lay RX0 14 D cA shC ad zsC) (hlocks : meth.locks = false) (hr : meth.sig.returnType = none) {Q : St → Prop} {K57 : Int → Int → Int → Int → Int → Int → St → Prop} (hK57 : ∀ (x1 : Int) (x2 : Int) (x3 : Int) (x5 : Int) (x6 : Int) (x7 : Int) (σ : St), K57 x1 x2 x3 x5 x6 x7 σ → G p l e rm_X0_lay s m args below meth c 0 0 14 D cA shC ad (QV D cA shC ad zsC below args s Q) σ [(0, .ref (ad 17)), (1, vI x1), (2, vI x2), (3, vI x3), (4, .ref (ad 20)), (5, vI x5), (6, vI x6), (7, vI x7)] [] 57) {K95 : Int → Int → Int → Int → Int → Int → Int → Int → St → Prop} (hK95 : ∀ (x1 : Int) (x2 : Int) (x3 : Int) (x5 : Int) (x6 : Int) (x7 : Int) (x8 : Int) (x9 : Int) (σ : St), K95 x1 x2 x3 x5 x6 x7 x8 x9 σ → G p l e rm_X0_lay s m args below meth c 0 0 14 D cA shC ad (QV D cA shC ad zsC below args s Q) σ [(0, .ref (ad 17)), (1, vI x1), (2, vI x2), (3, vI x3), (4, .ref (ad 20)), (5, vI x5), (6, vI x6), (7, vI x7), (8, vI x8), (9, vI x9)] [] 95) {x1 x2 x3 x5 x6 x7 x8 x9 y0 : Int} {σ : St} (h : wp_X0_lay_B116 K57 K95 x1 x2 x3 x5 x6 x7 x8 x9 y0 Q σ) : G p l e rm_X0_lay s m args below meth c 0 0 14 D cA shC ad (QV D cA shC ad zsC below args s Q) σ [(0, .ref (ad 17)), (1, vI x1), (2, vI x2), (3, vI x3), (4, .ref (ad 20)), (5, vI x5), (6, vI x6), (7, vI x7), (8, vI x8), (9, vI x9)] [vI y0] 116 := by
  unfold wp_X0_lay_B116 at h
  refine g_istore C 10 [(0, .ref (ad 17)), (1, vI x1), (2, vI x2), (3, vI x3), (4, .ref (ad 20)), (5, vI x5), (6, vI x6), (7, vI x7), (8, vI x8), (9, vI x9)] (by decide) rfl dX0_lay_116 ?_
  refine g_iload C 8 7 rfl dX0_lay_118 ?_
  refine g_istore C 11 [(10, vI y0), (0, .ref (ad 17)), (1, vI x1), (2, vI x2), (3, vI x3), (4, .ref (ad 20)), (5, vI x5), (6, vI x6), (7, vI x7), (8, vI x8), (9, vI x9)] (by decide) rfl dX0_lay_120 ?_
  obtain ⟨nn, h⟩ := h
  exact g_pick [2, 3, 4, 5, 6, 7, 8, 9, 10, 11, 1, 0] rfl (m_X0_lay_L122 C hlocks hr hK57 hK95 nn _ _ _ _ _ _ _ _ _ _ _ h)
set_option maxRecDepth 100000 in
set_option maxHeartbeats 4000000 in
theorem m_X0_lay_L95 {p : Program} {l : Launch} {e : Env} {s : State} {m : MethodId} {args : Array Value} {below : List Frame} {meth : Method} {c : Code} {D : va_G} {cA : Nat → ClassId} {ad : Nat → Nat} (C : Cx p s m args c cX0_lay RX0 14 D cA shC ad zsC) (hlocks : meth.locks = false) (hr : meth.sig.returnType = none) {Q : St → Prop} {K57 : Int → Int → Int → Int → Int → Int → St → Prop} (hK57 : ∀ (x1 : Int) (x2 : Int) (x3 : Int) (x5 : Int) (x6 : Int) (x7 : Int) (σ : St), K57 x1 x2 x3 x5 x6 x7 σ → G p l e rm_X0_lay s m args below meth c 0 0 14 D cA shC ad (QV D cA shC ad zsC below args s Q) σ [(0, .ref (ad 17)), (1, vI x1), (2, vI x2), (3, vI x3), (4, .ref (ad 20)), (5, vI x5), (6, vI x6), (7, vI x7)] [] 57) : ∀ (n : Nat) (x1 : Int) (x2 : Int) (x3 : Int) (x5 : Int) (x6 : Int) (x7 : Int) (x8 : Int) (x9 : Int) (σ : St), wp_X0_lay_L95 K57 Q n x1 x2 x3 x5 x6 x7 x8 x9 σ → G p l e rm_X0_lay s m args below meth c 0 0 14 D cA shC ad (QV D cA shC ad zsC below args s Q) σ [(0, .ref (ad 17)), (1, vI x1), (2, vI x2), (3, vI x3), (4, .ref (ad 20)), (5, vI x5), (6, vI x6), (7, vI x7), (8, vI x8), (9, vI x9)] [] 95 := by
  intro n
  induction n with
  | zero => intro _ _ _ _ _ _ _ _ _ h; exact h.elim
  | succ n ih =>
    intro x1 x2 x3 x5 x6 x7 x8 x9 σ h
    simp only [wp_X0_lay_L95] at h
    refine g_iload C 9 9 rfl dX0_lay_95 ?_
    refine g_iload C 8 8 rfl dX0_lay_97 ?_
    refine g_icmp_gt C rfl rfl 237 (by decide) dX0_lay_99 (fun hc => ?_) (fun hc => ?_)
    · have h := h.1 hc
      refine g_iinc C 7 7 [(0, .ref (ad 17)), (1, vI x1), (2, vI x2), (3, vI x3), (4, .ref (ad 20)), (5, vI x5), (6, vI x6), (8, vI x8), (9, vI x9)] rfl (by decide) rfl dX0_lay_237 (fun x_1 ex_1 => ?_)
      have h := h x_1 ex_1
      refine g_goto C 57 (by decide) dX0_lay_240 ?_
      exact g_pick [1, 2, 3, 4, 5, 6, 7, 0] rfl (hK57 _ _ _ _ _ _ _ h)
    · have h := h.2 hc
      refine g_iload C 6 6 rfl dX0_lay_102 ?_
      refine g_if_ne C rfl 112 (by decide) dX0_lay_104 (fun hc => ?_) (fun hc => ?_)
      · have h := h.1 hc
        refine g_iload C 7 7 rfl dX0_lay_112 ?_
        refine g_iload_n C 2 2 rfl rfl dX0_lay_114 ?_
        refine g_iadd C dX0_lay_115 ?_
        exact g_pick [0, 1, 2, 3, 4, 5, 6, 7, 8, 9] rfl (m_X0_lay_B116 C hlocks hr hK57 (fun _ _ _ _ _ _ _ _ _ h => ih _ _ _ _ _ _ _ _ _ h) h)
      · have h := h.2 hc
        refine g_iload C 7 7 rfl dX0_lay_107 ?_
        refine g_goto C 116 (by decide) dX0_lay_109 ?_
        exact g_pick [0, 1, 2, 3, 4, 5, 6, 7, 8, 9] rfl (m_X0_lay_B116 C hlocks hr hK57 (fun _ _ _ _ _ _ _ _ _ h => ih _ _ _ _ _ _ _ _ _ h) h)
set_option maxRecDepth 100000 in
set_option maxHeartbeats 4000000 in
theorem m_X0_lay_B84 {p : Program} {l : Launch} {e : Env} {s : State} {m : MethodId} {args : Array Value} {below : List Frame} {meth : Method} {c : Code} {D : va_G} {cA : Nat → ClassId} {ad : Nat → Nat} (C : Cx p s m args c cX0_lay RX0 14 D cA shC ad zsC) (hlocks : meth.locks = false) (hr : meth.sig.returnType = none) {Q : St → Prop} {K57 : Int → Int → Int → Int → Int → Int → St → Prop} (hK57 : ∀ (x1 : Int) (x2 : Int) (x3 : Int) (x5 : Int) (x6 : Int) (x7 : Int) (σ : St), K57 x1 x2 x3 x5 x6 x7 σ → G p l e rm_X0_lay s m args below meth c 0 0 14 D cA shC ad (QV D cA shC ad zsC below args s Q) σ [(0, .ref (ad 17)), (1, vI x1), (2, vI x2), (3, vI x3), (4, .ref (ad 20)), (5, vI x5), (6, vI x6), (7, vI x7)] [] 57) {x1 x2 x3 x5 x6 x7 y0 : Int} {σ : St} (h : wp_X0_lay_B84 K57 x1 x2 x3 x5 x6 x7 y0 Q σ) : G p l e rm_X0_lay s m args below meth c 0 0 14 D cA shC ad (QV D cA shC ad zsC below args s Q) σ [(0, .ref (ad 17)), (1, vI x1), (2, vI x2), (3, vI x3), (4, .ref (ad 20)), (5, vI x5), (6, vI x6), (7, vI x7)] [vI y0] 84 := by
  unfold wp_X0_lay_B84 at h
  refine g_istore C 8 [(0, .ref (ad 17)), (1, vI x1), (2, vI x2), (3, vI x3), (4, .ref (ad 20)), (5, vI x5), (6, vI x6), (7, vI x7)] (by decide) rfl dX0_lay_84 ?_
  refine g_iload C 8 7 rfl dX0_lay_86 ?_
  refine g_iload_n C 3 2 rfl rfl dX0_lay_88 ?_
  refine g_iadd C dX0_lay_89 ?_
  refine g_iload C 7 6 rfl dX0_lay_90 ?_
  refine g_iadd C dX0_lay_92 ?_
  refine g_name (fun x_1 ex_1 => ?_)
  have h := h x_1 ex_1
  refine g_istore C 9 [(8, vI y0), (0, .ref (ad 17)), (1, vI x1), (2, vI x2), (3, vI x3), (4, .ref (ad 20)), (5, vI x5), (6, vI x6), (7, vI x7)] (by decide) rfl dX0_lay_93 ?_
  obtain ⟨nn, h⟩ := h
  exact g_pick [2, 3, 4, 5, 6, 7, 8, 9, 1, 0] rfl (m_X0_lay_L95 C hlocks hr hK57 nn _ _ _ _ _ _ _ _ _ h)
