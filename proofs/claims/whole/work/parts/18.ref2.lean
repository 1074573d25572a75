/-! laid by a program: contracts of X7_kind, X7_garland, X7_doll, X7_reason, X7_longest, X7_count -/
abbrev rm_X7_kind : Room := { frames := 2, cells := 0, slots := 0, locals := 47 }
theorem ydv_X7_kind : yX7_kind.cls = RX7 ∧ yX7_kind.cls ≠ "java/lang/invoke/MethodHandle" ∧ yX7_kind.cls ≠ "java/lang/invoke/VarHandle" ∧ (parseMethodDescriptor yX7_kind.desc).map (fun d => d.parameters.length) = some 2 := by decide +kernel
theorem inf_X7_kind_X7 : ∀ w ∈ wsX70, w ∈ wsX7_kind := fun w h => List.mem_cons_of_mem _ (List.mem_append_right _ (h))
set_option maxHeartbeats 4000000 in
set_option maxRecDepth 100000 in
theorem c_X7_kind (l : Launch) (D : va_G) (cA : ClassId) (m0 m1 : Nat) (fs : List Value) (a M : Nat → Nat) (x w : Int32) (hV : Vd a) (hM : Rl a M) : RO l D cA yX7_kind wsX7_kind rm_X7_kind [.ref m0, .int x, .int w] [(m0, .inr (7, .ref m1 :: fs)), (m1, .inl (cA, 286, .inl (nF M)))] (sKind a x w) := by
  refine ofWi (cc := cX7_kind) (maxL := 4) (rt := .int) (by decide) rfl (Nat.le_of_ble_eq_true rfl) ?_
  intro p e s m args below meth c Q A ls F hK hR hP hD hA hS hl RET
  obtain ⟨hx, hb, hml, hown, hts⟩ := id F
  have hl : lv_has ls 4 [(0, .ref m0), (1, .int x), (2, .int w)] := hl
  refine lv_aload_n hx hb dX7_kind_0 rfl (lv_at hl 0 rfl) ?_
  refine lv_iload_n hx hb dX7_kind_1 rfl (lv_at hl 1 rfl) ?_
  refine call_r (q := (RX7, TX7, 14)) (As := [.int x]) (rest := []) F (c_X7_isKind l D cA m0 m1 fs a M x (hV) (hM)) (cwV 1 hts gX7_kind_X7_isKind rfl rfl rfl ydv_X7_isKind ⟨Nat.le_of_ble_eq_true rfl, Nat.le_of_ble_eq_true rfl⟩) hK hR hP hD hA hS [0, 1] rfl rfl 0 7 rfl rfl rfl hl.1 rfl (Nat.le_of_ble_eq_true rfl) dX7_kind_2 ⟨Nat.zero_le _, Nat.zero_le _⟩ (fun H locs hP hS => ?_)
  refine bv_if_ne (tgt := 10) hx hb dX7_kind_5 (by decide) (fun c_5 => ?_) (fun c_5 => ?_)
  · have hk_ := hV.k
    obtain ⟨k, hk, rfl⟩ := isB_t (by omega) c_5
    have hcx : cN (nI k) = k := cN_nI (by omega)
    have hb1_ := hV.h (k := k) (by omega)
    have hb2_ := hV.h (k := 10 + k) (by omega)
    rw [show 2 + (10 + k) = 12 + k by omega] at hb2_
    refine lv_iconst (v := nI 2) hx hb dX7_kind_10 (by decide) ?_
    refine lv_iconst (v := nI 2) hx hb dX7_kind_11 (by decide) ?_
    refine lv_iload_n hx hb dX7_kind_12 rfl (lv_at hl 1 rfl) ?_
    refine nv_imul hx hb dX7_kind_13 ?_
    refine nv_iadd hx hb dX7_kind_14 ?_
    refine lv_istore_n (lv' := [(3, .int (nI (2 + (2 * k)))), (0, .ref m0), (1, .int (nI k)), (2, .int w)]) hx hb dX7_kind_15 rfl hl (by decide) rfl (fun ls hl => ?_)
    refine lv_iload_n hx hb dX7_kind_16 rfl (lv_at hl 3 rfl) ?_
    rcases sw_5 w with rfl | rfl | rfl | rfl | rfl | c_17
    · refine lv_tableIn (tgt := 52) hx hb dX7_kind_17 (by decide) (by decide) rfl (by decide) ?_
      refine lv_aload_n hx hb dX7_kind_52 rfl (lv_at hl 1 rfl) ?_
      refine va_get (D := D) (cl := vwCl) (ci := 7) (v := .ref m1) (C := RX7) (T := TX7) (N := 14) hx hb hts inf_X7_kind_X7 hown hK.1 (hR.at hS) 0 rfl rfl 0 (by decide) (hts _ (List.mem_of_getElem? (i := 1) rfl)) (fun _ h9 => h9) rfl dX7_kind_53 ?_
      refine lv_iload_n hx hb dX7_kind_56 rfl (lv_at hl 0 rfl) ?_
      refine lv_iload_n hx hb dX7_kind_57 rfl (lv_at hl 3 rfl) ?_
      refine nv_iadd hx hb dX7_kind_58 ?_
      refine nv_iald (a := M) hx hb hK (hR.at hS) 1 rfl (by omega) (by decide) dX7_kind_59 ?_
      refine tope (y := nI (a (2 + k))) (congrArg nI (hM.a (by omega))) ?_
      refine tope (y := sKind a (nI k) (nI 0)) (by simp [sKind, c_5, hcx, swN_0]) ?_
      exact RET _ _ _ _ _ () dX7_kind_60 rfl rfl hP hS
    · refine lv_tableIn (tgt := 52) hx hb dX7_kind_17 (by decide) (by decide) rfl (by decide) ?_
      refine lv_aload_n hx hb dX7_kind_52 rfl (lv_at hl 1 rfl) ?_
      refine va_get (D := D) (cl := vwCl) (ci := 7) (v := .ref m1) (C := RX7) (T := TX7) (N := 14) hx hb hts inf_X7_kind_X7 hown hK.1 (hR.at hS) 0 rfl rfl 0 (by decide) (hts _ (List.mem_of_getElem? (i := 1) rfl)) (fun _ h9 => h9) rfl dX7_kind_53 ?_
      refine lv_iload_n hx hb dX7_kind_56 rfl (lv_at hl 0 rfl) ?_
      refine lv_iload_n hx hb dX7_kind_57 rfl (lv_at hl 3 rfl) ?_
      refine nv_iadd hx hb dX7_kind_58 ?_
      refine nv_iald (a := M) hx hb hK (hR.at hS) 1 rfl (by omega) (by decide) dX7_kind_59 ?_
      refine tope (y := nI (a (12 + k))) (congrArg nI (hM.b (by omega))) ?_
      refine tope (y := sKind a (nI k) (nI 1)) (by simp [sKind, c_5, hcx, swN_1]) ?_
      exact RET _ _ _ _ _ () dX7_kind_60 rfl rfl hP hS
    · refine lv_tableIn (tgt := 61) hx hb dX7_kind_17 (by decide) (by decide) rfl (by decide) ?_
      refine lv_aload_n hx hb dX7_kind_61 rfl (lv_at hl 1 rfl) ?_
      refine lv_iload_n hx hb dX7_kind_62 rfl (lv_at hl 2 rfl) ?_
      refine lv_iload_n hx hb dX7_kind_63 rfl (lv_at hl 3 rfl) ?_
      refine lv_iconst (v := nI 3) hx hb dX7_kind_64 (by decide) ?_
      refine nv_icmp_ne (tgt := 72) hx hb dX7_kind_65 (by decide) (by decide) (by decide) (fun c_65 => ?_) (fun c_65 => absurd c_65 (by decide))
      refine lv_iconst (v := nI 0) hx hb dX7_kind_72 (by decide) ?_
      refine call_r (q := (RX7, TX7, 14)) (As := [.int (nI k), .int (nI 0)]) (rest := []) F (c_X7_dollsOf0 l D cA m0 m1 fs a M k (hV) (hM) (by omega)) (cwV 2 hts gX7_kind_X7_dollsOf rfl rfl rfl ydv_X7_dollsOf ⟨Nat.le_of_ble_eq_true rfl, Nat.le_of_ble_eq_true rfl⟩) hK hR hP hD hA hS [0, 1] rfl rfl 0 7 rfl rfl rfl hl.1 rfl (Nat.le_of_ble_eq_true rfl) dX7_kind_73 ⟨Nat.zero_le _, Nat.zero_le _⟩ (fun H locs hP hS => ?_)
      refine tope (y := sKind a (nI k) (nI 2)) (by simp [sKind, c_5, c_65, hcx, swN_2]) ?_
      exact RET _ _ _ _ _ () dX7_kind_76 rfl rfl hP hS
    · refine lv_tableIn (tgt := 61) hx hb dX7_kind_17 (by decide) (by decide) rfl (by decide) ?_
      refine lv_aload_n hx hb dX7_kind_61 rfl (lv_at hl 1 rfl) ?_
      refine lv_iload_n hx hb dX7_kind_62 rfl (lv_at hl 2 rfl) ?_
      refine lv_iload_n hx hb dX7_kind_63 rfl (lv_at hl 3 rfl) ?_
      refine lv_iconst (v := nI 3) hx hb dX7_kind_64 (by decide) ?_
      refine nv_icmp_ne (tgt := 72) hx hb dX7_kind_65 (by decide) (by decide) (by decide) (fun c_65 => absurd c_65 (by decide)) (fun c_65 => ?_)
      refine lv_iconst (v := nI 1) hx hb dX7_kind_68 (by decide) ?_
      refine lv_goto (tgt := 73) hx hb dX7_kind_69 (by decide) ?_
      refine call_r (q := (RX7, TX7, 14)) (As := [.int (nI k), .int (nI 1)]) (rest := []) F (c_X7_dollsOf1 l D cA m0 m1 fs a M k (hV) (hM) (by omega)) (cwV 2 hts gX7_kind_X7_dollsOf rfl rfl rfl ydv_X7_dollsOf ⟨Nat.le_of_ble_eq_true rfl, Nat.le_of_ble_eq_true rfl⟩) hK hR hP hD hA hS [0, 1] rfl rfl 0 7 rfl rfl rfl hl.1 rfl (Nat.le_of_ble_eq_true rfl) dX7_kind_73 ⟨Nat.zero_le _, Nat.zero_le _⟩ (fun H locs hP hS => ?_)
      refine tope (y := sKind a (nI k) (nI 3)) (by simp [sKind, c_5, c_65, hcx, swN_3]) ?_
      exact RET _ _ _ _ _ () dX7_kind_76 rfl rfl hP hS
    · refine lv_tableIn (tgt := 77) hx hb dX7_kind_17 (by decide) (by decide) rfl (by decide) ?_
      refine lv_aload_n hx hb dX7_kind_77 rfl (lv_at hl 1 rfl) ?_
      refine va_get (D := D) (cl := vwCl) (ci := 7) (v := .ref m1) (C := RX7) (T := TX7) (N := 14) hx hb hts inf_X7_kind_X7 hown hK.1 (hR.at hS) 0 rfl rfl 0 (by decide) (hts _ (List.mem_of_getElem? (i := 1) rfl)) (fun _ h9 => h9) rfl dX7_kind_78 ?_
      refine lv_iload_n hx hb dX7_kind_81 rfl (lv_at hl 0 rfl) ?_
      refine nv_iald (a := M) hx hb hK (hR.at hS) 1 rfl (by omega) (by decide) dX7_kind_82 ?_
      refine tope (y := nI (a (2 + k))) (congrArg nI (hM.a (by omega))) ?_
      refine lv_aload_n hx hb dX7_kind_83 rfl (lv_at hl 1 rfl) ?_
      refine va_get (D := D) (cl := vwCl) (ci := 7) (v := .ref m1) (C := RX7) (T := TX7) (N := 14) hx hb hts inf_X7_kind_X7 hown hK.1 (hR.at hS) 0 rfl rfl 0 (by decide) (hts _ (List.mem_of_getElem? (i := 1) rfl)) (fun _ h9 => h9) rfl dX7_kind_84 ?_
      refine lv_iload_n hx hb dX7_kind_87 rfl (lv_at hl 0 rfl) ?_
      refine lv_iconst (v := nI 1) hx hb dX7_kind_88 (by decide) ?_
      refine nv_iadd hx hb dX7_kind_89 ?_
      refine nv_iald (a := M) hx hb hK (hR.at hS) 1 rfl (by omega) (by decide) dX7_kind_90 ?_
      refine tope (y := nI (a (12 + k))) (congrArg nI (hM.b (by omega))) ?_
      refine nv_icmp_ne (tgt := 98) hx hb dX7_kind_91 (by decide) (by omega) (by omega) (fun c_91 => ?_) (fun c_91 => ?_)
      · refine lv_iconst (v := nI 0) hx hb dX7_kind_98 (by decide) ?_
        refine tope (y := sKind a (nI k) (nI 4)) (by first | (simp [sKind, c_5, hcx, swN_4, b2n, c_91]; done) | (simp [sKind, c_5, hcx, swN_4, b2n, eq_true c_91]; done)) ?_
        exact RET _ _ _ _ _ () dX7_kind_99 rfl rfl hP hS
      · refine lv_iconst (v := nI 1) hx hb dX7_kind_94 (by decide) ?_
        refine lv_goto (tgt := 99) hx hb dX7_kind_95 (by decide) ?_
        refine tope (y := sKind a (nI k) (nI 4)) (by first | (simp [sKind, c_5, hcx, swN_4, b2n, c_91]; done) | (simp [sKind, c_5, hcx, swN_4, b2n, eq_true c_91]; done)) ?_
        exact RET _ _ _ _ _ () dX7_kind_99 rfl rfl hP hS
    · refine lv_tableOut (tgt := 100) hx hb dX7_kind_17 c_17 (by decide) ?_
      refine lv_bipush (v := -2) hx hb dX7_kind_100 (by decide) ?_
      refine tope (y := sKind a (nI k) w) (by have h9_ := swN_ge (n := 4) (by decide) c_17; rw [sKind]; repeat (rw [if_neg (by first | omega | simp [c_5, hcx])])) ?_
      exact RET _ _ _ _ _ () dX7_kind_102 rfl rfl hP hS
  · refine lv_iconst (v := -1) hx hb dX7_kind_8 (by decide) ?_
    refine tope (y := sKind a x w) (by simp [sKind, c_5]) ?_
    exact RET _ _ _ _ _ () dX7_kind_9 rfl rfl hP hS
abbrev rm_X7_garland : Room := { frames := 4, cells := 0, slots := 0, locals := 91 }
theorem ydv_X7_garland : yX7_garland.cls = RX7 ∧ yX7_garland.cls ≠ "java/lang/invoke/MethodHandle" ∧ yX7_garland.cls ≠ "java/lang/invoke/VarHandle" ∧ (parseMethodDescriptor yX7_garland.desc).map (fun d => d.parameters.length) = some 2 := by decide +kernel
theorem inf_X7_garland_X7 : ∀ w ∈ wsX70, w ∈ wsX7_garland := fun w h => List.mem_cons_of_mem _ (List.mem_append_right _ (h))
set_option maxHeartbeats 4000000 in
set_option maxRecDepth 100000 in
theorem c_X7_garland (l : Launch) (D : va_G) (cA : ClassId) (m0 m1 : Nat) (fs : List Value) (a M : Nat → Nat) (x w : Int32) (hV : Vd a) (hM : Rl a M) : RO l D cA yX7_garland wsX7_garland rm_X7_garland [.ref m0, .int x, .int w] [(m0, .inr (7, .ref m1 :: fs)), (m1, .inl (cA, 286, .inl (nF M)))] (sGar a x w) := by
  refine ofWi (cc := cX7_garland) (maxL := 3) (rt := .int) (by decide) rfl (Nat.le_of_ble_eq_true rfl) ?_
  intro p e s m args below meth c Q A ls F hK hR hP hD hA hS hl RET
  obtain ⟨hx, hb, hml, hown, hts⟩ := id F
  have hl : lv_has ls 3 [(0, .ref m0), (1, .int x), (2, .int w)] := hl
  refine lv_aload_n hx hb dX7_garland_0 rfl (lv_at hl 0 rfl) ?_
  refine lv_iload_n hx hb dX7_garland_1 rfl (lv_at hl 1 rfl) ?_
  refine call_r (q := (RX7, TX7, 14)) (As := [.int x]) (rest := []) F (c_X7_isGarland l D cA m0 m1 fs a M x (hV) (hM)) (cwV 1 hts gX7_garland_X7_isGarland rfl rfl rfl ydv_X7_isGarland ⟨Nat.le_of_ble_eq_true rfl, Nat.le_of_ble_eq_true rfl⟩) hK hR hP hD hA hS [0, 1] rfl rfl 0 7 rfl rfl rfl hl.1 rfl (Nat.le_of_ble_eq_true rfl) dX7_garland_2 ⟨Nat.zero_le _, Nat.zero_le _⟩ (fun H locs hP hS => ?_)
  refine bv_if_ne (tgt := 10) hx hb dX7_garland_5 (by decide) (fun c_5 => ?_) (fun c_5 => ?_)
  · obtain ⟨g, hg, rfl, hg0⟩ := inG_t c_5
    have hcx : cN (nI g) = g := cN_nI (by omega)
    have hl1 := hV.l hg
    have hd1 := hV.d (q := ln a g - 1) hg (by omega)
    have hd2 := hV.d (q := 0) hg (by omega)
    refine lv_iload_n hx hb dX7_garland_10 rfl (lv_at hl 2 rfl) ?_
    rcases sw_8 w with rfl | rfl | rfl | rfl | rfl | rfl | rfl | rfl | c_11
    · refine lv_tableIn (tgt := 56) hx hb dX7_garland_11 (by decide) (by decide) rfl (by decide) ?_
      refine lv_aload_n hx hb dX7_garland_56 rfl (lv_at hl 0 rfl) ?_
      refine va_get (D := D) (cl := vwCl) (ci := 7) (v := .ref m1) (C := RX7) (T := TX7) (N := 14) hx hb hts inf_X7_garland_X7 hown hK.1 (hR.at hS) 0 rfl rfl 0 (by decide) (hts _ (List.mem_of_getElem? (i := 1) rfl)) (fun _ h9 => h9) rfl dX7_garland_57 ?_
      refine lv_bipush (v := nI 22) hx hb dX7_garland_60 (by decide) ?_
      refine lv_iload_n hx hb dX7_garland_62 rfl (lv_at hl 1 rfl) ?_
      refine nv_iadd hx hb dX7_garland_63 ?_
      refine nv_iald (a := M) hx hb hK (hR.at hS) 1 rfl (by omega) (by decide) dX7_garland_64 ?_
      refine tope (y := nI (ln a g)) (congrArg nI (hM.l (by omega))) ?_
      refine tope (y := sGar a (nI g) (nI 0)) (by simp [sGar, c_5, hcx, swN_0]) ?_
      exact RET _ _ _ _ _ () dX7_garland_65 rfl rfl hP hS
    · refine lv_tableIn (tgt := 66) hx hb dX7_garland_11 (by decide) (by decide) rfl (by decide) ?_
      refine lv_aload_n hx hb dX7_garland_66 rfl (lv_at hl 0 rfl) ?_
      refine lv_aload_n hx hb dX7_garland_67 rfl (lv_at hl 0 rfl) ?_
      refine lv_iload_n hx hb dX7_garland_68 rfl (lv_at hl 1 rfl) ?_
      refine lv_iconst (v := nI 0) hx hb dX7_garland_69 (by decide) ?_
      refine call_r (q := (RX7, TX7, 14)) (As := [.int (nI g), .int (nI 0)]) (rest := [.ref m0]) F (c_X7_dollAt l D cA m0 m1 fs a M g 0 (hV) (hM) (by omega) (by omega)) (cwV 2 hts gX7_garland_X7_dollAt rfl rfl rfl ydv_X7_dollAt ⟨Nat.le_of_ble_eq_true rfl, Nat.le_of_ble_eq_true rfl⟩) hK hR hP hD hA hS [0, 1] rfl rfl 0 7 rfl rfl rfl hl.1 rfl (Nat.le_of_ble_eq_true rfl) dX7_garland_70 ⟨Nat.zero_le _, Nat.zero_le _⟩ (fun H locs hP hS => ?_)
      refine lv_iconst (v := nI 0) hx hb dX7_garland_73 (by decide) ?_
      refine call_r (q := (RX7, TX7, 14)) (As := [.int (nI (dl a g 0)), .int (nI 0)]) (rest := []) F (c_X7_handOf0 l D cA m0 m1 fs a M (dl a g 0) (hV) (hM) (by omega)) (cwV 2 hts gX7_garland_X7_handOf rfl rfl rfl ydv_X7_handOf ⟨Nat.le_of_ble_eq_true rfl, Nat.le_of_ble_eq_true rfl⟩) hK hR hP hD hA hS [0, 1] rfl rfl 0 7 rfl rfl rfl hl.1 rfl (Nat.le_of_ble_eq_true rfl) dX7_garland_74 ⟨Nat.zero_le _, Nat.zero_le _⟩ (fun H locs hP hS => ?_)
      refine tope (y := sGar a (nI g) (nI 1)) (by simp [sGar, c_5, hcx, swN_1]) ?_
      exact RET _ _ _ _ _ () dX7_garland_77 rfl rfl hP hS
    · refine lv_tableIn (tgt := 78) hx hb dX7_garland_11 (by decide) (by decide) rfl (by decide) ?_
      refine lv_aload_n hx hb dX7_garland_78 rfl (lv_at hl 0 rfl) ?_
      refine lv_aload_n hx hb dX7_garland_79 rfl (lv_at hl 0 rfl) ?_
      refine lv_iload_n hx hb dX7_garland_80 rfl (lv_at hl 1 rfl) ?_
      refine call_r (q := (RX7, TX7, 14)) (As := [.int (nI g)]) (rest := [.ref m0]) F (c_X7_last l D cA m0 m1 fs a M g (hV) (hM) (by omega) (by omega)) (cwV 1 hts gX7_garland_X7_last rfl rfl rfl ydv_X7_last ⟨Nat.le_of_ble_eq_true rfl, Nat.le_of_ble_eq_true rfl⟩) hK hR hP hD hA hS [0, 1] rfl rfl 0 7 rfl rfl rfl hl.1 rfl (Nat.le_of_ble_eq_true rfl) dX7_garland_81 ⟨Nat.zero_le _, Nat.zero_le _⟩ (fun H locs hP hS => ?_)
      refine lv_iconst (v := nI 1) hx hb dX7_garland_84 (by decide) ?_
      refine call_r (q := (RX7, TX7, 14)) (As := [.int (nI (dl a g (ln a g - 1))), .int (nI 1)]) (rest := []) F (c_X7_handOf1 l D cA m0 m1 fs a M (dl a g (ln a g - 1)) (hV) (hM) (by omega)) (cwV 2 hts gX7_garland_X7_handOf rfl rfl rfl ydv_X7_handOf ⟨Nat.le_of_ble_eq_true rfl, Nat.le_of_ble_eq_true rfl⟩) hK hR hP hD hA hS [0, 1] rfl rfl 0 7 rfl rfl rfl hl.1 rfl (Nat.le_of_ble_eq_true rfl) dX7_garland_85 ⟨Nat.zero_le _, Nat.zero_le _⟩ (fun H locs hP hS => ?_)
      refine tope (y := sGar a (nI g) (nI 2)) (by simp [sGar, c_5, hcx, swN_2]) ?_
      exact RET _ _ _ _ _ () dX7_garland_88 rfl rfl hP hS
    · refine lv_tableIn (tgt := 89) hx hb dX7_garland_11 (by decide) (by decide) rfl (by decide) ?_
      refine lv_aload_n hx hb dX7_garland_89 rfl (lv_at hl 0 rfl) ?_
      refine lv_iload_n hx hb dX7_garland_90 rfl (lv_at hl 1 rfl) ?_
      refine call_r (q := (RX7, TX7, 14)) (As := [.int (nI g)]) (rest := []) F (c_X7_mirroredIn l D cA m0 m1 fs a M g (hV) (hM) (by omega)) (cwV 1 hts gX7_garland_X7_mirroredIn rfl rfl rfl ydv_X7_mirroredIn ⟨Nat.le_of_ble_eq_true rfl, Nat.le_of_ble_eq_true rfl⟩) hK hR hP hD hA hS [0, 1] rfl rfl 0 7 rfl rfl rfl hl.1 rfl (Nat.le_of_ble_eq_true rfl) dX7_garland_91 ⟨Nat.zero_le _, Nat.zero_le _⟩ (fun H locs hP hS => ?_)
      refine tope (y := sGar a (nI g) (nI 3)) (by simp [sGar, c_5, hcx, swN_3]) ?_
      exact RET _ _ _ _ _ () dX7_garland_94 rfl rfl hP hS
    · refine lv_tableIn (tgt := 95) hx hb dX7_garland_11 (by decide) (by decide) rfl (by decide) ?_
      refine lv_aload_n hx hb dX7_garland_95 rfl (lv_at hl 0 rfl) ?_
      refine lv_iload_n hx hb dX7_garland_96 rfl (lv_at hl 1 rfl) ?_
      refine call_r (q := (RX7, TX7, 14)) (As := [.int (nI g)]) (rest := []) F (c_X7_kindsIn l D cA m0 m1 fs a M g (hV) (hM) (by omega)) (cwV 1 hts gX7_garland_X7_kindsIn rfl rfl rfl ydv_X7_kindsIn ⟨Nat.le_of_ble_eq_true rfl, Nat.le_of_ble_eq_true rfl⟩) hK hR hP hD hA hS [0, 1] rfl rfl 0 7 rfl rfl rfl hl.1 rfl (Nat.le_of_ble_eq_true rfl) dX7_garland_97 ⟨Nat.zero_le _, Nat.zero_le _⟩ (fun H locs hP hS => ?_)
      refine tope (y := sGar a (nI g) (nI 4)) (by simp [sGar, c_5, hcx, swN_4]) ?_
      exact RET _ _ _ _ _ () dX7_garland_100 rfl rfl hP hS
    · refine lv_tableIn (tgt := 101) hx hb dX7_garland_11 (by decide) (by decide) rfl (by decide) ?_
      refine lv_aload_n hx hb dX7_garland_101 rfl (lv_at hl 0 rfl) ?_
      refine lv_iload_n hx hb dX7_garland_102 rfl (lv_at hl 1 rfl) ?_
      refine call_r (q := (RX7, TX7, 14)) (As := [.int (nI g)]) (rest := []) F (c_X7_isOwnImage l D cA m0 m1 fs a M g (hV) (hM) (by omega)) (cwV 1 hts gX7_garland_X7_isOwnImage rfl rfl rfl ydv_X7_isOwnImage ⟨Nat.le_of_ble_eq_true rfl, Nat.le_of_ble_eq_true rfl⟩) hK hR hP hD hA hS [0, 1] rfl rfl 0 7 rfl rfl rfl hl.1 rfl (Nat.le_of_ble_eq_true rfl) dX7_garland_103 ⟨Nat.zero_le _, Nat.zero_le _⟩ (fun H locs hP hS => ?_)
      refine bv_if_eq (tgt := 113) hx hb dX7_garland_106 (by decide) (fun c_106 => ?_) (fun c_106 => ?_)
      · refine lv_iconst (v := nI 0) hx hb dX7_garland_113 (by decide) ?_
        refine tope (y := sGar a (nI g) (nI 5)) (by simp [sGar, c_5, hcx, swN_5, b2n, c_106]) ?_
        exact RET _ _ _ _ _ () dX7_garland_114 rfl rfl hP hS
      · refine lv_iconst (v := nI 1) hx hb dX7_garland_109 (by decide) ?_
        refine lv_goto (tgt := 114) hx hb dX7_garland_110 (by decide) ?_
        refine tope (y := sGar a (nI g) (nI 5)) (by simp [sGar, c_5, hcx, swN_5, b2n, c_106]) ?_
        exact RET _ _ _ _ _ () dX7_garland_114 rfl rfl hP hS
    · refine lv_tableIn (tgt := 115) hx hb dX7_garland_11 (by decide) (by decide) rfl (by decide) ?_
      refine lv_aload_n hx hb dX7_garland_115 rfl (lv_at hl 0 rfl) ?_
      refine lv_iload_n hx hb dX7_garland_116 rfl (lv_at hl 1 rfl) ?_
      refine call_r (q := (RX7, TX7, 14)) (As := [.int (nI g)]) (rest := []) F (c_X7_repeatOf l D cA m0 m1 fs a M g (hV) (hM) (by omega) (by omega)) (cwV 1 hts gX7_garland_X7_repeatOf rfl rfl rfl ydv_X7_repeatOf ⟨Nat.le_of_ble_eq_true rfl, Nat.le_of_ble_eq_true rfl⟩) hK hR hP hD hA hS [0, 1] rfl rfl 0 7 rfl rfl rfl hl.1 rfl (Nat.le_of_ble_eq_true rfl) dX7_garland_117 ⟨Nat.zero_le _, Nat.zero_le _⟩ (fun H locs hP hS => ?_)
      refine tope (y := sGar a (nI g) (nI 6)) (by simp [sGar, c_5, hcx, swN_6]) ?_
      exact RET _ _ _ _ _ () dX7_garland_120 rfl rfl hP hS
    · refine lv_tableIn (tgt := 121) hx hb dX7_garland_11 (by decide) (by decide) rfl (by decide) ?_
      refine lv_aload_n hx hb dX7_garland_121 rfl (lv_at hl 0 rfl) ?_
      refine lv_iload_n hx hb dX7_garland_122 rfl (lv_at hl 1 rfl) ?_
      refine call_r (q := (RX7, TX7, 14)) (As := [.int (nI g)]) (rest := []) F (c_X7_firstLike l D cA m0 m1 fs a M g (hV) (hM) (by omega)) (cwV 1 hts gX7_garland_X7_firstLike rfl rfl rfl ydv_X7_firstLike ⟨Nat.le_of_ble_eq_true rfl, Nat.le_of_ble_eq_true rfl⟩) hK hR hP hD hA hS [0, 1] rfl rfl 0 7 rfl rfl rfl hl.1 rfl (Nat.le_of_ble_eq_true rfl) dX7_garland_123 ⟨Nat.zero_le _, Nat.zero_le _⟩ (fun H locs hP hS => ?_)
      refine tope (y := sGar a (nI g) (nI 7)) (by simp [sGar, c_5, hcx, swN_7]) ?_
      exact RET _ _ _ _ _ () dX7_garland_126 rfl rfl hP hS
    · refine lv_tableOut (tgt := 127) hx hb dX7_garland_11 c_11 (by decide) ?_
      refine lv_bipush (v := -2) hx hb dX7_garland_127 (by decide) ?_
      refine tope (y := sGar a (nI g) w) (by have h9_ := swN_ge (n := 7) (by decide) c_11; rw [sGar]; repeat (rw [if_neg (by first | omega | simp [c_5, hcx])])) ?_
      exact RET _ _ _ _ _ () dX7_garland_129 rfl rfl hP hS
  · refine lv_iconst (v := -1) hx hb dX7_garland_8 (by decide) ?_
    refine tope (y := sGar a x w) (by simp [sGar, c_5]) ?_
    exact RET _ _ _ _ _ () dX7_garland_9 rfl rfl hP hS
abbrev rm_X7_doll : Room := { frames := 2, cells := 0, slots := 0, locals := 46 }
theorem ydv_X7_doll : yX7_doll.cls = RX7 ∧ yX7_doll.cls ≠ "java/lang/invoke/MethodHandle" ∧ yX7_doll.cls ≠ "java/lang/invoke/VarHandle" ∧ (parseMethodDescriptor yX7_doll.desc).map (fun d => d.parameters.length) = some 3 := by decide +kernel
theorem inf_X7_doll_X7 : ∀ w ∈ wsX70, w ∈ wsX7_doll := fun w h => List.mem_cons_of_mem _ (List.mem_append_right _ (h))
set_option maxHeartbeats 4000000 in
set_option maxRecDepth 100000 in
theorem c_X7_doll (l : Launch) (D : va_G) (cA : ClassId) (m0 m1 : Nat) (fs : List Value) (a M : Nat → Nat) (x y w : Int32) (hV : Vd a) (hM : Rl a M) : RO l D cA yX7_doll wsX7_doll rm_X7_doll [.ref m0, .int x, .int y, .int w] [(m0, .inr (7, .ref m1 :: fs)), (m1, .inl (cA, 286, .inl (nF M)))] (sDoll a x y w) := by
  refine ofWi (cc := cX7_doll) (maxL := 5) (rt := .int) (by decide) rfl (Nat.le_of_ble_eq_true rfl) ?_
  intro p e s m args below meth c Q A ls F hK hR hP hD hA hS hl RET
  obtain ⟨hx, hb, hml, hown, hts⟩ := id F
  have hl : lv_has ls 5 [(0, .ref m0), (1, .int x), (2, .int y), (3, .int w)] := hl
  refine lv_aload_n hx hb dX7_doll_0 rfl (lv_at hl 0 rfl) ?_
  refine lv_iload_n hx hb dX7_doll_1 rfl (lv_at hl 1 rfl) ?_
  refine call_r (q := (RX7, TX7, 14)) (As := [.int x]) (rest := []) F (c_X7_isGarland l D cA m0 m1 fs a M x (hV) (hM)) (cwV 1 hts gX7_doll_X7_isGarland rfl rfl rfl ydv_X7_isGarland ⟨Nat.le_of_ble_eq_true rfl, Nat.le_of_ble_eq_true rfl⟩) hK hR hP hD hA hS [0, 1] rfl rfl 0 7 rfl rfl rfl hl.1 rfl (Nat.le_of_ble_eq_true rfl) dX7_doll_2 ⟨Nat.zero_le _, Nat.zero_le _⟩ (fun H locs hP hS => ?_)
  refine bv_if_eq (tgt := 29) hx hb dX7_doll_5 (by decide) (fun c_5 => ?_) (fun c_5 => ?_)
  · refine lv_iconst (v := -1) hx hb dX7_doll_29 (by decide) ?_
    refine tope (y := sDoll a x y w) (by simp [sDoll, c_5]) ?_
    exact RET _ _ _ _ _ () dX7_doll_30 rfl rfl hP hS
  · obtain ⟨g, hg, rfl, hg0⟩ := inG_t c_5
    have hcx : cN (nI g) = g := cN_nI (by omega)
    have hl1 := hV.l hg
    refine lv_iload_n hx hb dX7_doll_8 rfl (lv_at hl 2 rfl) ?_
    refine lv_i2l (v := (y).toInt64) hx hb dX7_doll_9 rfl ?_
    refine lv_lconst (v := lN 0) hx hb dX7_doll_10 rfl ?_
    refine lv_aload_n hx hb dX7_doll_11 rfl (lv_at hl 0 rfl) ?_
    refine va_get (D := D) (cl := vwCl) (ci := 7) (v := .ref m1) (C := RX7) (T := TX7) (N := 14) hx hb hts inf_X7_doll_X7 hown hK.1 (hR.at hS) 0 rfl rfl 0 (by decide) (hts _ (List.mem_of_getElem? (i := 1) rfl)) (fun _ h9 => h9) rfl dX7_doll_12 ?_
    refine lv_bipush (v := nI 22) hx hb dX7_doll_15 (by decide) ?_
    refine lv_iload_n hx hb dX7_doll_17 rfl (lv_at hl 1 rfl) ?_
    refine nv_iadd hx hb dX7_doll_18 ?_
    refine nv_iald (a := M) hx hb hK (hR.at hS) 1 rfl (by omega) (by decide) dX7_doll_19 ?_
    refine tope (y := nI (ln a g)) (congrArg nI (hM.l (by omega))) ?_
    refine lv_i2l (v := lN (ln a g)) hx hb dX7_doll_20 (nI_l (by omega)) ?_
    refine lv_lconst (v := lN 1) hx hb dX7_doll_21 rfl ?_
    refine lv_lsub hx hb dX7_doll_22 ?_
    rw [show lN (ln a g) - lN 1 = lN (ln a g - 1) from lN_sub (by omega)]
    refine call_s (As := [.long ((y).toInt64), .long (lN 0), .long (lN (ln a g - 1))]) (rest := []) F (c_X7_in l D cA ((y).toInt64) (lN 0) (lN (ln a g - 1))) (va_cwS 3 hts gX7_doll_X7_in rfl rfl rfl yd_X7_in ⟨Nat.le_of_ble_eq_true rfl, Nat.le_of_ble_eq_true rfl⟩) hK hR hP hD hA hS rfl hl.1 rfl (Nat.le_of_ble_eq_true rfl) dX7_doll_23 ⟨Nat.zero_le _, Nat.zero_le _⟩ (fun H locs hP hS => ?_)
    refine tope (y := bI (isB y (ln a g))) (congrArg bI (inL_K (by omega) (by omega))) ?_
    refine bv_if_ne (tgt := 31) hx hb dX7_doll_26 (by decide) (fun c_26 => ?_) (fun c_26 => ?_)
    · obtain ⟨q, hq, rfl⟩ := isB_t (by omega) c_26
      have hcy : cN (nI q) = q := cN_nI (by omega)
      have hd1 := hV.d (q := q) hg (by omega)
      refine lv_aload_n hx hb dX7_doll_31 rfl (lv_at hl 0 rfl) ?_
      refine lv_iload_n hx hb dX7_doll_32 rfl (lv_at hl 1 rfl) ?_
      refine lv_iload_n hx hb dX7_doll_33 rfl (lv_at hl 2 rfl) ?_
      refine call_r (q := (RX7, TX7, 14)) (As := [.int (nI g), .int (nI q)]) (rest := []) F (c_X7_dollAt l D cA m0 m1 fs a M g q (hV) (hM) (by omega) (by omega)) (cwV 2 hts gX7_doll_X7_dollAt rfl rfl rfl ydv_X7_dollAt ⟨Nat.le_of_ble_eq_true rfl, Nat.le_of_ble_eq_true rfl⟩) hK hR hP hD hA hS [0, 1] rfl rfl 0 7 rfl rfl rfl hl.1 rfl (Nat.le_of_ble_eq_true rfl) dX7_doll_34 ⟨Nat.zero_le _, Nat.zero_le _⟩ (fun H locs hP hS => ?_)
      refine lv_istore (lv' := [(4, .int (nI (dl a g q))), (0, .ref m0), (1, .int (nI g)), (2, .int (nI q)), (3, .int w)]) hx hb dX7_doll_37 hl (by decide) rfl (fun ls hl => ?_)
      refine lv_iload_n hx hb dX7_doll_39 rfl (lv_at hl 4 rfl) ?_
      rcases sw_4 w with rfl | rfl | rfl | rfl | c_40
      · refine lv_tableIn (tgt := 72) hx hb dX7_doll_40 (by decide) (by decide) rfl (by decide) ?_
        refine lv_iload hx hb dX7_doll_72 (lv_at hl 0 rfl) ?_
        refine lv_iconst (v := nI 2) hx hb dX7_doll_74 (by decide) ?_
        refine nv_idiv hx hb dX7_doll_75 (by omega) (by decide) (by decide) ?_
        refine tope (y := sDoll a (nI g) (nI q) (nI 0)) (by simp [sDoll, c_5, c_26, hcx, hcy, swN_0, b2n_mr]) ?_
        exact RET _ _ _ _ _ () dX7_doll_76 rfl rfl hP hS
      · refine lv_tableIn (tgt := 77) hx hb dX7_doll_40 (by decide) (by decide) rfl (by decide) ?_
        refine lv_iload hx hb dX7_doll_77 (lv_at hl 0 rfl) ?_
        refine lv_iconst (v := nI 2) hx hb dX7_doll_79 (by decide) ?_
        refine nv_irem hx hb dX7_doll_80 (by omega) (by decide) (by decide) ?_
        refine tope (y := sDoll a (nI g) (nI q) (nI 1)) (by simp [sDoll, c_5, c_26, hcx, hcy, swN_1, b2n_mr]) ?_
        exact RET _ _ _ _ _ () dX7_doll_81 rfl rfl hP hS
      · refine lv_tableIn (tgt := 82) hx hb dX7_doll_40 (by decide) (by decide) rfl (by decide) ?_
        refine lv_aload_n hx hb dX7_doll_82 rfl (lv_at hl 1 rfl) ?_
        refine lv_iload hx hb dX7_doll_83 (lv_at hl 0 rfl) ?_
        refine lv_iload_n hx hb dX7_doll_85 rfl (lv_at hl 4 rfl) ?_
        refine lv_iconst (v := nI 2) hx hb dX7_doll_86 (by decide) ?_
        refine nv_isub hx hb dX7_doll_87 (by decide) ?_
        refine call_r (q := (RX7, TX7, 14)) (As := [.int (nI (dl a g q)), .int (nI 0)]) (rest := []) F (c_X7_handOf0 l D cA m0 m1 fs a M (dl a g q) (hV) (hM) (by omega)) (cwV 2 hts gX7_doll_X7_handOf rfl rfl rfl ydv_X7_handOf ⟨Nat.le_of_ble_eq_true rfl, Nat.le_of_ble_eq_true rfl⟩) hK hR hP hD hA hS [0, 1] rfl rfl 0 7 rfl rfl rfl hl.1 rfl (Nat.le_of_ble_eq_true rfl) dX7_doll_88 ⟨Nat.zero_le _, Nat.zero_le _⟩ (fun H locs hP hS => ?_)
        refine tope (y := sDoll a (nI g) (nI q) (nI 2)) (by simp [sDoll, c_5, c_26, hcx, hcy, swN_2, b2n_mr]) ?_
        exact RET _ _ _ _ _ () dX7_doll_91 rfl rfl hP hS
      · refine lv_tableIn (tgt := 82) hx hb dX7_doll_40 (by decide) (by decide) rfl (by decide) ?_
        refine lv_aload_n hx hb dX7_doll_82 rfl (lv_at hl 1 rfl) ?_
        refine lv_iload hx hb dX7_doll_83 (lv_at hl 0 rfl) ?_
        refine lv_iload_n hx hb dX7_doll_85 rfl (lv_at hl 4 rfl) ?_
        refine lv_iconst (v := nI 2) hx hb dX7_doll_86 (by decide) ?_
        refine nv_isub hx hb dX7_doll_87 (by decide) ?_
        refine call_r (q := (RX7, TX7, 14)) (As := [.int (nI (dl a g q)), .int (nI 1)]) (rest := []) F (c_X7_handOf1 l D cA m0 m1 fs a M (dl a g q) (hV) (hM) (by omega)) (cwV 2 hts gX7_doll_X7_handOf rfl rfl rfl ydv_X7_handOf ⟨Nat.le_of_ble_eq_true rfl, Nat.le_of_ble_eq_true rfl⟩) hK hR hP hD hA hS [0, 1] rfl rfl 0 7 rfl rfl rfl hl.1 rfl (Nat.le_of_ble_eq_true rfl) dX7_doll_88 ⟨Nat.zero_le _, Nat.zero_le _⟩ (fun H locs hP hS => ?_)
        refine tope (y := sDoll a (nI g) (nI q) (nI 3)) (by simp [sDoll, c_5, c_26, hcx, hcy, swN_3, b2n_mr]) ?_
        exact RET _ _ _ _ _ () dX7_doll_91 rfl rfl hP hS
      · refine lv_tableOut (tgt := 92) hx hb dX7_doll_40 c_40 (by decide) ?_
        refine lv_bipush (v := -2) hx hb dX7_doll_92 (by decide) ?_
        refine tope (y := sDoll a (nI g) (nI q) w) (by have h9_ := swN_ge (n := 3) (by decide) c_40; rw [sDoll]; repeat (rw [if_neg (by first | omega | simp [c_5, c_26, hcx, hcy])])) ?_
        exact RET _ _ _ _ _ () dX7_doll_94 rfl rfl hP hS
    · refine lv_iconst (v := -1) hx hb dX7_doll_29 (by decide) ?_
      refine tope (y := sDoll a (nI g) y w) (by simp [sDoll, c_5, c_26, hcx]) ?_
      exact RET _ _ _ _ _ () dX7_doll_30 rfl rfl hP hS
abbrev rm_X7_reason : Room := { frames := 2, cells := 0, slots := 0, locals := 46 }
theorem ydv_X7_reason : yX7_reason.cls = RX7 ∧ yX7_reason.cls ≠ "java/lang/invoke/MethodHandle" ∧ yX7_reason.cls ≠ "java/lang/invoke/VarHandle" ∧ (parseMethodDescriptor yX7_reason.desc).map (fun d => d.parameters.length) = some 2 := by decide +kernel
theorem inf_X7_reason_X7 : ∀ w ∈ wsX70, w ∈ wsX7_reason := fun w h => List.mem_cons_of_mem _ (List.mem_append_right _ (h))
set_option maxHeartbeats 4000000 in
set_option maxRecDepth 100000 in
theorem c_X7_reason (l : Launch) (D : va_G) (cA : ClassId) (m0 m1 : Nat) (fs : List Value) (a M : Nat → Nat) (x y : Int32) (hV : Vd a) (hM : Rl a M) : RO l D cA yX7_reason wsX7_reason rm_X7_reason [.ref m0, .int x, .int y] [(m0, .inr (7, .ref m1 :: fs)), (m1, .inl (cA, 286, .inl (nF M)))] (sReas a x y) := by
  refine ofWi (cc := cX7_reason) (maxL := 3) (rt := .int) (by decide) rfl (Nat.le_of_ble_eq_true rfl) ?_
  intro p e s m args below meth c Q A ls F hK hR hP hD hA hS hl RET
  obtain ⟨hx, hb, hml, hown, hts⟩ := id F
  have hl : lv_has ls 3 [(0, .ref m0), (1, .int x), (2, .int y)] := hl
  refine lv_aload_n hx hb dX7_reason_0 rfl (lv_at hl 0 rfl) ?_
  refine lv_iload_n hx hb dX7_reason_1 rfl (lv_at hl 1 rfl) ?_
  refine call_r (q := (RX7, TX7, 14)) (As := [.int x]) (rest := []) F (c_X7_isGarland l D cA m0 m1 fs a M x (hV) (hM)) (cwV 1 hts gX7_reason_X7_isGarland rfl rfl rfl ydv_X7_isGarland ⟨Nat.le_of_ble_eq_true rfl, Nat.le_of_ble_eq_true rfl⟩) hK hR hP hD hA hS [0, 1] rfl rfl 0 7 rfl rfl rfl hl.1 rfl (Nat.le_of_ble_eq_true rfl) dX7_reason_2 ⟨Nat.zero_le _, Nat.zero_le _⟩ (fun H locs hP hS => ?_)
  refine bv_if_eq (tgt := 16) hx hb dX7_reason_5 (by decide) (fun c_5 => ?_) (fun c_5 => ?_)
  · refine lv_iconst (v := -1) hx hb dX7_reason_16 (by decide) ?_
    refine tope (y := sReas a x y) (by first | (simp [sReas, c_5]; done) | (simp [sReas, c_5]; omega)) ?_
    exact RET _ _ _ _ _ () dX7_reason_17 rfl rfl hP hS
  · obtain ⟨g, hg, rfl, hg0⟩ := inG_t c_5
    have hcx : cN (nI g) = g := cN_nI (by omega)
    refine lv_aload_n hx hb dX7_reason_8 rfl (lv_at hl 0 rfl) ?_
    refine lv_iload_n hx hb dX7_reason_9 rfl (lv_at hl 2 rfl) ?_
    refine call_r (q := (RX7, TX7, 14)) (As := [.int y]) (rest := []) F (c_X7_isGarland l D cA m0 m1 fs a M y (hV) (hM)) (cwV 1 hts gX7_reason_X7_isGarland rfl rfl rfl ydv_X7_isGarland ⟨Nat.le_of_ble_eq_true rfl, Nat.le_of_ble_eq_true rfl⟩) hK hR hP hD hA hS [0, 1] rfl rfl 0 7 rfl rfl rfl hl.1 rfl (Nat.le_of_ble_eq_true rfl) dX7_reason_10 ⟨Nat.zero_le _, Nat.zero_le _⟩ (fun H locs hP hS => ?_)
    refine bv_if_ne (tgt := 18) hx hb dX7_reason_13 (by decide) (fun c_13 => ?_) (fun c_13 => ?_)
    · obtain ⟨o_, ho_, rfl, ho0⟩ := inG_t c_13
      have hcy : cN (nI o_) = o_ := cN_nI (by omega)
      have hl1 := hV.l hg
      have hl2 := hV.l ho_
      have hd1 := hV.d (q := ln a g - 1) hg (by omega)
      have hd2 := hV.d (q := 0) ho_ (by omega)
      refine lv_iload_n hx hb dX7_reason_18 rfl (lv_at hl 1 rfl) ?_
      refine lv_iload_n hx hb dX7_reason_19 rfl (lv_at hl 2 rfl) ?_
      refine nv_icmp_ne (tgt := 27) hx hb dX7_reason_20 (by decide) (by omega) (by omega) (fun c_20 => ?_) (fun c_20 => ?_)
      · refine lv_aload_n hx hb dX7_reason_27 rfl (lv_at hl 0 rfl) ?_
        refine lv_aload_n hx hb dX7_reason_28 rfl (lv_at hl 0 rfl) ?_
        refine lv_iload_n hx hb dX7_reason_29 rfl (lv_at hl 1 rfl) ?_
        refine call_r (q := (RX7, TX7, 14)) (As := [.int (nI g)]) (rest := [.ref m0]) F (c_X7_last l D cA m0 m1 fs a M g (hV) (hM) (by omega) (by omega)) (cwV 1 hts gX7_reason_X7_last rfl rfl rfl ydv_X7_last ⟨Nat.le_of_ble_eq_true rfl, Nat.le_of_ble_eq_true rfl⟩) hK hR hP hD hA hS [0, 1] rfl rfl 0 7 rfl rfl rfl hl.1 rfl (Nat.le_of_ble_eq_true rfl) dX7_reason_30 ⟨Nat.zero_le _, Nat.zero_le _⟩ (fun H locs hP hS => ?_)
        refine lv_aload_n hx hb dX7_reason_33 rfl (lv_at hl 0 rfl) ?_
        refine lv_iload_n hx hb dX7_reason_34 rfl (lv_at hl 2 rfl) ?_
        refine lv_iconst (v := nI 0) hx hb dX7_reason_35 (by decide) ?_
        refine call_r (q := (RX7, TX7, 14)) (As := [.int (nI o_), .int (nI 0)]) (rest := [.int (nI (dl a g (ln a g - 1))), .ref m0]) F (c_X7_dollAt l D cA m0 m1 fs a M o_ 0 (hV) (hM) (by omega) (by omega)) (cwV 2 hts gX7_reason_X7_dollAt rfl rfl rfl ydv_X7_dollAt ⟨Nat.le_of_ble_eq_true rfl, Nat.le_of_ble_eq_true rfl⟩) hK hR hP hD hA hS [0, 1] rfl rfl 0 7 rfl rfl rfl hl.1 rfl (Nat.le_of_ble_eq_true rfl) dX7_reason_36 ⟨Nat.zero_le _, Nat.zero_le _⟩ (fun H locs hP hS => ?_)
        refine call_r (q := (RX7, TX7, 14)) (As := [.int (nI (dl a g (ln a g - 1))), .int (nI (dl a o_ 0))]) (rest := []) F (c_X7_clash l D cA m0 m1 fs a M (dl a g (ln a g - 1)) (dl a o_ 0) (hV) (hM) (by omega) (by omega)) (cwV 2 hts gX7_reason_X7_clash rfl rfl rfl ydv_X7_clash ⟨Nat.le_of_ble_eq_true rfl, Nat.le_of_ble_eq_true rfl⟩) hK hR hP hD hA hS [0, 1] rfl rfl 0 7 rfl rfl rfl hl.1 rfl (Nat.le_of_ble_eq_true rfl) dX7_reason_39 ⟨Nat.zero_le _, Nat.zero_le _⟩ (fun H locs hP hS => ?_)
        refine bv_if_eq (tgt := 49) hx hb dX7_reason_42 (by decide) (fun c_42 => ?_) (fun c_42 => ?_)
        · refine lv_aload_n hx hb dX7_reason_49 rfl (lv_at hl 0 rfl) ?_
          refine va_get (D := D) (cl := vwCl) (ci := 7) (v := .ref m1) (C := RX7) (T := TX7) (N := 14) hx hb hts inf_X7_reason_X7 hown hK.1 (hR.at hS) 0 rfl rfl 0 (by decide) (hts _ (List.mem_of_getElem? (i := 1) rfl)) (fun _ h9 => h9) rfl dX7_reason_50 ?_
          refine lv_bipush (v := nI 22) hx hb dX7_reason_53 (by decide) ?_
          refine lv_iload_n hx hb dX7_reason_55 rfl (lv_at hl 1 rfl) ?_
          refine nv_iadd hx hb dX7_reason_56 ?_
          refine nv_iald (a := M) hx hb hK (hR.at hS) 1 rfl (by omega) (by decide) dX7_reason_57 ?_
          refine tope (y := nI (ln a g)) (congrArg nI (hM.l (by omega))) ?_
          refine lv_aload_n hx hb dX7_reason_58 rfl (lv_at hl 0 rfl) ?_
          refine va_get (D := D) (cl := vwCl) (ci := 7) (v := .ref m1) (C := RX7) (T := TX7) (N := 14) hx hb hts inf_X7_reason_X7 hown hK.1 (hR.at hS) 0 rfl rfl 0 (by decide) (hts _ (List.mem_of_getElem? (i := 1) rfl)) (fun _ h9 => h9) rfl dX7_reason_59 ?_
          refine lv_bipush (v := nI 22) hx hb dX7_reason_62 (by decide) ?_
          refine lv_iload_n hx hb dX7_reason_64 rfl (lv_at hl 2 rfl) ?_
          refine nv_iadd hx hb dX7_reason_65 ?_
          refine nv_iald (a := M) hx hb hK (hR.at hS) 1 rfl (by omega) (by decide) dX7_reason_66 ?_
          refine tope (y := nI (ln a o_)) (congrArg nI (hM.l (by omega))) ?_
          refine nv_iadd hx hb dX7_reason_67 ?_
          refine lv_bipush (v := nI 32) hx hb dX7_reason_68 (by decide) ?_
          refine nv_icmp_le (tgt := 77) hx hb dX7_reason_70 (by decide) (by omega) (by decide) (fun c_70 => ?_) (fun c_70 => ?_)
          · refine lv_iconst (v := nI 0) hx hb dX7_reason_77 (by decide) ?_
            refine tope (y := sReas a (nI g) (nI o_)) (by first | (simp [sReas, c_5, c_13, c_20, c_42, c_70, hcx, hcy]; done) | (simp [sReas, c_5, c_13, c_20, c_42, c_70, hcx, hcy]; omega)) ?_
            exact RET _ _ _ _ _ () dX7_reason_78 rfl rfl hP hS
          · refine lv_iconst (v := nI 3) hx hb dX7_reason_73 (by decide) ?_
            refine lv_goto (tgt := 78) hx hb dX7_reason_74 (by decide) ?_
            refine tope (y := sReas a (nI g) (nI o_)) (by first | (simp [sReas, c_5, c_13, c_20, c_42, c_70, hcx, hcy]; done) | (simp [sReas, c_5, c_13, c_20, c_42, c_70, hcx, hcy]; omega)) ?_
            exact RET _ _ _ _ _ () dX7_reason_78 rfl rfl hP hS
        · refine lv_iconst (v := nI 2) hx hb dX7_reason_45 (by decide) ?_
          refine lv_goto (tgt := 78) hx hb dX7_reason_46 (by decide) ?_
          refine tope (y := sReas a (nI g) (nI o_)) (by first | (simp [sReas, c_5, c_13, c_20, c_42, hcx, hcy]; done) | (simp [sReas, c_5, c_13, c_20, c_42, hcx, hcy]; omega)) ?_
          exact RET _ _ _ _ _ () dX7_reason_78 rfl rfl hP hS
      · refine lv_iconst (v := nI 1) hx hb dX7_reason_23 (by decide) ?_
        refine lv_goto (tgt := 78) hx hb dX7_reason_24 (by decide) ?_
        refine tope (y := sReas a (nI g) (nI o_)) (by first | (simp [sReas, c_5, c_13, eq_true c_20, hcx, hcy]; done) | (simp [sReas, c_5, c_13, eq_true c_20, hcx, hcy]; omega)) ?_
        exact RET _ _ _ _ _ () dX7_reason_78 rfl rfl hP hS
    · refine lv_iconst (v := -1) hx hb dX7_reason_16 (by decide) ?_
      refine tope (y := sReas a (nI g) y) (by first | (simp [sReas, c_5, c_13, hcx]; done) | (simp [sReas, c_5, c_13, hcx]; omega)) ?_
      exact RET _ _ _ _ _ () dX7_reason_17 rfl rfl hP hS
abbrev rm_X7_longest : Room := { frames := 2, cells := 0, slots := 0, locals := 46 }
theorem ydv_X7_longest : yX7_longest.cls = RX7 ∧ yX7_longest.cls ≠ "java/lang/invoke/MethodHandle" ∧ yX7_longest.cls ≠ "java/lang/invoke/VarHandle" ∧ (parseMethodDescriptor yX7_longest.desc).map (fun d => d.parameters.length) = some 0 := by decide +kernel
theorem inf_X7_longest_X7 : ∀ w ∈ wsX70, w ∈ wsX7_longest := fun w h => List.mem_cons_of_mem _ (List.mem_append_right _ (h))
set_option maxHeartbeats 4000000 in
set_option maxRecDepth 100000 in
theorem c_X7_longest (l : Launch) (D : va_G) (cA : ClassId) (m0 m1 : Nat) (fs : List Value) (a M : Nat → Nat)  (hV : Vd a) (hM : Rl a M) : RO l D cA yX7_longest wsX7_longest rm_X7_longest [.ref m0] [(m0, .inr (7, .ref m1 :: fs)), (m1, .inl (cA, 286, .inl (nF M)))] (sLon a) := by
  refine ofWi (cc := cX7_longest) (maxL := 3) (rt := .int) (by decide) rfl (Nat.le_of_ble_eq_true rfl) ?_
  intro p e s m args below meth c Q A ls F hK hR hP hD hA hS hl RET
  obtain ⟨hx, hb, hml, hown, hts⟩ := id F
  have hl : lv_has ls 3 [(0, .ref m0)] := hl
  refine lv_bipush (v := -5) hx hb dX7_longest_0 (by decide) ?_
  refine lv_istore_n (lv' := [(1, .int ((-5))), (0, .ref m0)]) hx hb dX7_longest_2 rfl hl (by decide) rfl (fun ls hl => ?_)
  refine lv_iconst (v := nI 0) hx hb dX7_longest_3 (by decide) ?_
  refine lv_istore_n (lv' := [(2, .int (nI 0)), (1, .int ((-5))), (0, .ref m0)]) hx hb dX7_longest_4 rfl hl (by decide) rfl (fun ls hl => ?_)
  have LP_5 : ∀ (k_5 : Nat) (i : Nat) (x : Nat) (y : Nat) (v : Int32) (H : Heap) (locs : List Loc) (ls : Array Slot), 8 - i = k_5 → (i ≤ 8) → (v = lonI x) → (lonP a i = (x, y)) → ((x = 8 ∧ y = 0) ∨ (x < 8 ∧ y = ln a x)) → va_P D vwCl [] H → va_D A [] → va_S A s.heap H locs → lv_has ls 3 [(0, .ref m0), (1, .int v), (2, .int (nI i))] → W p l e rm_X7_longest s m args below meth c H locs 0 0 Q (F0 m 5 ls []) := by
    refine sind (fun k_5 ih_5 => ?_)
    intro i x y v H locs ls hk_5 hi hv_ hp_ hx_ hP hD hS hl
    refine lv_iload_n hx hb dX7_longest_5 rfl (lv_at hl 2 rfl) ?_
    refine lv_bipush (v := nI 8) hx hb dX7_longest_6 (by decide) ?_
    refine nv_icmp_ge (tgt := 58) hx hb dX7_longest_8 (by decide) (by omega) (by decide) (fun c_8 => ?_) (fun c_8 => ?_)
    · refine lv_iload_n hx hb dX7_longest_58 rfl (lv_at hl 1 rfl) ?_
      refine tope (y := sLon a) (by rw [sLon, show lonP a 8 = (x, y) from by rw [← hp_, show i = 8 by omega]]; exact hv_) ?_
      exact RET _ _ _ _ _ () dX7_longest_59 rfl rfl hP hS
    · have hl1 := hV.l c_8
      refine lv_aload_n hx hb dX7_longest_11 rfl (lv_at hl 0 rfl) ?_
      refine lv_iload_n hx hb dX7_longest_12 rfl (lv_at hl 2 rfl) ?_
      refine call_r (q := (RX7, TX7, 14)) (As := [.int (nI i)]) (rest := []) F (c_X7_isGarland l D cA m0 m1 fs a M (nI i) (hV) (hM)) (cwV 1 hts gX7_longest_X7_isGarland rfl rfl rfl ydv_X7_isGarland ⟨Nat.le_of_ble_eq_true rfl, Nat.le_of_ble_eq_true rfl⟩) hK hR hP hD hA hS [0, 1] rfl rfl 0 7 rfl rfl rfl hl.1 rfl (Nat.le_of_ble_eq_true rfl) dX7_longest_13 ⟨Nat.zero_le _, Nat.zero_le _⟩ (fun H locs hP hS => ?_)
      refine bv_if_eq (tgt := 50) hx hb dX7_longest_16 (by decide) (fun c_16 => ?_) (fun c_16 => ?_)
      · have hg0_ : ln a i = 0 := by rw [inG_nI c_8, decide_eq_false_iff_not] at c_16; omega
        refine lv_iload_n hx hb dX7_longest_50 rfl (lv_at hl 1 rfl) ?_
        refine lv_istore_n (lv' := [(1, .int v), (0, .ref m0), (2, .int (nI i))]) hx hb dX7_longest_51 rfl hl (by decide) rfl (fun ls hl => ?_)
        refine lv_iinc (v := nI (i + 1)) (lv' := [(2, .int (nI (i + 1))), (1, .int v), (0, .ref m0)]) hx hb dX7_longest_52 hl (k := 2) rfl (nI_add _ _) (by decide) rfl (fun ls hl => ?_)
        refine lv_goto (tgt := 5) hx hb dX7_longest_55 (by decide) ?_
        exact ih_5 _ (by omega) (i + 1) x y v _ _ _ rfl (by omega) (hv_) (by rw [lonP_s hp_]; first | rw [if_pos (by omega)] | rw [if_neg (by omega)]) (hx_) hP hD hS (lv_sub hl [2, 1, 0] rfl)
      · have hg0_ : 0 < ln a i := by rw [inG_nI c_8, decide_eq_true_iff] at c_16; exact c_16
        refine lv_iload_n hx hb dX7_longest_19 rfl (lv_at hl 1 rfl) ?_
        refine lv_bipush (v := -5) hx hb dX7_longest_20 (by decide) ?_
        refine lv_icmp_eq (tgt := 46) hx hb dX7_longest_22 (by decide) (fun c_22 => ?_) (fun c_22 => ?_)
        · have hy0_ : y = 0 := by rcases hx_ with h_ | h_; exact h_.2; exact absurd (c_22.symm.trans (hv_.trans (lonI_n h_.1))) (fun e_ => nI_m5 (by omega) e_.symm)
          refine lv_iload_n hx hb dX7_longest_46 rfl (lv_at hl 2 rfl) ?_
          refine lv_goto (tgt := 51) hx hb dX7_longest_47 (by decide) ?_
          refine lv_istore_n (lv' := [(1, .int (nI i)), (0, .ref m0), (2, .int (nI i))]) hx hb dX7_longest_51 rfl hl (by decide) rfl (fun ls hl => ?_)
          refine lv_iinc (v := nI (i + 1)) (lv' := [(2, .int (nI (i + 1))), (1, .int (nI i)), (0, .ref m0)]) hx hb dX7_longest_52 hl (k := 2) rfl (nI_add _ _) (by decide) rfl (fun ls hl => ?_)
          refine lv_goto (tgt := 5) hx hb dX7_longest_55 (by decide) ?_
          exact ih_5 _ (by omega) (i + 1) i (ln a i) (nI i) _ _ _ rfl (by omega) ((lonI_n (by omega)).symm) (by rw [lonP_s hp_]; first | rw [if_pos (by omega)] | rw [if_neg (by omega)]) (Or.inr ⟨by omega, rfl⟩) hP hD hS (lv_sub hl [2, 1, 0] rfl)
        · have hx8_ : x < 8 := by rcases hx_ with h_ | h_; exact absurd (by rw [hv_, h_.1]; rfl) c_22; exact h_.1
          have hxl_ := hV.l hx8_
          obtain rfl : v = nI x := by rw [hv_]; exact lonI_n hx8_
          refine lv_aload_n hx hb dX7_longest_25 rfl (lv_at hl 0 rfl) ?_
          refine va_get (D := D) (cl := vwCl) (ci := 7) (v := .ref m1) (C := RX7) (T := TX7) (N := 14) hx hb hts inf_X7_longest_X7 hown hK.1 (hR.at hS) 0 rfl rfl 0 (by decide) (hts _ (List.mem_of_getElem? (i := 1) rfl)) (fun _ h9 => h9) rfl dX7_longest_26 ?_
          refine lv_bipush (v := nI 22) hx hb dX7_longest_29 (by decide) ?_
          refine lv_iload_n hx hb dX7_longest_31 rfl (lv_at hl 2 rfl) ?_
          refine nv_iadd hx hb dX7_longest_32 ?_
          refine nv_iald (a := M) hx hb hK (hR.at hS) 1 rfl (by omega) (by decide) dX7_longest_33 ?_
          refine tope (y := nI (ln a i)) (congrArg nI (hM.l (by omega))) ?_
          refine lv_aload_n hx hb dX7_longest_34 rfl (lv_at hl 0 rfl) ?_
          refine va_get (D := D) (cl := vwCl) (ci := 7) (v := .ref m1) (C := RX7) (T := TX7) (N := 14) hx hb hts inf_X7_longest_X7 hown hK.1 (hR.at hS) 0 rfl rfl 0 (by decide) (hts _ (List.mem_of_getElem? (i := 1) rfl)) (fun _ h9 => h9) rfl dX7_longest_35 ?_
          refine lv_bipush (v := nI 22) hx hb dX7_longest_38 (by decide) ?_
          refine lv_iload_n hx hb dX7_longest_40 rfl (lv_at hl 1 rfl) ?_
          refine nv_iadd hx hb dX7_longest_41 ?_
          refine nv_iald (a := M) hx hb hK (hR.at hS) 1 rfl (by omega) (by decide) dX7_longest_42 ?_
          refine tope (y := nI (ln a x)) (congrArg nI (hM.l (by omega))) ?_
          refine nv_icmp_le (tgt := 50) hx hb dX7_longest_43 (by decide) (by omega) (by omega) (fun c_43 => ?_) (fun c_43 => ?_)
          · refine lv_iload_n hx hb dX7_longest_50 rfl (lv_at hl 1 rfl) ?_
            refine lv_istore_n (lv' := [(1, .int (nI x)), (0, .ref m0), (2, .int (nI i))]) hx hb dX7_longest_51 rfl hl (by decide) rfl (fun ls hl => ?_)
            refine lv_iinc (v := nI (i + 1)) (lv' := [(2, .int (nI (i + 1))), (1, .int (nI x)), (0, .ref m0)]) hx hb dX7_longest_52 hl (k := 2) rfl (nI_add _ _) (by decide) rfl (fun ls hl => ?_)
            refine lv_goto (tgt := 5) hx hb dX7_longest_55 (by decide) ?_
            exact ih_5 _ (by omega) (i + 1) x y (nI x) _ _ _ rfl (by omega) (hv_) (by rw [lonP_s hp_]; first | rw [if_pos (by omega)] | rw [if_neg (by omega)]) (hx_) hP hD hS (lv_sub hl [2, 1, 0] rfl)
          · refine lv_iload_n hx hb dX7_longest_46 rfl (lv_at hl 2 rfl) ?_
            refine lv_goto (tgt := 51) hx hb dX7_longest_47 (by decide) ?_
            refine lv_istore_n (lv' := [(1, .int (nI i)), (0, .ref m0), (2, .int (nI i))]) hx hb dX7_longest_51 rfl hl (by decide) rfl (fun ls hl => ?_)
            refine lv_iinc (v := nI (i + 1)) (lv' := [(2, .int (nI (i + 1))), (1, .int (nI i)), (0, .ref m0)]) hx hb dX7_longest_52 hl (k := 2) rfl (nI_add _ _) (by decide) rfl (fun ls hl => ?_)
            refine lv_goto (tgt := 5) hx hb dX7_longest_55 (by decide) ?_
            exact ih_5 _ (by omega) (i + 1) i (ln a i) (nI i) _ _ _ rfl (by omega) ((lonI_n (by omega)).symm) (by rw [lonP_s hp_]; first | rw [if_pos (by omega)] | rw [if_neg (by omega)]) (Or.inr ⟨by omega, rfl⟩) hP hD hS (lv_sub hl [2, 1, 0] rfl)
  exact LP_5 _ 0 8 0 ((-5)) _ _ _ rfl (by omega) (rfl) (rfl) (Or.inl ⟨rfl, rfl⟩) hP hD hS (lv_sub hl [2, 1, 0] rfl)
abbrev rm_X7_count : Room := { frames := 5, cells := 0, slots := 0, locals := 114 }
theorem ydv_X7_count : yX7_count.cls = RX7 ∧ yX7_count.cls ≠ "java/lang/invoke/MethodHandle" ∧ yX7_count.cls ≠ "java/lang/invoke/VarHandle" ∧ (parseMethodDescriptor yX7_count.desc).map (fun d => d.parameters.length) = some 1 := by decide +kernel
theorem inf_X7_count_X7 : ∀ w ∈ wsX70, w ∈ wsX7_count := fun w h => List.mem_cons_of_mem _ (List.mem_append_right _ (h))
set_option maxHeartbeats 4000000 in
set_option maxRecDepth 100000 in
theorem c_X7_count (l : Launch) (D : va_G) (cA : ClassId) (m0 m1 m2 m3 m4 m5 m6 m7 m8 m9 yl ik tl sp rd : Nat) (a M : Nat → Nat) (w : Int32) (hV : Vd a) (hM : Rl a M) (hyl : yl ≤ 4) (htl : tl ≤ 80) : RO l D cA yX7_count wsX7_count rm_X7_count [.ref m0, .int w] [(m0, .inr (7, [.ref m1, .ref m2, .ref m3, .int (nI yl), .ref m4, .int (nI ik), .ref m5, .ref m6, .int (nI tl), .int (nI sp), .int (nI rd), .ref m7, .ref m8, .ref m9])), (m1, .inl (cA, 286, .inl (nF M)))] (sCnt a yl tl w) := by
  refine ofWi (cc := cX7_count) (maxL := 2) (rt := .int) (by decide) rfl (Nat.le_of_ble_eq_true rfl) ?_
  intro p e s m args below meth c Q A ls F hK hR hP hD hA hS hl RET
  obtain ⟨hx, hb, hml, hown, hts⟩ := id F
  have hl : lv_has ls 2 [(0, .ref m0), (1, .int w)] := hl
  refine lv_iload_n hx hb dX7_count_0 rfl (lv_at hl 1 rfl) ?_
  rcases sw_10 w with rfl | rfl | rfl | rfl | rfl | rfl | rfl | rfl | rfl | rfl | c_1
  · refine lv_tableIn (tgt := 56) hx hb dX7_count_1 (by decide) (by decide) rfl (by decide) ?_
    refine lv_aload_n hx hb dX7_count_56 rfl (lv_at hl 0 rfl) ?_
    refine lv_iload_n hx hb dX7_count_57 rfl (lv_at hl 1 rfl) ?_
    refine call_r (q := (RX7, TX7, 14)) (As := [.int (nI 0)]) (rest := []) F (c_X7_over0 l D cA m0 m1 ([.ref m2, .ref m3, .int (nI yl), .ref m4, .int (nI ik), .ref m5, .ref m6, .int (nI tl), .int (nI sp), .int (nI rd), .ref m7, .ref m8, .ref m9]) a M (hV) (hM)) (cwV 1 hts gX7_count_X7_over rfl rfl rfl ydv_X7_over ⟨Nat.le_of_ble_eq_true rfl, Nat.le_of_ble_eq_true rfl⟩) hK hR hP hD hA hS [0, 1] rfl rfl 0 7 rfl rfl rfl hl.1 rfl (Nat.le_of_ble_eq_true rfl) dX7_count_58 ⟨Nat.zero_le _, Nat.zero_le _⟩ (fun H locs hP hS => ?_)
    refine tope (y := sCnt a yl tl (nI 0)) (by simp [sCnt, swN_0]) ?_
    exact RET _ _ _ _ _ () dX7_count_61 rfl rfl hP hS
  · refine lv_tableIn (tgt := 56) hx hb dX7_count_1 (by decide) (by decide) rfl (by decide) ?_
    refine lv_aload_n hx hb dX7_count_56 rfl (lv_at hl 0 rfl) ?_
    refine lv_iload_n hx hb dX7_count_57 rfl (lv_at hl 1 rfl) ?_
    refine call_r (q := (RX7, TX7, 14)) (As := [.int (nI 1)]) (rest := []) F (c_X7_over1 l D cA m0 m1 ([.ref m2, .ref m3, .int (nI yl), .ref m4, .int (nI ik), .ref m5, .ref m6, .int (nI tl), .int (nI sp), .int (nI rd), .ref m7, .ref m8, .ref m9]) a M (hV) (hM)) (cwV 1 hts gX7_count_X7_over rfl rfl rfl ydv_X7_over ⟨Nat.le_of_ble_eq_true rfl, Nat.le_of_ble_eq_true rfl⟩) hK hR hP hD hA hS [0, 1] rfl rfl 0 7 rfl rfl rfl hl.1 rfl (Nat.le_of_ble_eq_true rfl) dX7_count_58 ⟨Nat.zero_le _, Nat.zero_le _⟩ (fun H locs hP hS => ?_)
    refine tope (y := sCnt a yl tl (nI 1)) (by simp [sCnt, swN_1]) ?_
    exact RET _ _ _ _ _ () dX7_count_61 rfl rfl hP hS
  · refine lv_tableIn (tgt := 56) hx hb dX7_count_1 (by decide) (by decide) rfl (by decide) ?_
    refine lv_aload_n hx hb dX7_count_56 rfl (lv_at hl 0 rfl) ?_
    refine lv_iload_n hx hb dX7_count_57 rfl (lv_at hl 1 rfl) ?_
    refine call_r (q := (RX7, TX7, 14)) (As := [.int (nI 2)]) (rest := []) F (c_X7_over2 l D cA m0 m1 ([.ref m2, .ref m3, .int (nI yl), .ref m4, .int (nI ik), .ref m5, .ref m6, .int (nI tl), .int (nI sp), .int (nI rd), .ref m7, .ref m8, .ref m9]) a M (hV) (hM)) (cwV 1 hts gX7_count_X7_over rfl rfl rfl ydv_X7_over ⟨Nat.le_of_ble_eq_true rfl, Nat.le_of_ble_eq_true rfl⟩) hK hR hP hD hA hS [0, 1] rfl rfl 0 7 rfl rfl rfl hl.1 rfl (Nat.le_of_ble_eq_true rfl) dX7_count_58 ⟨Nat.zero_le _, Nat.zero_le _⟩ (fun H locs hP hS => ?_)
    refine tope (y := sCnt a yl tl (nI 2)) (by simp [sCnt, swN_2]) ?_
    exact RET _ _ _ _ _ () dX7_count_61 rfl rfl hP hS
  · refine lv_tableIn (tgt := 56) hx hb dX7_count_1 (by decide) (by decide) rfl (by decide) ?_
    refine lv_aload_n hx hb dX7_count_56 rfl (lv_at hl 0 rfl) ?_
    refine lv_iload_n hx hb dX7_count_57 rfl (lv_at hl 1 rfl) ?_
    refine call_r (q := (RX7, TX7, 14)) (As := [.int (nI 3)]) (rest := []) F (c_X7_over3 l D cA m0 m1 ([.ref m2, .ref m3, .int (nI yl), .ref m4, .int (nI ik), .ref m5, .ref m6, .int (nI tl), .int (nI sp), .int (nI rd), .ref m7, .ref m8, .ref m9]) a M (hV) (hM)) (cwV 1 hts gX7_count_X7_over rfl rfl rfl ydv_X7_over ⟨Nat.le_of_ble_eq_true rfl, Nat.le_of_ble_eq_true rfl⟩) hK hR hP hD hA hS [0, 1] rfl rfl 0 7 rfl rfl rfl hl.1 rfl (Nat.le_of_ble_eq_true rfl) dX7_count_58 ⟨Nat.zero_le _, Nat.zero_le _⟩ (fun H locs hP hS => ?_)
    refine tope (y := sCnt a yl tl (nI 3)) (by simp [sCnt, swN_3]) ?_
    exact RET _ _ _ _ _ () dX7_count_61 rfl rfl hP hS
  · refine lv_tableIn (tgt := 62) hx hb dX7_count_1 (by decide) (by decide) rfl (by decide) ?_
    refine lv_aload_n hx hb dX7_count_62 rfl (lv_at hl 0 rfl) ?_
    refine va_get (D := D) (cl := vwCl) (ci := 7) (v := .ref m1) (C := RX7) (T := TX7) (N := 14) hx hb hts inf_X7_count_X7 hown hK.1 (hR.at hS) 0 rfl rfl 0 (by decide) (hts _ (List.mem_of_getElem? (i := 1) rfl)) (fun _ h9 => h9) rfl dX7_count_63 ?_
    refine lv_iconst (v := nI 0) hx hb dX7_count_66 (by decide) ?_
    refine lv_iload_n hx hb dX7_count_67 rfl (lv_at hl 1 rfl) ?_
    refine nv_iadd hx hb dX7_count_68 ?_
    refine lv_iconst (v := nI 4) hx hb dX7_count_69 (by decide) ?_
    refine nv_isub hx hb dX7_count_70 (by decide) ?_
    refine nv_iald (a := M) hx hb hK (hR.at hS) 1 rfl (by omega) (by decide) dX7_count_71 ?_
    refine tope (y := nI (a 0)) (congrArg nI (hM.1)) ?_
    refine tope (y := sCnt a yl tl (nI 4)) (by simp [sCnt, swN_4]) ?_
    exact RET _ _ _ _ _ () dX7_count_72 rfl rfl hP hS
  · refine lv_tableIn (tgt := 62) hx hb dX7_count_1 (by decide) (by decide) rfl (by decide) ?_
    refine lv_aload_n hx hb dX7_count_62 rfl (lv_at hl 0 rfl) ?_
    refine va_get (D := D) (cl := vwCl) (ci := 7) (v := .ref m1) (C := RX7) (T := TX7) (N := 14) hx hb hts inf_X7_count_X7 hown hK.1 (hR.at hS) 0 rfl rfl 0 (by decide) (hts _ (List.mem_of_getElem? (i := 1) rfl)) (fun _ h9 => h9) rfl dX7_count_63 ?_
    refine lv_iconst (v := nI 0) hx hb dX7_count_66 (by decide) ?_
    refine lv_iload_n hx hb dX7_count_67 rfl (lv_at hl 1 rfl) ?_
    refine nv_iadd hx hb dX7_count_68 ?_
    refine lv_iconst (v := nI 4) hx hb dX7_count_69 (by decide) ?_
    refine nv_isub hx hb dX7_count_70 (by decide) ?_
    refine nv_iald (a := M) hx hb hK (hR.at hS) 1 rfl (by omega) (by decide) dX7_count_71 ?_
    refine tope (y := nI (a 1)) (congrArg nI (hM.2.1)) ?_
    refine tope (y := sCnt a yl tl (nI 5)) (by simp [sCnt, swN_5]) ?_
    exact RET _ _ _ _ _ () dX7_count_72 rfl rfl hP hS
  · refine lv_tableIn (tgt := 56) hx hb dX7_count_1 (by decide) (by decide) rfl (by decide) ?_
    refine lv_aload_n hx hb dX7_count_56 rfl (lv_at hl 0 rfl) ?_
    refine lv_iload_n hx hb dX7_count_57 rfl (lv_at hl 1 rfl) ?_
    refine call_r (q := (RX7, TX7, 14)) (As := [.int (nI 6)]) (rest := []) F (c_X7_over6 l D cA m0 m1 ([.ref m2, .ref m3, .int (nI yl), .ref m4, .int (nI ik), .ref m5, .ref m6, .int (nI tl), .int (nI sp), .int (nI rd), .ref m7, .ref m8, .ref m9]) a M (hV) (hM)) (cwV 1 hts gX7_count_X7_over rfl rfl rfl ydv_X7_over ⟨Nat.le_of_ble_eq_true rfl, Nat.le_of_ble_eq_true rfl⟩) hK hR hP hD hA hS [0, 1] rfl rfl 0 7 rfl rfl rfl hl.1 rfl (Nat.le_of_ble_eq_true rfl) dX7_count_58 ⟨Nat.zero_le _, Nat.zero_le _⟩ (fun H locs hP hS => ?_)
    refine tope (y := sCnt a yl tl (nI 6)) (by simp [sCnt, swN_6]) ?_
    exact RET _ _ _ _ _ () dX7_count_61 rfl rfl hP hS
  · refine lv_tableIn (tgt := 56) hx hb dX7_count_1 (by decide) (by decide) rfl (by decide) ?_
    refine lv_aload_n hx hb dX7_count_56 rfl (lv_at hl 0 rfl) ?_
    refine lv_iload_n hx hb dX7_count_57 rfl (lv_at hl 1 rfl) ?_
    refine call_r (q := (RX7, TX7, 14)) (As := [.int (nI 7)]) (rest := []) F (c_X7_over7 l D cA m0 m1 ([.ref m2, .ref m3, .int (nI yl), .ref m4, .int (nI ik), .ref m5, .ref m6, .int (nI tl), .int (nI sp), .int (nI rd), .ref m7, .ref m8, .ref m9]) a M (hV) (hM)) (cwV 1 hts gX7_count_X7_over rfl rfl rfl ydv_X7_over ⟨Nat.le_of_ble_eq_true rfl, Nat.le_of_ble_eq_true rfl⟩) hK hR hP hD hA hS [0, 1] rfl rfl 0 7 rfl rfl rfl hl.1 rfl (Nat.le_of_ble_eq_true rfl) dX7_count_58 ⟨Nat.zero_le _, Nat.zero_le _⟩ (fun H locs hP hS => ?_)
    refine tope (y := sCnt a yl tl (nI 7)) (by simp [sCnt, swN_7]) ?_
    exact RET _ _ _ _ _ () dX7_count_61 rfl rfl hP hS
  · refine lv_tableIn (tgt := 73) hx hb dX7_count_1 (by decide) (by decide) rfl (by decide) ?_
    refine lv_aload_n hx hb dX7_count_73 rfl (lv_at hl 0 rfl) ?_
    refine va_get (D := D) (cl := vwCl) (ci := 7) (v := .int (nI yl)) (C := RX7) (T := TX7) (N := 14) hx hb hts inf_X7_count_X7 hown hK.1 (hR.at hS) 0 rfl rfl 3 (by decide) (hts _ (List.mem_of_getElem? (i := 2) rfl)) (fun _ h9 => h9) rfl dX7_count_74 ?_
    refine tope (y := sCnt a yl tl (nI 8)) (by simp [sCnt, swN_8]) ?_
    exact RET _ _ _ _ _ () dX7_count_77 rfl rfl hP hS
  · refine lv_tableIn (tgt := 78) hx hb dX7_count_1 (by decide) (by decide) rfl (by decide) ?_
    refine lv_aload_n hx hb dX7_count_78 rfl (lv_at hl 0 rfl) ?_
    refine va_get (D := D) (cl := vwCl) (ci := 7) (v := .int (nI tl)) (C := RX7) (T := TX7) (N := 14) hx hb hts inf_X7_count_X7 hown hK.1 (hR.at hS) 0 rfl rfl 8 (by decide) (hts _ (List.mem_of_getElem? (i := 3) rfl)) (fun _ h9 => h9) rfl dX7_count_79 ?_
    refine tope (y := sCnt a yl tl (nI 9)) (by simp [sCnt, swN_9]) ?_
    exact RET _ _ _ _ _ () dX7_count_82 rfl rfl hP hS
  · refine lv_tableOut (tgt := 83) hx hb dX7_count_1 c_1 (by decide) ?_
    refine lv_bipush (v := -2) hx hb dX7_count_83 (by decide) ?_
    refine tope (y := sCnt a yl tl w) (by have h9_ := swN_ge (n := 9) (by decide) c_1; rw [sCnt]; repeat (rw [if_neg (by omega)])) ?_
    exact RET _ _ _ _ _ () dX7_count_85 rfl rfl hP hS
