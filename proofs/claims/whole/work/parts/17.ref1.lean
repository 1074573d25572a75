/-! laid by a program: contracts of X7_in, X7_isKind, X7_handOf0, X7_handOf1, X7_clash, X7_isGarland, X7_dollAt, X7_last, X7_freeNumber, X7_anyClash, X7_turnedDoll, X7_isLike0, X7_isLike1, X7_isOwnImage, X7_mirroredIn, X7_greatestKind, X7_garlands, X7_dollsOf0, X7_dollsOf1, X7_kindsIn, X7_repeatOf, X7_firstLike, X7_meeting, X7_over0, X7_over1, X7_over2, X7_over3, X7_over6, X7_over7 -/
abbrev rm_X7_in : Room := { frames := 0, cells := 0, slots := 0, locals := 0 }
theorem yd_X7_in : yX7_in.cls ≠ "java/lang/invoke/MethodHandle" ∧ yX7_in.cls ≠ "java/lang/invoke/VarHandle" ∧ (parseMethodDescriptor yX7_in.desc).map (fun d => d.parameters.length) = some 3 := by decide +kernel
set_option maxHeartbeats 4000000 in
set_option maxRecDepth 100000 in
theorem c_X7_in (l : Launch) (D : va_G) (cA : ClassId) (v lo hi : Int64)  : RO l D cA yX7_in wsX7_in rm_X7_in [.long v, .long lo, .long hi] [] (bI (inL v lo hi)) := by
  refine ofWi (cc := cX7_in) (maxL := 6) (rt := .boolean) (by decide) rfl (Nat.le_of_ble_eq_true rfl) ?_
  intro p e s m args below meth c Q A ls F hK hR hP hD hA hS hl RET
  obtain ⟨hx, hb, hml, hown, hts⟩ := id F
  have hl : lv_has ls 6 [(0, .long v), (2, .long lo), (4, .long hi)] := hl
  refine lv_lload_n hx hb dX7_in_0 rfl (lv_at hl 0 rfl) ?_
  refine lv_lload_n hx hb dX7_in_1 rfl (lv_at hl 1 rfl) ?_
  refine W.lcmp hx hb dX7_in_2 ?_
  refine lv_if_lt (tgt := 17) hx hb dX7_in_3 (by decide) (fun c_3 => ?_) (fun c_3 => ?_)
  · refine lv_iconst (v := nI 0) hx hb dX7_in_17 (by decide) ?_
    refine tope (y := bI (inL v lo hi)) (by first | exact bI_t (inL_3 c_3 c_10) | exact bI_f (inL_1 c_3) | exact bI_f (inL_2 c_10)) ?_
    exact RET _ _ _ _ _ () dX7_in_18 (nbI _) rfl hP hS
  · refine lv_lload_n hx hb dX7_in_6 rfl (lv_at hl 0 rfl) ?_
    refine lv_lload hx hb dX7_in_7 (lv_at hl 2 rfl) ?_
    refine W.lcmp hx hb dX7_in_9 ?_
    refine lv_if_gt (tgt := 17) hx hb dX7_in_10 (by decide) (fun c_10 => ?_) (fun c_10 => ?_)
    · refine lv_iconst (v := nI 0) hx hb dX7_in_17 (by decide) ?_
      refine tope (y := bI (inL v lo hi)) (by first | exact bI_t (inL_3 c_3 c_10) | exact bI_f (inL_1 c_3) | exact bI_f (inL_2 c_10)) ?_
      exact RET _ _ _ _ _ () dX7_in_18 (nbI _) rfl hP hS
    · refine lv_iconst (v := nI 1) hx hb dX7_in_13 (by decide) ?_
      refine lv_goto (tgt := 18) hx hb dX7_in_14 (by decide) ?_
      refine tope (y := bI (inL v lo hi)) (by first | exact bI_t (inL_3 c_3 c_10) | exact bI_f (inL_1 c_3) | exact bI_f (inL_2 c_10)) ?_
      exact RET _ _ _ _ _ () dX7_in_18 (nbI _) rfl hP hS
abbrev rm_X7_isKind : Room := { frames := 1, cells := 0, slots := 0, locals := 25 }
theorem ydv_X7_isKind : yX7_isKind.cls = RX7 ∧ yX7_isKind.cls ≠ "java/lang/invoke/MethodHandle" ∧ yX7_isKind.cls ≠ "java/lang/invoke/VarHandle" ∧ (parseMethodDescriptor yX7_isKind.desc).map (fun d => d.parameters.length) = some 1 := by decide +kernel
theorem inf_X7_isKind_X7 : ∀ w ∈ wsX70, w ∈ wsX7_isKind := fun w h => List.mem_cons_of_mem _ (List.mem_append_right _ (h))
set_option maxHeartbeats 4000000 in
set_option maxRecDepth 100000 in
theorem c_X7_isKind (l : Launch) (D : va_G) (cA : ClassId) (m0 m1 : Nat) (fs : List Value) (a M : Nat → Nat) (x : Int32) (hV : Vd a) (hM : Rl a M) : RO l D cA yX7_isKind wsX7_isKind rm_X7_isKind [.ref m0, .int x] [(m0, .inr (7, .ref m1 :: fs)), (m1, .inl (cA, 286, .inl (nF M)))] (bI (isB x (a 1))) := by
  refine ofWi (cc := cX7_isKind) (maxL := 2) (rt := .boolean) (by decide) rfl (Nat.le_of_ble_eq_true rfl) ?_
  intro p e s m args below meth c Q A ls F hK hR hP hD hA hS hl RET
  obtain ⟨hx, hb, hml, hown, hts⟩ := id F
  have hl : lv_has ls 2 [(0, .ref m0), (1, .int x)] := hl
  have hk_ := hV.k
  refine lv_iload_n hx hb dX7_isKind_0 rfl (lv_at hl 1 rfl) ?_
  refine lv_i2l (v := (x).toInt64) hx hb dX7_isKind_1 rfl ?_
  refine lv_lconst (v := lN 0) hx hb dX7_isKind_2 rfl ?_
  refine lv_aload_n hx hb dX7_isKind_3 rfl (lv_at hl 0 rfl) ?_
  refine va_get (D := D) (cl := vwCl) (ci := 7) (v := .ref m1) (C := RX7) (T := TX7) (N := 14) hx hb hts inf_X7_isKind_X7 hown hK.1 (hR.at hS) 0 rfl rfl 0 (by decide) (hts _ (List.mem_of_getElem? (i := 1) rfl)) (fun _ h9 => h9) rfl dX7_isKind_4 ?_
  refine lv_iconst (v := nI 1) hx hb dX7_isKind_7 (by decide) ?_
  refine nv_iald (a := M) hx hb hK (hR.at hS) 1 rfl (by omega) (by decide) dX7_isKind_8 ?_
  refine tope (y := nI (a 1)) (congrArg nI (hM.2.1)) ?_
  refine lv_i2l (v := lN (a 1)) hx hb dX7_isKind_9 (nI_l (by omega)) ?_
  refine lv_lconst (v := lN 1) hx hb dX7_isKind_10 rfl ?_
  refine lv_lsub hx hb dX7_isKind_11 ?_
  rw [show lN (a 1) - lN 1 = lN (a 1 - 1) from lN_sub (by omega)]
  refine call_s (As := [.long ((x).toInt64), .long (lN 0), .long (lN (a 1 - 1))]) (rest := []) F (c_X7_in l D cA ((x).toInt64) (lN 0) (lN (a 1 - 1))) (va_cwS 3 hts gX7_isKind_X7_in rfl rfl rfl yd_X7_in ⟨Nat.le_of_ble_eq_true rfl, Nat.le_of_ble_eq_true rfl⟩) hK hR hP hD hA hS rfl hl.1 rfl (Nat.le_of_ble_eq_true rfl) dX7_isKind_12 ⟨Nat.zero_le _, Nat.zero_le _⟩ (fun H locs hP hS => ?_)
  refine tope (y := bI (isB x (a 1))) (congrArg bI (inL_K (by omega) (by omega))) ?_
  exact RET _ _ _ _ _ () dX7_isKind_15 (nbI _) rfl hP hS
abbrev rm_X7_handOf : Room := { frames := 0, cells := 0, slots := 0, locals := 0 }
theorem ydv_X7_handOf : yX7_handOf.cls = RX7 ∧ yX7_handOf.cls ≠ "java/lang/invoke/MethodHandle" ∧ yX7_handOf.cls ≠ "java/lang/invoke/VarHandle" ∧ (parseMethodDescriptor yX7_handOf.desc).map (fun d => d.parameters.length) = some 2 := by decide +kernel
theorem inf_X7_handOf_X7 : ∀ w ∈ wsX70, w ∈ wsX7_handOf := fun w h => List.mem_cons_of_mem _ (List.mem_append_right _ (h))
set_option maxHeartbeats 4000000 in
set_option maxRecDepth 100000 in
theorem c_X7_handOf0 (l : Launch) (D : va_G) (cA : ClassId) (m0 m1 : Nat) (fs : List Value) (a M : Nat → Nat) (d : Nat) (hV : Vd a) (hM : Rl a M) (hd : d < 20) : RO l D cA yX7_handOf wsX7_handOf rm_X7_handOf [.ref m0, .int (nI d), .int (nI 0)] [(m0, .inr (7, .ref m1 :: fs)), (m1, .inl (cA, 286, .inl (nF M)))] (nI (hdL a d)) := by
  refine ofWi (cc := cX7_handOf) (maxL := 3) (rt := .int) (by decide) rfl (Nat.le_of_ble_eq_true rfl) ?_
  intro p e s m args below meth c Q A ls F hK hR hP hD hA hS hl RET
  obtain ⟨hx, hb, hml, hown, hts⟩ := id F
  have hl : lv_has ls 3 [(0, .ref m0), (1, .int (nI d)), (2, .int (nI 0))] := hl
  refine lv_aload_n hx hb dX7_handOf_0 rfl (lv_at hl 0 rfl) ?_
  refine va_get (D := D) (cl := vwCl) (ci := 7) (v := .ref m1) (C := RX7) (T := TX7) (N := 14) hx hb hts inf_X7_handOf_X7 hown hK.1 (hR.at hS) 0 rfl rfl 0 (by decide) (hts _ (List.mem_of_getElem? (i := 1) rfl)) (fun _ h9 => h9) rfl dX7_handOf_1 ?_
  refine lv_iconst (v := nI 2) hx hb dX7_handOf_4 (by decide) ?_
  refine lv_iload_n hx hb dX7_handOf_5 rfl (lv_at hl 1 rfl) ?_
  refine lv_iconst (v := nI 2) hx hb dX7_handOf_6 (by decide) ?_
  refine nv_idiv hx hb dX7_handOf_7 (by omega) (by decide) (by decide) ?_
  refine lv_iconst (v := nI 2) hx hb dX7_handOf_8 (by decide) ?_
  refine nv_imul hx hb dX7_handOf_9 ?_
  refine nv_iadd hx hb dX7_handOf_10 ?_
  refine lv_iload_n hx hb dX7_handOf_11 rfl (lv_at hl 2 rfl) ?_
  refine lv_iload_n hx hb dX7_handOf_12 rfl (lv_at hl 1 rfl) ?_
  refine nv_iadd hx hb dX7_handOf_13 ?_
  refine lv_iconst (v := nI 2) hx hb dX7_handOf_14 (by decide) ?_
  refine nv_irem hx hb dX7_handOf_15 (by omega) (by decide) (by decide) ?_
  refine nv_iadd hx hb dX7_handOf_16 ?_
  refine nv_iald (a := M) hx hb hK (hR.at hS) 1 rfl (by omega) (by decide) dX7_handOf_17 ?_
  refine tope (y := nI (hdL a d)) (congrArg nI (hand_L hM hd)) ?_
  exact RET _ _ _ _ _ () dX7_handOf_18 rfl rfl hP hS
set_option maxHeartbeats 4000000 in
set_option maxRecDepth 100000 in
theorem c_X7_handOf1 (l : Launch) (D : va_G) (cA : ClassId) (m0 m1 : Nat) (fs : List Value) (a M : Nat → Nat) (d : Nat) (hV : Vd a) (hM : Rl a M) (hd : d < 20) : RO l D cA yX7_handOf wsX7_handOf rm_X7_handOf [.ref m0, .int (nI d), .int (nI 1)] [(m0, .inr (7, .ref m1 :: fs)), (m1, .inl (cA, 286, .inl (nF M)))] (nI (hdR a d)) := by
  refine ofWi (cc := cX7_handOf) (maxL := 3) (rt := .int) (by decide) rfl (Nat.le_of_ble_eq_true rfl) ?_
  intro p e s m args below meth c Q A ls F hK hR hP hD hA hS hl RET
  obtain ⟨hx, hb, hml, hown, hts⟩ := id F
  have hl : lv_has ls 3 [(0, .ref m0), (1, .int (nI d)), (2, .int (nI 1))] := hl
  refine lv_aload_n hx hb dX7_handOf_0 rfl (lv_at hl 0 rfl) ?_
  refine va_get (D := D) (cl := vwCl) (ci := 7) (v := .ref m1) (C := RX7) (T := TX7) (N := 14) hx hb hts inf_X7_handOf_X7 hown hK.1 (hR.at hS) 0 rfl rfl 0 (by decide) (hts _ (List.mem_of_getElem? (i := 1) rfl)) (fun _ h9 => h9) rfl dX7_handOf_1 ?_
  refine lv_iconst (v := nI 2) hx hb dX7_handOf_4 (by decide) ?_
  refine lv_iload_n hx hb dX7_handOf_5 rfl (lv_at hl 1 rfl) ?_
  refine lv_iconst (v := nI 2) hx hb dX7_handOf_6 (by decide) ?_
  refine nv_idiv hx hb dX7_handOf_7 (by omega) (by decide) (by decide) ?_
  refine lv_iconst (v := nI 2) hx hb dX7_handOf_8 (by decide) ?_
  refine nv_imul hx hb dX7_handOf_9 ?_
  refine nv_iadd hx hb dX7_handOf_10 ?_
  refine lv_iload_n hx hb dX7_handOf_11 rfl (lv_at hl 2 rfl) ?_
  refine lv_iload_n hx hb dX7_handOf_12 rfl (lv_at hl 1 rfl) ?_
  refine nv_iadd hx hb dX7_handOf_13 ?_
  refine lv_iconst (v := nI 2) hx hb dX7_handOf_14 (by decide) ?_
  refine nv_irem hx hb dX7_handOf_15 (by omega) (by decide) (by decide) ?_
  refine nv_iadd hx hb dX7_handOf_16 ?_
  refine nv_iald (a := M) hx hb hK (hR.at hS) 1 rfl (by omega) (by decide) dX7_handOf_17 ?_
  refine tope (y := nI (hdR a d)) (congrArg nI (hand_R hM hd)) ?_
  exact RET _ _ _ _ _ () dX7_handOf_18 rfl rfl hP hS
abbrev rm_X7_clash : Room := { frames := 1, cells := 0, slots := 0, locals := 22 }
theorem ydv_X7_clash : yX7_clash.cls = RX7 ∧ yX7_clash.cls ≠ "java/lang/invoke/MethodHandle" ∧ yX7_clash.cls ≠ "java/lang/invoke/VarHandle" ∧ (parseMethodDescriptor yX7_clash.desc).map (fun d => d.parameters.length) = some 2 := by decide +kernel
theorem inf_X7_clash_X7 : ∀ w ∈ wsX70, w ∈ wsX7_clash := fun w h => List.mem_cons_of_mem _ (List.mem_append_right _ (h))
set_option maxHeartbeats 4000000 in
set_option maxRecDepth 100000 in
theorem c_X7_clash (l : Launch) (D : va_G) (cA : ClassId) (m0 m1 : Nat) (fs : List Value) (a M : Nat → Nat) (d e_ : Nat) (hV : Vd a) (hM : Rl a M) (hd : d < 20) (he : e_ < 20) : RO l D cA yX7_clash wsX7_clash rm_X7_clash [.ref m0, .int (nI d), .int (nI e_)] [(m0, .inr (7, .ref m1 :: fs)), (m1, .inl (cA, 286, .inl (nF M)))] (bI (cl a d e_)) := by
  refine ofWi (cc := cX7_clash) (maxL := 5) (rt := .boolean) (by decide) rfl (Nat.le_of_ble_eq_true rfl) ?_
  intro p e s m args below meth c Q A ls F hK hR hP hD hA hS hl RET
  obtain ⟨hx, hb, hml, hown, hts⟩ := id F
  have hl : lv_has ls 5 [(0, .ref m0), (1, .int (nI d)), (2, .int (nI e_))] := hl
  have hr6 := hdR_lt hV hd
  have hl6 := hdL_lt hV he
  have h2_ := hV.r
  have h3_ : a 0 = 0 ∨ a 0 = 1 ∨ a 0 = 2 := by omega
  have hp_ := par_mr d e_
  refine lv_aload_n hx hb dX7_clash_0 rfl (lv_at hl 0 rfl) ?_
  refine lv_iload_n hx hb dX7_clash_1 rfl (lv_at hl 1 rfl) ?_
  refine lv_iconst (v := nI 1) hx hb dX7_clash_2 (by decide) ?_
  refine call_r (q := (RX7, TX7, 14)) (As := [.int (nI d), .int (nI 1)]) (rest := []) F (c_X7_handOf1 l D cA m0 m1 fs a M d (hV) (hM) (by omega)) (cwV 2 hts gX7_clash_X7_handOf rfl rfl rfl ydv_X7_handOf ⟨Nat.le_of_ble_eq_true rfl, Nat.le_of_ble_eq_true rfl⟩) hK hR hP hD hA hS [0, 1] rfl rfl 0 7 rfl rfl rfl hl.1 rfl (Nat.le_of_ble_eq_true rfl) dX7_clash_3 ⟨Nat.zero_le _, Nat.zero_le _⟩ (fun H locs hP hS => ?_)
  refine lv_istore_n (lv' := [(3, .int (nI (hdR a d))), (0, .ref m0), (1, .int (nI d)), (2, .int (nI e_))]) hx hb dX7_clash_6 rfl hl (by decide) rfl (fun ls hl => ?_)
  refine lv_aload_n hx hb dX7_clash_7 rfl (lv_at hl 1 rfl) ?_
  refine lv_iload_n hx hb dX7_clash_8 rfl (lv_at hl 3 rfl) ?_
  refine lv_iconst (v := nI 0) hx hb dX7_clash_9 (by decide) ?_
  refine call_r (q := (RX7, TX7, 14)) (As := [.int (nI e_), .int (nI 0)]) (rest := []) F (c_X7_handOf0 l D cA m0 m1 fs a M e_ (hV) (hM) (by omega)) (cwV 2 hts gX7_clash_X7_handOf rfl rfl rfl ydv_X7_handOf ⟨Nat.le_of_ble_eq_true rfl, Nat.le_of_ble_eq_true rfl⟩) hK hR hP hD hA hS [0, 1] rfl rfl 0 7 rfl rfl rfl hl.1 rfl (Nat.le_of_ble_eq_true rfl) dX7_clash_10 ⟨Nat.zero_le _, Nat.zero_le _⟩ (fun H locs hP hS => ?_)
  refine lv_istore (lv' := [(4, .int (nI (hdL a e_))), (3, .int (nI (hdR a d))), (0, .ref m0), (1, .int (nI d)), (2, .int (nI e_))]) hx hb dX7_clash_13 hl (by decide) rfl (fun ls hl => ?_)
  refine lv_iload_n hx hb dX7_clash_15 rfl (lv_at hl 1 rfl) ?_
  refine nv_if_eq (tgt := 24) hx hb dX7_clash_16 (by decide) (by omega) (fun c_16 => ?_) (fun c_16 => ?_)
  · refine lv_iconst (v := nI 0) hx hb dX7_clash_24 (by decide) ?_
    refine tope (y := bI (cl a d e_)) (by rcases h3_ with h0_ | h0_ | h0_ <;> first | (exfalso; omega) | exact bI_f (by simp [cl, h0_, hp_, eq_true c_16]) | exact bI_t (by simp [cl, h0_, hp_, eq_true c_16])) ?_
    exact RET _ _ _ _ _ () dX7_clash_25 (nbI _) rfl hP hS
  · refine lv_iload hx hb dX7_clash_19 (lv_at hl 0 rfl) ?_
    refine nv_if_ne (tgt := 26) hx hb dX7_clash_21 (by decide) (by omega) (fun c_21 => ?_) (fun c_21 => ?_)
    · refine lv_aload_n hx hb dX7_clash_26 rfl (lv_at hl 2 rfl) ?_
      refine va_get (D := D) (cl := vwCl) (ci := 7) (v := .ref m1) (C := RX7) (T := TX7) (N := 14) hx hb hts inf_X7_clash_X7 hown hK.1 (hR.at hS) 0 rfl rfl 0 (by decide) (hts _ (List.mem_of_getElem? (i := 1) rfl)) (fun _ h9 => h9) rfl dX7_clash_27 ?_
      refine lv_iconst (v := nI 0) hx hb dX7_clash_30 (by decide) ?_
      refine nv_iald (a := M) hx hb hK (hR.at hS) 1 rfl (by omega) (by decide) dX7_clash_31 ?_
      refine tope (y := nI (a 0)) (congrArg nI (hM.1)) ?_
      refine lv_iconst (v := nI 2) hx hb dX7_clash_32 (by decide) ?_
      refine nv_icmp_ne (tgt := 50) hx hb dX7_clash_33 (by decide) (by omega) (by decide) (fun c_33 => ?_) (fun c_33 => ?_)
      · refine lv_iload_n hx hb dX7_clash_50 rfl (lv_at hl 1 rfl) ?_
        refine lv_iload hx hb dX7_clash_51 (lv_at hl 0 rfl) ?_
        refine nv_icmp_ne (tgt := 79) hx hb dX7_clash_53 (by decide) (by omega) (by omega) (fun c_53 => ?_) (fun c_53 => ?_)
        · refine lv_iconst (v := nI 0) hx hb dX7_clash_79 (by decide) ?_
          refine tope (y := bI (cl a d e_)) (by rcases h3_ with h0_ | h0_ | h0_ <;> first | (exfalso; omega) | exact bI_f (by simp [cl, h0_, hp_, c_16, c_21, c_33, c_53]) | exact bI_t (by simp [cl, h0_, hp_, c_16, c_21, c_33, c_53])) ?_
          exact RET _ _ _ _ _ () dX7_clash_80 (nbI _) rfl hP hS
        · refine lv_aload_n hx hb dX7_clash_56 rfl (lv_at hl 2 rfl) ?_
          refine va_get (D := D) (cl := vwCl) (ci := 7) (v := .ref m1) (C := RX7) (T := TX7) (N := 14) hx hb hts inf_X7_clash_X7 hown hK.1 (hR.at hS) 0 rfl rfl 0 (by decide) (hts _ (List.mem_of_getElem? (i := 1) rfl)) (fun _ h9 => h9) rfl dX7_clash_57 ?_
          refine lv_iconst (v := nI 0) hx hb dX7_clash_60 (by decide) ?_
          refine nv_iald (a := M) hx hb hK (hR.at hS) 1 rfl (by omega) (by decide) dX7_clash_61 ?_
          refine tope (y := nI (a 0)) (congrArg nI (hM.1)) ?_
          refine lv_iconst (v := nI 1) hx hb dX7_clash_62 (by decide) ?_
          refine nv_icmp_eq (tgt := 75) hx hb dX7_clash_63 (by decide) (by omega) (by decide) (fun c_63 => ?_) (fun c_63 => ?_)
          · refine lv_iconst (v := nI 1) hx hb dX7_clash_75 (by decide) ?_
            refine lv_goto (tgt := 80) hx hb dX7_clash_76 (by decide) ?_
            refine tope (y := bI (cl a d e_)) (by rcases h3_ with h0_ | h0_ | h0_ <;> first | (exfalso; omega) | exact bI_f (by simp [cl, h0_, hp_, c_16, c_21, c_33, eq_true c_53, eq_true c_63]) | exact bI_t (by simp [cl, h0_, hp_, c_16, c_21, c_33, eq_true c_53, eq_true c_63])) ?_
            exact RET _ _ _ _ _ () dX7_clash_80 (nbI _) rfl hP hS
          · refine lv_iload_n hx hb dX7_clash_66 rfl (lv_at hl 3 rfl) ?_
            refine lv_iload_n hx hb dX7_clash_67 rfl (lv_at hl 4 rfl) ?_
            refine nv_iadd hx hb dX7_clash_68 ?_
            refine lv_iconst (v := nI 2) hx hb dX7_clash_69 (by decide) ?_
            refine nv_irem hx hb dX7_clash_70 (by omega) (by decide) (by decide) ?_
            refine lv_iconst (v := nI 1) hx hb dX7_clash_71 (by decide) ?_
            refine nv_icmp_ne (tgt := 79) hx hb dX7_clash_72 (by decide) (by omega) (by decide) (fun c_72 => ?_) (fun c_72 => ?_)
            · refine lv_iconst (v := nI 0) hx hb dX7_clash_79 (by decide) ?_
              refine tope (y := bI (cl a d e_)) (by rcases h3_ with h0_ | h0_ | h0_ <;> first | (exfalso; omega) | exact bI_f (by simp [cl, h0_, hp_, c_16, c_21, c_33, eq_true c_53, c_63, c_72]) | exact bI_t (by simp [cl, h0_, hp_, c_16, c_21, c_33, eq_true c_53, c_63, c_72])) ?_
              exact RET _ _ _ _ _ () dX7_clash_80 (nbI _) rfl hP hS
            · refine lv_iconst (v := nI 1) hx hb dX7_clash_75 (by decide) ?_
              refine lv_goto (tgt := 80) hx hb dX7_clash_76 (by decide) ?_
              refine tope (y := bI (cl a d e_)) (by rcases h3_ with h0_ | h0_ | h0_ <;> first | (exfalso; omega) | exact bI_f (by simp [cl, h0_, hp_, c_16, c_21, c_33, eq_true c_53, c_63, eq_true c_72]) | exact bI_t (by simp [cl, h0_, hp_, c_16, c_21, c_33, eq_true c_53, c_63, eq_true c_72])) ?_
              exact RET _ _ _ _ _ () dX7_clash_80 (nbI _) rfl hP hS
      · refine lv_iload_n hx hb dX7_clash_36 rfl (lv_at hl 1 rfl) ?_
        refine lv_iload hx hb dX7_clash_37 (lv_at hl 0 rfl) ?_
        refine nv_icmp_eq (tgt := 46) hx hb dX7_clash_39 (by decide) (by omega) (by omega) (fun c_39 => ?_) (fun c_39 => ?_)
        · refine lv_iconst (v := nI 0) hx hb dX7_clash_46 (by decide) ?_
          refine lv_goto (tgt := 80) hx hb dX7_clash_47 (by decide) ?_
          refine tope (y := bI (cl a d e_)) (by rcases h3_ with h0_ | h0_ | h0_ <;> first | (exfalso; omega) | exact bI_f (by simp [cl, h0_, hp_, c_16, c_21, eq_true c_33, eq_true c_39]) | exact bI_t (by simp [cl, h0_, hp_, c_16, c_21, eq_true c_33, eq_true c_39])) ?_
          exact RET _ _ _ _ _ () dX7_clash_80 (nbI _) rfl hP hS
        · refine lv_iconst (v := nI 1) hx hb dX7_clash_42 (by decide) ?_
          refine lv_goto (tgt := 80) hx hb dX7_clash_43 (by decide) ?_
          refine tope (y := bI (cl a d e_)) (by rcases h3_ with h0_ | h0_ | h0_ <;> first | (exfalso; omega) | exact bI_f (by simp [cl, h0_, hp_, c_16, c_21, eq_true c_33, c_39]) | exact bI_t (by simp [cl, h0_, hp_, c_16, c_21, eq_true c_33, c_39])) ?_
          exact RET _ _ _ _ _ () dX7_clash_80 (nbI _) rfl hP hS
    · refine lv_iconst (v := nI 0) hx hb dX7_clash_24 (by decide) ?_
      refine tope (y := bI (cl a d e_)) (by rcases h3_ with h0_ | h0_ | h0_ <;> first | (exfalso; omega) | exact bI_f (by simp [cl, h0_, hp_, c_16, eq_true c_21]) | exact bI_t (by simp [cl, h0_, hp_, c_16, eq_true c_21])) ?_
      exact RET _ _ _ _ _ () dX7_clash_25 (nbI _) rfl hP hS
abbrev rm_X7_isGarland : Room := { frames := 1, cells := 0, slots := 0, locals := 25 }
theorem ydv_X7_isGarland : yX7_isGarland.cls = RX7 ∧ yX7_isGarland.cls ≠ "java/lang/invoke/MethodHandle" ∧ yX7_isGarland.cls ≠ "java/lang/invoke/VarHandle" ∧ (parseMethodDescriptor yX7_isGarland.desc).map (fun d => d.parameters.length) = some 1 := by decide +kernel
theorem inf_X7_isGarland_X7 : ∀ w ∈ wsX70, w ∈ wsX7_isGarland := fun w h => List.mem_cons_of_mem _ (List.mem_append_right _ (h))
set_option maxHeartbeats 4000000 in
set_option maxRecDepth 100000 in
theorem c_X7_isGarland (l : Launch) (D : va_G) (cA : ClassId) (m0 m1 : Nat) (fs : List Value) (a M : Nat → Nat) (x : Int32) (hV : Vd a) (hM : Rl a M) : RO l D cA yX7_isGarland wsX7_isGarland rm_X7_isGarland [.ref m0, .int x] [(m0, .inr (7, .ref m1 :: fs)), (m1, .inl (cA, 286, .inl (nF M)))] (bI (inG a x)) := by
  refine ofWi (cc := cX7_isGarland) (maxL := 2) (rt := .boolean) (by decide) rfl (Nat.le_of_ble_eq_true rfl) ?_
  intro p e s m args below meth c Q A ls F hK hR hP hD hA hS hl RET
  obtain ⟨hx, hb, hml, hown, hts⟩ := id F
  have hl : lv_has ls 2 [(0, .ref m0), (1, .int x)] := hl
  refine lv_iload_n hx hb dX7_isGarland_0 rfl (lv_at hl 1 rfl) ?_
  refine lv_i2l (v := (x).toInt64) hx hb dX7_isGarland_1 rfl ?_
  refine lv_lconst (v := lN 0) hx hb dX7_isGarland_2 rfl ?_
  refine lv_ldc2 (v := lN 7) hx hb hown (hts _ (List.mem_of_getElem? (i := 1) rfl)) dX7_isGarland_3 ?_
  refine call_s (As := [.long ((x).toInt64), .long (lN 0), .long (lN 7)]) (rest := []) F (c_X7_in l D cA ((x).toInt64) (lN 0) (lN 7)) (va_cwS 3 hts gX7_isGarland_X7_in rfl rfl rfl yd_X7_in ⟨Nat.le_of_ble_eq_true rfl, Nat.le_of_ble_eq_true rfl⟩) hK hR hP hD hA hS rfl hl.1 rfl (Nat.le_of_ble_eq_true rfl) dX7_isGarland_6 ⟨Nat.zero_le _, Nat.zero_le _⟩ (fun H locs hP hS => ?_)
  refine tope (y := bI (isB x 8)) (congrArg bI (inL_B (n := 7) (by decide))) ?_
  refine bv_if_eq (tgt := 28) hx hb dX7_isGarland_9 (by decide) (fun c_9 => ?_) (fun c_9 => ?_)
  · refine lv_iconst (v := nI 0) hx hb dX7_isGarland_28 (by decide) ?_
    refine tope (y := bI (inG a x)) (by first | exact bI_t (by rw [inG_nI hg]; simp [c_21]) | exact bI_f (by rw [inG_nI hg]; simp [c_21]) | exact bI_f (by simp [inG, c_9])) ?_
    exact RET _ _ _ _ _ () dX7_isGarland_29 (nbI _) rfl hP hS
  · obtain ⟨g, hg, rfl⟩ := isB_t (by decide) c_9
    have hl32 := hV.l hg
    refine lv_aload_n hx hb dX7_isGarland_12 rfl (lv_at hl 0 rfl) ?_
    refine va_get (D := D) (cl := vwCl) (ci := 7) (v := .ref m1) (C := RX7) (T := TX7) (N := 14) hx hb hts inf_X7_isGarland_X7 hown hK.1 (hR.at hS) 0 rfl rfl 0 (by decide) (hts _ (List.mem_of_getElem? (i := 2) rfl)) (fun _ h9 => h9) rfl dX7_isGarland_13 ?_
    refine lv_bipush (v := nI 22) hx hb dX7_isGarland_16 (by decide) ?_
    refine lv_iload_n hx hb dX7_isGarland_18 rfl (lv_at hl 1 rfl) ?_
    refine nv_iadd hx hb dX7_isGarland_19 ?_
    refine nv_iald (a := M) hx hb hK (hR.at hS) 1 rfl (by omega) (by decide) dX7_isGarland_20 ?_
    refine tope (y := nI (ln a g)) (congrArg nI (hM.l (by omega))) ?_
    refine nv_if_le (tgt := 28) hx hb dX7_isGarland_21 (by decide) (by omega) (fun c_21 => ?_) (fun c_21 => ?_)
    · refine lv_iconst (v := nI 0) hx hb dX7_isGarland_28 (by decide) ?_
      refine tope (y := bI (inG a (nI g))) (by first | exact bI_t (by rw [inG_nI hg]; simp [c_21]) | exact bI_f (by rw [inG_nI hg]; simp [c_21]) | exact bI_f (by simp [inG, c_9])) ?_
      exact RET _ _ _ _ _ () dX7_isGarland_29 (nbI _) rfl hP hS
    · refine lv_iconst (v := nI 1) hx hb dX7_isGarland_24 (by decide) ?_
      refine lv_goto (tgt := 29) hx hb dX7_isGarland_25 (by decide) ?_
      refine tope (y := bI (inG a (nI g))) (by first | exact bI_t (by rw [inG_nI hg]; simp [c_21]) | exact bI_f (by rw [inG_nI hg]; simp [c_21]) | exact bI_f (by simp [inG, c_9])) ?_
      exact RET _ _ _ _ _ () dX7_isGarland_29 (nbI _) rfl hP hS
abbrev rm_X7_dollAt : Room := { frames := 0, cells := 0, slots := 0, locals := 0 }
theorem ydv_X7_dollAt : yX7_dollAt.cls = RX7 ∧ yX7_dollAt.cls ≠ "java/lang/invoke/MethodHandle" ∧ yX7_dollAt.cls ≠ "java/lang/invoke/VarHandle" ∧ (parseMethodDescriptor yX7_dollAt.desc).map (fun d => d.parameters.length) = some 2 := by decide +kernel
theorem inf_X7_dollAt_X7 : ∀ w ∈ wsX70, w ∈ wsX7_dollAt := fun w h => List.mem_cons_of_mem _ (List.mem_append_right _ (h))
set_option maxHeartbeats 4000000 in
set_option maxRecDepth 100000 in
theorem c_X7_dollAt (l : Launch) (D : va_G) (cA : ClassId) (m0 m1 : Nat) (fs : List Value) (a M : Nat → Nat) (g q : Nat) (hV : Vd a) (hM : Rl a M) (hg : g < 8) (hq : q < ln a g) : RO l D cA yX7_dollAt wsX7_dollAt rm_X7_dollAt [.ref m0, .int (nI g), .int (nI q)] [(m0, .inr (7, .ref m1 :: fs)), (m1, .inl (cA, 286, .inl (nF M)))] (nI (dl a g q)) := by
  refine ofWi (cc := cX7_dollAt) (maxL := 3) (rt := .int) (by decide) rfl (Nat.le_of_ble_eq_true rfl) ?_
  intro p e s m args below meth c Q A ls F hK hR hP hD hA hS hl RET
  obtain ⟨hx, hb, hml, hown, hts⟩ := id F
  have hl : lv_has ls 3 [(0, .ref m0), (1, .int (nI g)), (2, .int (nI q))] := hl
  have hl32 := hV.l hg
  refine lv_aload_n hx hb dX7_dollAt_0 rfl (lv_at hl 0 rfl) ?_
  refine va_get (D := D) (cl := vwCl) (ci := 7) (v := .ref m1) (C := RX7) (T := TX7) (N := 14) hx hb hts inf_X7_dollAt_X7 hown hK.1 (hR.at hS) 0 rfl rfl 0 (by decide) (hts _ (List.mem_of_getElem? (i := 1) rfl)) (fun _ h9 => h9) rfl dX7_dollAt_1 ?_
  refine lv_bipush (v := nI 30) hx hb dX7_dollAt_4 (by decide) ?_
  refine lv_bipush (v := nI 32) hx hb dX7_dollAt_6 (by decide) ?_
  refine lv_iload_n hx hb dX7_dollAt_8 rfl (lv_at hl 1 rfl) ?_
  refine nv_imul hx hb dX7_dollAt_9 ?_
  refine nv_iadd hx hb dX7_dollAt_10 ?_
  refine lv_iload_n hx hb dX7_dollAt_11 rfl (lv_at hl 2 rfl) ?_
  refine nv_iadd hx hb dX7_dollAt_12 ?_
  refine nv_iald (a := M) hx hb hK (hR.at hS) 1 rfl (by omega) (by decide) dX7_dollAt_13 ?_
  refine tope (y := nI (dl a g q)) (congrArg nI (hM.d hg hq)) ?_
  exact RET _ _ _ _ _ () dX7_dollAt_14 rfl rfl hP hS
abbrev rm_X7_last : Room := { frames := 1, cells := 0, slots := 0, locals := 22 }
theorem ydv_X7_last : yX7_last.cls = RX7 ∧ yX7_last.cls ≠ "java/lang/invoke/MethodHandle" ∧ yX7_last.cls ≠ "java/lang/invoke/VarHandle" ∧ (parseMethodDescriptor yX7_last.desc).map (fun d => d.parameters.length) = some 1 := by decide +kernel
theorem inf_X7_last_X7 : ∀ w ∈ wsX70, w ∈ wsX7_last := fun w h => List.mem_cons_of_mem _ (List.mem_append_right _ (h))
set_option maxHeartbeats 4000000 in
set_option maxRecDepth 100000 in
theorem c_X7_last (l : Launch) (D : va_G) (cA : ClassId) (m0 m1 : Nat) (fs : List Value) (a M : Nat → Nat) (g : Nat) (hV : Vd a) (hM : Rl a M) (hg : g < 8) (h0_ : 0 < ln a g) : RO l D cA yX7_last wsX7_last rm_X7_last [.ref m0, .int (nI g)] [(m0, .inr (7, .ref m1 :: fs)), (m1, .inl (cA, 286, .inl (nF M)))] (nI (dl a g (ln a g - 1))) := by
  refine ofWi (cc := cX7_last) (maxL := 2) (rt := .int) (by decide) rfl (Nat.le_of_ble_eq_true rfl) ?_
  intro p e s m args below meth c Q A ls F hK hR hP hD hA hS hl RET
  obtain ⟨hx, hb, hml, hown, hts⟩ := id F
  have hl : lv_has ls 2 [(0, .ref m0), (1, .int (nI g))] := hl
  have hl32 := hV.l hg
  refine lv_aload_n hx hb dX7_last_0 rfl (lv_at hl 0 rfl) ?_
  refine lv_iload_n hx hb dX7_last_1 rfl (lv_at hl 1 rfl) ?_
  refine lv_aload_n hx hb dX7_last_2 rfl (lv_at hl 0 rfl) ?_
  refine va_get (D := D) (cl := vwCl) (ci := 7) (v := .ref m1) (C := RX7) (T := TX7) (N := 14) hx hb hts inf_X7_last_X7 hown hK.1 (hR.at hS) 0 rfl rfl 0 (by decide) (hts _ (List.mem_of_getElem? (i := 1) rfl)) (fun _ h9 => h9) rfl dX7_last_3 ?_
  refine lv_bipush (v := nI 22) hx hb dX7_last_6 (by decide) ?_
  refine lv_iload_n hx hb dX7_last_8 rfl (lv_at hl 1 rfl) ?_
  refine nv_iadd hx hb dX7_last_9 ?_
  refine nv_iald (a := M) hx hb hK (hR.at hS) 1 rfl (by omega) (by decide) dX7_last_10 ?_
  refine tope (y := nI (ln a g)) (congrArg nI (hM.l (by omega))) ?_
  refine lv_iconst (v := nI 1) hx hb dX7_last_11 (by decide) ?_
  refine nv_isub hx hb dX7_last_12 (by omega) ?_
  refine call_r (q := (RX7, TX7, 14)) (As := [.int (nI g), .int (nI ((ln a g) - 1))]) (rest := []) F (c_X7_dollAt l D cA m0 m1 fs a M g ((ln a g) - 1) (hV) (hM) (by omega) (by omega)) (cwV 2 hts gX7_last_X7_dollAt rfl rfl rfl ydv_X7_dollAt ⟨Nat.le_of_ble_eq_true rfl, Nat.le_of_ble_eq_true rfl⟩) hK hR hP hD hA hS [0, 1] rfl rfl 0 7 rfl rfl rfl hl.1 rfl (Nat.le_of_ble_eq_true rfl) dX7_last_13 ⟨Nat.zero_le _, Nat.zero_le _⟩ (fun H locs hP hS => ?_)
  refine tope (y := nI (dl a g (ln a g - 1))) (by rfl) ?_
  exact RET _ _ _ _ _ () dX7_last_16 rfl rfl hP hS
abbrev rm_X7_freeNumber : Room := { frames := 0, cells := 0, slots := 0, locals := 0 }
theorem ydv_X7_freeNumber : yX7_freeNumber.cls = RX7 ∧ yX7_freeNumber.cls ≠ "java/lang/invoke/MethodHandle" ∧ yX7_freeNumber.cls ≠ "java/lang/invoke/VarHandle" ∧ (parseMethodDescriptor yX7_freeNumber.desc).map (fun d => d.parameters.length) = some 0 := by decide +kernel
theorem inf_X7_freeNumber_X7 : ∀ w ∈ wsX70, w ∈ wsX7_freeNumber := fun w h => List.mem_cons_of_mem _ (List.mem_append_right _ (h))
set_option maxHeartbeats 4000000 in
set_option maxRecDepth 100000 in
theorem c_X7_freeNumber (l : Launch) (D : va_G) (cA : ClassId) (m0 m1 : Nat) (fs : List Value) (a M : Nat → Nat)  (hV : Vd a) (hM : Rl a M) : RO l D cA yX7_freeNumber wsX7_freeNumber rm_X7_freeNumber [.ref m0] [(m0, .inr (7, .ref m1 :: fs)), (m1, .inl (cA, 286, .inl (nF M)))] (frM (fr a)) := by
  refine ofWi (cc := cX7_freeNumber) (maxL := 2) (rt := .int) (by decide) rfl (Nat.le_of_ble_eq_true rfl) ?_
  intro p e s m args below meth c Q A ls F hK hR hP hD hA hS hl RET
  obtain ⟨hx, hb, hml, hown, hts⟩ := id F
  have hl : lv_has ls 2 [(0, .ref m0)] := hl
  refine lv_iconst (v := nI 0) hx hb dX7_freeNumber_0 (by decide) ?_
  refine lv_istore_n (lv' := [(1, .int (nI 0)), (0, .ref m0)]) hx hb dX7_freeNumber_1 rfl hl (by decide) rfl (fun ls hl => ?_)
  have LP_2 : ∀ (k_2 : Nat) (i : Nat) (H : Heap) (locs : List Loc) (ls : Array Slot), 8 - i = k_2 → (i ≤ 8) → (∀ j, j < i → ln a j ≠ 0) → va_P D vwCl [] H → va_D A [] → va_S A s.heap H locs → lv_has ls 2 [(0, .ref m0), (1, .int (nI i))] → W p l e rm_X7_freeNumber s m args below meth c H locs 0 0 Q (F0 m 2 ls []) := by
    refine sind (fun k_2 ih_2 => ?_)
    intro i H locs ls hk_2 hi hz hP hD hS hl
    refine lv_iload_n hx hb dX7_freeNumber_2 rfl (lv_at hl 1 rfl) ?_
    refine lv_bipush (v := nI 8) hx hb dX7_freeNumber_3 (by decide) ?_
    refine nv_icmp_ge (tgt := 28) hx hb dX7_freeNumber_5 (by decide) (by omega) (by decide) (fun c_5 => ?_) (fun c_5 => ?_)
    · refine lv_bipush (v := -5) hx hb dX7_freeNumber_28 (by decide) ?_
      refine tope (y := frM (fr a)) (by rw [fr_8 (fun j hj => hz j (by omega))]; rfl) ?_
      exact RET _ _ _ _ _ () dX7_freeNumber_30 rfl rfl hP hS
    · have hl32 := hV.l c_5
      refine lv_aload_n hx hb dX7_freeNumber_8 rfl (lv_at hl 0 rfl) ?_
      refine va_get (D := D) (cl := vwCl) (ci := 7) (v := .ref m1) (C := RX7) (T := TX7) (N := 14) hx hb hts inf_X7_freeNumber_X7 hown hK.1 (hR.at hS) 0 rfl rfl 0 (by decide) (hts _ (List.mem_of_getElem? (i := 1) rfl)) (fun _ h9 => h9) rfl dX7_freeNumber_9 ?_
      refine lv_bipush (v := nI 22) hx hb dX7_freeNumber_12 (by decide) ?_
      refine lv_iload_n hx hb dX7_freeNumber_14 rfl (lv_at hl 1 rfl) ?_
      refine nv_iadd hx hb dX7_freeNumber_15 ?_
      refine nv_iald (a := M) hx hb hK (hR.at hS) 1 rfl (by omega) (by decide) dX7_freeNumber_16 ?_
      refine tope (y := nI (ln a i)) (congrArg nI (hM.l (by omega))) ?_
      refine nv_if_ne (tgt := 22) hx hb dX7_freeNumber_17 (by decide) (by omega) (fun c_17 => ?_) (fun c_17 => ?_)
      · refine lv_iinc (v := nI (i + 1)) (lv' := [(1, .int (nI (i + 1))), (0, .ref m0)]) hx hb dX7_freeNumber_22 hl (k := 1) rfl (nI_add _ _) (by decide) rfl (fun ls hl => ?_)
        refine lv_goto (tgt := 2) hx hb dX7_freeNumber_25 (by decide) ?_
        exact ih_2 _ (by omega) (i + 1) _ _ _ rfl (by omega) (fun j hj => by by_cases e_ : j = i; (subst e_; exact c_17); exact hz j (by omega)) hP hD hS (lv_sub hl [1, 0] rfl)
      · refine lv_iload_n hx hb dX7_freeNumber_20 rfl (lv_at hl 1 rfl) ?_
        refine tope (y := frM (fr a)) (by rw [fr_at c_5 hz c_17, frM, if_neg (by omega)]) ?_
        exact RET _ _ _ _ _ () dX7_freeNumber_21 rfl rfl hP hS
  exact LP_2 _ 0 _ _ _ rfl (by omega) (fun j h_ => absurd h_ (Nat.not_lt_zero j)) hP hD hS (lv_sub hl [1, 0] rfl)
abbrev rm_X7_anyClash : Room := { frames := 2, cells := 0, slots := 0, locals := 46 }
theorem ydv_X7_anyClash : yX7_anyClash.cls = RX7 ∧ yX7_anyClash.cls ≠ "java/lang/invoke/MethodHandle" ∧ yX7_anyClash.cls ≠ "java/lang/invoke/VarHandle" ∧ (parseMethodDescriptor yX7_anyClash.desc).map (fun d => d.parameters.length) = some 0 := by decide +kernel
theorem inf_X7_anyClash_X7 : ∀ w ∈ wsX70, w ∈ wsX7_anyClash := fun w h => List.mem_cons_of_mem _ (List.mem_append_right _ (h))
set_option maxHeartbeats 4000000 in
set_option maxRecDepth 100000 in
theorem c_X7_anyClash (l : Launch) (D : va_G) (cA : ClassId) (m0 m1 : Nat) (fs : List Value) (a M : Nat → Nat)  (hV : Vd a) (hM : Rl a M) : RO l D cA yX7_anyClash wsX7_anyClash rm_X7_anyClash [.ref m0] [(m0, .inr (7, .ref m1 :: fs)), (m1, .inl (cA, 286, .inl (nF M)))] (bI (hasCl a)) := by
  refine ofWi (cc := cX7_anyClash) (maxL := 4) (rt := .boolean) (by decide) rfl (Nat.le_of_ble_eq_true rfl) ?_
  intro p e s m args below meth c Q A ls F hK hR hP hD hA hS hl RET
  obtain ⟨hx, hb, hml, hown, hts⟩ := id F
  have hl : lv_has ls 4 [(0, .ref m0)] := hl
  refine lv_iconst (v := nI 0) hx hb dX7_anyClash_0 (by decide) ?_
  refine lv_istore_n (lv' := [(1, .int (nI 0)), (0, .ref m0)]) hx hb dX7_anyClash_1 rfl hl (by decide) rfl (fun ls hl => ?_)
  refine lv_iconst (v := nI 0) hx hb dX7_anyClash_2 (by decide) ?_
  refine lv_istore_n (lv' := [(2, .int (nI 0)), (1, .int (nI 0)), (0, .ref m0)]) hx hb dX7_anyClash_3 rfl hl (by decide) rfl (fun ls hl => ?_)
  have LP_4 : ∀ (k_4 : Nat) (i : Nat) (w : Bool) (H : Heap) (locs : List Loc) (ls : Array Slot), 8 - i = k_4 → (i ≤ 8) → (w = anyB (fun g => clG a g) i) → va_P D vwCl [] H → va_D A [] → va_S A s.heap H locs → lv_has ls 4 [(0, .ref m0), (1, .int (bI w)), (2, .int (nI i))] → W p l e rm_X7_anyClash s m args below meth c H locs 0 0 Q (F0 m 4 ls []) := by
    refine sind (fun k_4 ih_4 => ?_)
    intro i w H locs ls hk_4 hi hw_ hP hD hS hl
    refine lv_iload_n hx hb dX7_anyClash_4 rfl (lv_at hl 2 rfl) ?_
    refine lv_bipush (v := nI 8) hx hb dX7_anyClash_5 (by decide) ?_
    refine nv_icmp_ge (tgt := 68) hx hb dX7_anyClash_7 (by decide) (by omega) (by decide) (fun c_7 => ?_) (fun c_7 => ?_)
    · refine lv_iload_n hx hb dX7_anyClash_68 rfl (lv_at hl 1 rfl) ?_
      refine tope (y := bI (hasCl a)) (by rw [hasCl_eq, hw_, show i = 8 by omega]) ?_
      exact RET _ _ _ _ _ () dX7_anyClash_69 (nbI _) rfl hP hS
    · have hl32 := hV.l c_7
      refine lv_iconst (v := nI 1) hx hb dX7_anyClash_10 (by decide) ?_
      refine lv_istore_n (lv' := [(3, .int (nI 1)), (0, .ref m0), (1, .int (bI w)), (2, .int (nI i))]) hx hb dX7_anyClash_11 rfl hl (by decide) rfl (fun ls hl => ?_)
      have LP_12 : ∀ (k_12 : Nat) (j : Nat) (v : Bool) (H : Heap) (locs : List Loc) (ls : Array Slot), ln a i - (j + 1) = k_12 → (j = 0 ∨ j + 1 ≤ ln a i) → (v = (w || anyB (fun j => cl a (dl a i (j + 1 - 1)) (dl a i (j + 1))) j)) → va_P D vwCl [] H → va_D A [] → va_S A s.heap H locs → lv_has ls 4 [(0, .ref m0), (1, .int (bI v)), (2, .int (nI i)), (3, .int (nI (j + 1)))] → W p l e rm_X7_anyClash s m args below meth c H locs 0 0 Q (F0 m 12 ls []) := by
        refine sind (fun k_12 ih_12 => ?_)
        intro j v H locs ls hk_12 hj hv_ hP hD hS hl
        refine lv_iload_n hx hb dX7_anyClash_12 rfl (lv_at hl 3 rfl) ?_
        refine lv_aload_n hx hb dX7_anyClash_13 rfl (lv_at hl 0 rfl) ?_
        refine va_get (D := D) (cl := vwCl) (ci := 7) (v := .ref m1) (C := RX7) (T := TX7) (N := 14) hx hb hts inf_X7_anyClash_X7 hown hK.1 (hR.at hS) 0 rfl rfl 0 (by decide) (hts _ (List.mem_of_getElem? (i := 1) rfl)) (fun _ h9 => h9) rfl dX7_anyClash_14 ?_
        refine lv_bipush (v := nI 22) hx hb dX7_anyClash_17 (by decide) ?_
        refine lv_iload_n hx hb dX7_anyClash_19 rfl (lv_at hl 2 rfl) ?_
        refine nv_iadd hx hb dX7_anyClash_20 ?_
        refine nv_iald (a := M) hx hb hK (hR.at hS) 1 rfl (by omega) (by decide) dX7_anyClash_21 ?_
        refine tope (y := nI (ln a i)) (congrArg nI (hM.l (by omega))) ?_
        refine nv_icmp_ge (tgt := 62) hx hb dX7_anyClash_22 (by decide) (by omega) (by omega) (fun c_22 => ?_) (fun c_22 => ?_)
        · refine lv_iinc (v := nI (i + 1)) (lv' := [(2, .int (nI (i + 1))), (0, .ref m0), (1, .int (bI v)), (3, .int (nI (j + 1)))]) hx hb dX7_anyClash_62 hl (k := 2) rfl (nI_add _ _) (by decide) rfl (fun ls hl => ?_)
          refine lv_goto (tgt := 4) hx hb dX7_anyClash_65 (by decide) ?_
          exact ih_4 _ (by omega) (i + 1) v _ _ _ rfl (by omega) (by rw [hv_, hw_, show j = ln a i - 1 by omega]; rfl) hP hD hS (lv_sub hl [1, 2, 0] rfl)
        · have hd_ := hV.d (q := j + 1 - 1) c_7 (by omega)
          have hd2_ := hV.d (q := j + 1) c_7 (by omega)
          refine lv_iload_n hx hb dX7_anyClash_25 rfl (lv_at hl 1 rfl) ?_
          refine bv_if_ne (tgt := 50) hx hb dX7_anyClash_26 (by decide) (fun c_26 => ?_) (fun c_26 => ?_)
          · refine lv_iconst (v := nI 1) hx hb dX7_anyClash_50 (by decide) ?_
            refine lv_goto (tgt := 55) hx hb dX7_anyClash_51 (by decide) ?_
            refine lv_istore_n (lv' := [(1, .int (nI 1)), (0, .ref m0), (2, .int (nI i)), (3, .int (nI (j + 1)))]) hx hb dX7_anyClash_55 rfl hl (by decide) rfl (fun ls hl => ?_)
            refine lv_iinc (v := nI ((j + 1) + 1)) (lv' := [(3, .int (nI ((j + 1) + 1))), (1, .int (nI 1)), (0, .ref m0), (2, .int (nI i))]) hx hb dX7_anyClash_56 hl (k := 3) rfl (nI_add _ _) (by decide) rfl (fun ls hl => ?_)
            refine lv_goto (tgt := 12) hx hb dX7_anyClash_59 (by decide) ?_
            exact ih_12 _ (by omega) (j + 1) true _ _ _ rfl (by omega) (anyB_st hv_ (by simp only [c_26, Bool.false_or, Bool.true_or])) hP hD hS (lv_sub hl [2, 1, 3, 0] rfl)
          · refine lv_aload_n hx hb dX7_anyClash_29 rfl (lv_at hl 0 rfl) ?_
            refine lv_aload_n hx hb dX7_anyClash_30 rfl (lv_at hl 0 rfl) ?_
            refine lv_iload_n hx hb dX7_anyClash_31 rfl (lv_at hl 2 rfl) ?_
            refine lv_iload_n hx hb dX7_anyClash_32 rfl (lv_at hl 3 rfl) ?_
            refine lv_iconst (v := nI 1) hx hb dX7_anyClash_33 (by decide) ?_
            refine nv_isub hx hb dX7_anyClash_34 (by omega) ?_
            refine call_r (q := (RX7, TX7, 14)) (As := [.int (nI i), .int (nI ((j + 1) - 1))]) (rest := [.ref m0]) F (c_X7_dollAt l D cA m0 m1 fs a M i ((j + 1) - 1) (hV) (hM) (by omega) (by omega)) (cwV 2 hts gX7_anyClash_X7_dollAt rfl rfl rfl ydv_X7_dollAt ⟨Nat.le_of_ble_eq_true rfl, Nat.le_of_ble_eq_true rfl⟩) hK hR hP hD hA hS [0, 1] rfl rfl 0 7 rfl rfl rfl hl.1 rfl (Nat.le_of_ble_eq_true rfl) dX7_anyClash_35 ⟨Nat.zero_le _, Nat.zero_le _⟩ (fun H locs hP hS => ?_)
            refine lv_aload_n hx hb dX7_anyClash_38 rfl (lv_at hl 0 rfl) ?_
            refine lv_iload_n hx hb dX7_anyClash_39 rfl (lv_at hl 2 rfl) ?_
            refine lv_iload_n hx hb dX7_anyClash_40 rfl (lv_at hl 3 rfl) ?_
            refine call_r (q := (RX7, TX7, 14)) (As := [.int (nI i), .int (nI (j + 1))]) (rest := [.int (nI (dl a i ((j + 1) - 1))), .ref m0]) F (c_X7_dollAt l D cA m0 m1 fs a M i (j + 1) (hV) (hM) (by omega) (by omega)) (cwV 2 hts gX7_anyClash_X7_dollAt rfl rfl rfl ydv_X7_dollAt ⟨Nat.le_of_ble_eq_true rfl, Nat.le_of_ble_eq_true rfl⟩) hK hR hP hD hA hS [0, 1] rfl rfl 0 7 rfl rfl rfl hl.1 rfl (Nat.le_of_ble_eq_true rfl) dX7_anyClash_41 ⟨Nat.zero_le _, Nat.zero_le _⟩ (fun H locs hP hS => ?_)
            refine call_r (q := (RX7, TX7, 14)) (As := [.int (nI (dl a i ((j + 1) - 1))), .int (nI (dl a i (j + 1)))]) (rest := []) F (c_X7_clash l D cA m0 m1 fs a M (dl a i ((j + 1) - 1)) (dl a i (j + 1)) (hV) (hM) (by omega) (by omega)) (cwV 2 hts gX7_anyClash_X7_clash rfl rfl rfl ydv_X7_clash ⟨Nat.le_of_ble_eq_true rfl, Nat.le_of_ble_eq_true rfl⟩) hK hR hP hD hA hS [0, 1] rfl rfl 0 7 rfl rfl rfl hl.1 rfl (Nat.le_of_ble_eq_true rfl) dX7_anyClash_44 ⟨Nat.zero_le _, Nat.zero_le _⟩ (fun H locs hP hS => ?_)
            refine bv_if_eq (tgt := 54) hx hb dX7_anyClash_47 (by decide) (fun c_47 => ?_) (fun c_47 => ?_)
            · refine lv_iconst (v := nI 0) hx hb dX7_anyClash_54 (by decide) ?_
              refine lv_istore_n (lv' := [(1, .int (nI 0)), (0, .ref m0), (2, .int (nI i)), (3, .int (nI (j + 1)))]) hx hb dX7_anyClash_55 rfl hl (by decide) rfl (fun ls hl => ?_)
              refine lv_iinc (v := nI ((j + 1) + 1)) (lv' := [(3, .int (nI ((j + 1) + 1))), (1, .int (nI 0)), (0, .ref m0), (2, .int (nI i))]) hx hb dX7_anyClash_56 hl (k := 3) rfl (nI_add _ _) (by decide) rfl (fun ls hl => ?_)
              refine lv_goto (tgt := 12) hx hb dX7_anyClash_59 (by decide) ?_
              exact ih_12 _ (by omega) (j + 1) false _ _ _ rfl (by omega) (anyB_st hv_ (by simp only [c_26, c_47, Bool.false_or, Bool.true_or])) hP hD hS (lv_sub hl [2, 1, 3, 0] rfl)
            · refine lv_iconst (v := nI 1) hx hb dX7_anyClash_50 (by decide) ?_
              refine lv_goto (tgt := 55) hx hb dX7_anyClash_51 (by decide) ?_
              refine lv_istore_n (lv' := [(1, .int (nI 1)), (0, .ref m0), (2, .int (nI i)), (3, .int (nI (j + 1)))]) hx hb dX7_anyClash_55 rfl hl (by decide) rfl (fun ls hl => ?_)
              refine lv_iinc (v := nI ((j + 1) + 1)) (lv' := [(3, .int (nI ((j + 1) + 1))), (1, .int (nI 1)), (0, .ref m0), (2, .int (nI i))]) hx hb dX7_anyClash_56 hl (k := 3) rfl (nI_add _ _) (by decide) rfl (fun ls hl => ?_)
              refine lv_goto (tgt := 12) hx hb dX7_anyClash_59 (by decide) ?_
              exact ih_12 _ (by omega) (j + 1) true _ _ _ rfl (by omega) (anyB_st hv_ (by simp only [c_26, c_47, Bool.false_or, Bool.true_or])) hP hD hS (lv_sub hl [2, 1, 3, 0] rfl)
      exact LP_12 _ 0 w _ _ _ rfl (by omega) (by simp [anyB]) hP hD hS (lv_sub hl [1, 2, 3, 0] rfl)
  exact LP_4 _ 0 false _ _ _ rfl (by omega) (rfl) hP hD hS (lv_sub hl [2, 1, 0] rfl)
abbrev rm_X7_turnedDoll : Room := { frames := 1, cells := 0, slots := 0, locals := 22 }
theorem ydv_X7_turnedDoll : yX7_turnedDoll.cls = RX7 ∧ yX7_turnedDoll.cls ≠ "java/lang/invoke/MethodHandle" ∧ yX7_turnedDoll.cls ≠ "java/lang/invoke/VarHandle" ∧ (parseMethodDescriptor yX7_turnedDoll.desc).map (fun d => d.parameters.length) = some 2 := by decide +kernel
theorem inf_X7_turnedDoll_X7 : ∀ w ∈ wsX70, w ∈ wsX7_turnedDoll := fun w h => List.mem_cons_of_mem _ (List.mem_append_right _ (h))
set_option maxHeartbeats 4000000 in
set_option maxRecDepth 100000 in
theorem c_X7_turnedDoll (l : Launch) (D : va_G) (cA : ClassId) (m0 m1 : Nat) (fs : List Value) (a M : Nat → Nat) (g q : Nat) (hV : Vd a) (hM : Rl a M) (hg : g < 8) (hq : q < ln a g) : RO l D cA yX7_turnedDoll wsX7_turnedDoll rm_X7_turnedDoll [.ref m0, .int (nI g), .int (nI q)] [(m0, .inr (7, .ref m1 :: fs)), (m1, .inl (cA, 286, .inl (nF M)))] (nI (mir (dl a g (ln a g - 1 - q)))) := by
  refine ofWi (cc := cX7_turnedDoll) (maxL := 3) (rt := .int) (by decide) rfl (Nat.le_of_ble_eq_true rfl) ?_
  intro p e s m args below meth c Q A ls F hK hR hP hD hA hS hl RET
  obtain ⟨hx, hb, hml, hown, hts⟩ := id F
  have hl : lv_has ls 3 [(0, .ref m0), (1, .int (nI g)), (2, .int (nI q))] := hl
  have hl32 := hV.l hg
  refine lv_aload_n hx hb dX7_turnedDoll_0 rfl (lv_at hl 0 rfl) ?_
  refine lv_iload_n hx hb dX7_turnedDoll_1 rfl (lv_at hl 1 rfl) ?_
  refine lv_aload_n hx hb dX7_turnedDoll_2 rfl (lv_at hl 0 rfl) ?_
  refine va_get (D := D) (cl := vwCl) (ci := 7) (v := .ref m1) (C := RX7) (T := TX7) (N := 14) hx hb hts inf_X7_turnedDoll_X7 hown hK.1 (hR.at hS) 0 rfl rfl 0 (by decide) (hts _ (List.mem_of_getElem? (i := 1) rfl)) (fun _ h9 => h9) rfl dX7_turnedDoll_3 ?_
  refine lv_bipush (v := nI 22) hx hb dX7_turnedDoll_6 (by decide) ?_
  refine lv_iload_n hx hb dX7_turnedDoll_8 rfl (lv_at hl 1 rfl) ?_
  refine nv_iadd hx hb dX7_turnedDoll_9 ?_
  refine nv_iald (a := M) hx hb hK (hR.at hS) 1 rfl (by omega) (by decide) dX7_turnedDoll_10 ?_
  refine tope (y := nI (ln a g)) (congrArg nI (hM.l (by omega))) ?_
  refine lv_iconst (v := nI 1) hx hb dX7_turnedDoll_11 (by decide) ?_
  refine nv_isub hx hb dX7_turnedDoll_12 (by omega) ?_
  refine lv_iload_n hx hb dX7_turnedDoll_13 rfl (lv_at hl 2 rfl) ?_
  refine nv_isub hx hb dX7_turnedDoll_14 (by omega) ?_
  refine call_r (q := (RX7, TX7, 14)) (As := [.int (nI g), .int (nI (((ln a g) - 1) - q))]) (rest := []) F (c_X7_dollAt l D cA m0 m1 fs a M g (((ln a g) - 1) - q) (hV) (hM) (by omega) (by omega)) (cwV 2 hts gX7_turnedDoll_X7_dollAt rfl rfl rfl ydv_X7_dollAt ⟨Nat.le_of_ble_eq_true rfl, Nat.le_of_ble_eq_true rfl⟩) hK hR hP hD hA hS [0, 1] rfl rfl 0 7 rfl rfl rfl hl.1 rfl (Nat.le_of_ble_eq_true rfl) dX7_turnedDoll_15 ⟨Nat.zero_le _, Nat.zero_le _⟩ (fun H locs hP hS => ?_)
  refine lv_iconst (v := nI 1) hx hb dX7_turnedDoll_18 (by decide) ?_
  refine nv_xor1 hx hb dX7_turnedDoll_19 ?_
  refine tope (y := nI (mir (dl a g (ln a g - 1 - q)))) (by rfl) ?_
  exact RET _ _ _ _ _ () dX7_turnedDoll_20 rfl rfl hP hS
abbrev rm_X7_isLike : Room := { frames := 2, cells := 0, slots := 0, locals := 44 }
theorem ydv_X7_isLike : yX7_isLike.cls = RX7 ∧ yX7_isLike.cls ≠ "java/lang/invoke/MethodHandle" ∧ yX7_isLike.cls ≠ "java/lang/invoke/VarHandle" ∧ (parseMethodDescriptor yX7_isLike.desc).map (fun d => d.parameters.length) = some 3 := by decide +kernel
theorem inf_X7_isLike_X7 : ∀ w ∈ wsX70, w ∈ wsX7_isLike := fun w h => List.mem_cons_of_mem _ (List.mem_append_right _ (h))
set_option maxHeartbeats 4000000 in
set_option maxRecDepth 100000 in
theorem c_X7_isLike0 (l : Launch) (D : va_G) (cA : ClassId) (m0 m1 : Nat) (fs : List Value) (a M : Nat → Nat) (g o : Nat) (hV : Vd a) (hM : Rl a M) (hg : g < 8) (ho : o < 8) : RO l D cA yX7_isLike wsX7_isLike rm_X7_isLike [.ref m0, .int (nI g), .int (nI o), .int (nI 0)] [(m0, .inr (7, .ref m1 :: fs)), (m1, .inl (cA, 286, .inl (nF M)))] (bI (same a g o)) := by
  refine ofWi (cc := cX7_isLike) (maxL := 6) (rt := .boolean) (by decide) rfl (Nat.le_of_ble_eq_true rfl) ?_
  intro p e s m args below meth c Q A ls F hK hR hP hD hA hS hl RET
  obtain ⟨hx, hb, hml, hown, hts⟩ := id F
  have hl : lv_has ls 6 [(0, .ref m0), (1, .int (nI g)), (2, .int (nI o)), (3, .int (nI 0))] := hl
  have hl32 := hV.l hg
  have ho32 := hV.l ho
  refine lv_aload_n hx hb dX7_isLike_0 rfl (lv_at hl 0 rfl) ?_
  refine va_get (D := D) (cl := vwCl) (ci := 7) (v := .ref m1) (C := RX7) (T := TX7) (N := 14) hx hb hts inf_X7_isLike_X7 hown hK.1 (hR.at hS) 0 rfl rfl 0 (by decide) (hts _ (List.mem_of_getElem? (i := 1) rfl)) (fun _ h9 => h9) rfl dX7_isLike_1 ?_
  refine lv_bipush (v := nI 22) hx hb dX7_isLike_4 (by decide) ?_
  refine lv_iload_n hx hb dX7_isLike_6 rfl (lv_at hl 1 rfl) ?_
  refine nv_iadd hx hb dX7_isLike_7 ?_
  refine nv_iald (a := M) hx hb hK (hR.at hS) 1 rfl (by omega) (by decide) dX7_isLike_8 ?_
  refine tope (y := nI (ln a g)) (congrArg nI (hM.l (by omega))) ?_
  refine lv_aload_n hx hb dX7_isLike_9 rfl (lv_at hl 0 rfl) ?_
  refine va_get (D := D) (cl := vwCl) (ci := 7) (v := .ref m1) (C := RX7) (T := TX7) (N := 14) hx hb hts inf_X7_isLike_X7 hown hK.1 (hR.at hS) 0 rfl rfl 0 (by decide) (hts _ (List.mem_of_getElem? (i := 1) rfl)) (fun _ h9 => h9) rfl dX7_isLike_10 ?_
  refine lv_bipush (v := nI 22) hx hb dX7_isLike_13 (by decide) ?_
  refine lv_iload_n hx hb dX7_isLike_15 rfl (lv_at hl 2 rfl) ?_
  refine nv_iadd hx hb dX7_isLike_16 ?_
  refine nv_iald (a := M) hx hb hK (hR.at hS) 1 rfl (by omega) (by decide) dX7_isLike_17 ?_
  refine tope (y := nI (ln a o)) (congrArg nI (hM.l (by omega))) ?_
  refine nv_icmp_ne (tgt := 25) hx hb dX7_isLike_18 (by decide) (by omega) (by omega) (fun c_18 => ?_) (fun c_18 => ?_)
  · refine lv_iconst (v := nI 0) hx hb dX7_isLike_25 (by decide) ?_
    refine lv_istore (lv' := [(4, .int (nI 0)), (0, .ref m0), (1, .int (nI g)), (2, .int (nI o)), (3, .int (nI 0))]) hx hb dX7_isLike_26 hl (by decide) rfl (fun ls hl => ?_)
    refine lv_iconst (v := nI 0) hx hb dX7_isLike_28 (by decide) ?_
    refine lv_istore (lv' := [(5, .int (nI 0)), (4, .int (nI 0)), (0, .ref m0), (1, .int (nI g)), (2, .int (nI o)), (3, .int (nI 0))]) hx hb dX7_isLike_29 hl (by decide) rfl (fun ls hl => ?_)
    have LP_31 : ∀ (k_31 : Nat) (i : Nat) (w : Bool) (H : Heap) (locs : List Loc) (ls : Array Slot), ln a g - i = k_31 → (i ≤ ln a g) → (w = (decide (ln a g = ln a o) && allB (fun j => decide (dl a g j = dl a o j)) i)) → va_P D vwCl [] H → va_D A [] → va_S A s.heap H locs → lv_has ls 6 [(0, .ref m0), (1, .int (nI g)), (2, .int (nI o)), (3, .int (nI 0)), (4, .int (bI w)), (5, .int (nI i))] → W p l e rm_X7_isLike s m args below meth c H locs 0 0 Q (F0 m 31 ls []) := by
      refine sind (fun k_31 ih_31 => ?_)
      intro i w H locs ls hk_31 hi hw_ hP hD hS hl
      refine lv_iload hx hb dX7_isLike_31 (lv_at hl 5 rfl) ?_
      refine lv_aload_n hx hb dX7_isLike_33 rfl (lv_at hl 0 rfl) ?_
      refine va_get (D := D) (cl := vwCl) (ci := 7) (v := .ref m1) (C := RX7) (T := TX7) (N := 14) hx hb hts inf_X7_isLike_X7 hown hK.1 (hR.at hS) 0 rfl rfl 0 (by decide) (hts _ (List.mem_of_getElem? (i := 1) rfl)) (fun _ h9 => h9) rfl dX7_isLike_34 ?_
      refine lv_bipush (v := nI 22) hx hb dX7_isLike_37 (by decide) ?_
      refine lv_iload_n hx hb dX7_isLike_39 rfl (lv_at hl 1 rfl) ?_
      refine nv_iadd hx hb dX7_isLike_40 ?_
      refine nv_iald (a := M) hx hb hK (hR.at hS) 1 rfl (by omega) (by decide) dX7_isLike_41 ?_
      refine tope (y := nI (ln a g)) (congrArg nI (hM.l (by omega))) ?_
      refine nv_icmp_ge (tgt := 94) hx hb dX7_isLike_42 (by decide) (by omega) (by omega) (fun c_42 => ?_) (fun c_42 => ?_)
      · refine lv_iload hx hb dX7_isLike_94 (lv_at hl 4 rfl) ?_
        refine tope (y := bI (same a g o)) (by rw [show same a g o = w from (by first | (rw [hw_, show i = ln a g by omega]; rfl) | (rw [c_47]; rw [hw_] at c_47; unfold same; rcases Bool.and_eq_false_iff.mp c_47 with h_ | h_; (rw [h_]; rfl); (rw [allB_mono hi h_, Bool.and_false])))]) ?_
        exact RET _ _ _ _ _ () dX7_isLike_96 (nbI _) rfl hP hS
      · refine lv_iload hx hb dX7_isLike_45 (lv_at hl 4 rfl) ?_
        refine bv_if_eq (tgt := 94) hx hb dX7_isLike_47 (by decide) (fun c_47 => ?_) (fun c_47 => ?_)
        · refine lv_iload hx hb dX7_isLike_94 (lv_at hl 4 rfl) ?_
          refine tope (y := bI (same a g o)) (by rw [show same a g o = w from (by first | (rw [hw_, show i = ln a g by omega]; rfl) | (rw [c_47]; rw [hw_] at c_47; unfold same; rcases Bool.and_eq_false_iff.mp c_47 with h_ | h_; (rw [h_]; rfl); (rw [allB_mono hi h_, Bool.and_false])))]) ?_
          exact RET _ _ _ _ _ () dX7_isLike_96 (nbI _) rfl hP hS
        · have hln_ : ln a g = ln a o := of_decide_eq_true ((Bool.and_eq_true _ _).mp (hw_.symm.trans c_47)).1
          have hd_ := hV.d (q := i) hg (by omega)
          have hd2_ := hV.d (q := i) ho (by omega)
          have hd3_ := mir_lt (hV.d (q := ln a o - 1 - i) ho (by omega))
          refine lv_aload_n hx hb dX7_isLike_50 rfl (lv_at hl 0 rfl) ?_
          refine lv_iload_n hx hb dX7_isLike_51 rfl (lv_at hl 1 rfl) ?_
          refine lv_iload hx hb dX7_isLike_52 (lv_at hl 5 rfl) ?_
          refine call_r (q := (RX7, TX7, 14)) (As := [.int (nI g), .int (nI i)]) (rest := []) F (c_X7_dollAt l D cA m0 m1 fs a M g i (hV) (hM) (by omega) (by omega)) (cwV 2 hts gX7_isLike_X7_dollAt rfl rfl rfl ydv_X7_dollAt ⟨Nat.le_of_ble_eq_true rfl, Nat.le_of_ble_eq_true rfl⟩) hK hR hP hD hA hS [0, 1] rfl rfl 0 7 rfl rfl rfl hl.1 rfl (Nat.le_of_ble_eq_true rfl) dX7_isLike_54 ⟨Nat.zero_le _, Nat.zero_le _⟩ (fun H locs hP hS => ?_)
          refine lv_iload_n hx hb dX7_isLike_57 rfl (lv_at hl 3 rfl) ?_
          refine nv_if_eq (tgt := 71) hx hb dX7_isLike_58 (by decide) (by decide) (fun c_58 => ?_) (fun c_58 => absurd c_58 (by decide))
          refine lv_aload_n hx hb dX7_isLike_71 rfl (lv_at hl 0 rfl) ?_
          refine lv_iload_n hx hb dX7_isLike_72 rfl (lv_at hl 2 rfl) ?_
          refine lv_iload hx hb dX7_isLike_73 (lv_at hl 5 rfl) ?_
          refine call_r (q := (RX7, TX7, 14)) (As := [.int (nI o), .int (nI i)]) (rest := [.int (nI (dl a g i))]) F (c_X7_dollAt l D cA m0 m1 fs a M o i (hV) (hM) (by omega) (by omega)) (cwV 2 hts gX7_isLike_X7_dollAt rfl rfl rfl ydv_X7_dollAt ⟨Nat.le_of_ble_eq_true rfl, Nat.le_of_ble_eq_true rfl⟩) hK hR hP hD hA hS [0, 1] rfl rfl 0 7 rfl rfl rfl hl.1 rfl (Nat.le_of_ble_eq_true rfl) dX7_isLike_75 ⟨Nat.zero_le _, Nat.zero_le _⟩ (fun H locs hP hS => ?_)
          refine nv_icmp_ne (tgt := 85) hx hb dX7_isLike_78 (by decide) (by omega) (by omega) (fun c_78 => ?_) (fun c_78 => ?_)
          · have c_78_ := c_78
            refine lv_iconst (v := nI 0) hx hb dX7_isLike_85 (by decide) ?_
            refine lv_istore (lv' := [(4, .int (nI 0)), (0, .ref m0), (1, .int (nI g)), (2, .int (nI o)), (3, .int (nI 0)), (5, .int (nI i))]) hx hb dX7_isLike_86 hl (by decide) rfl (fun ls hl => ?_)
            refine lv_iinc (v := nI (i + 1)) (lv' := [(5, .int (nI (i + 1))), (4, .int (nI 0)), (0, .ref m0), (1, .int (nI g)), (2, .int (nI o)), (3, .int (nI 0))]) hx hb dX7_isLike_88 hl (k := 5) rfl (nI_add _ _) (by decide) rfl (fun ls hl => ?_)
            refine lv_goto (tgt := 31) hx hb dX7_isLike_91 (by decide) ?_
            exact ih_31 _ (by omega) (i + 1) false _ _ _ rfl (by omega) (by have h8_ := (Bool.and_eq_true _ _).mp (hw_.symm.trans c_47); simp only [allB, h8_.1, h8_.2, Bool.true_and]; first | exact (decide_eq_true c_78_).symm | exact (decide_eq_false c_78_).symm) hP hD hS (lv_sub hl [2, 3, 4, 5, 1, 0] rfl)
          · have c_78_ := c_78
            refine lv_iconst (v := nI 1) hx hb dX7_isLike_81 (by decide) ?_
            refine lv_goto (tgt := 86) hx hb dX7_isLike_82 (by decide) ?_
            refine lv_istore (lv' := [(4, .int (nI 1)), (0, .ref m0), (1, .int (nI g)), (2, .int (nI o)), (3, .int (nI 0)), (5, .int (nI i))]) hx hb dX7_isLike_86 hl (by decide) rfl (fun ls hl => ?_)
            refine lv_iinc (v := nI (i + 1)) (lv' := [(5, .int (nI (i + 1))), (4, .int (nI 1)), (0, .ref m0), (1, .int (nI g)), (2, .int (nI o)), (3, .int (nI 0))]) hx hb dX7_isLike_88 hl (k := 5) rfl (nI_add _ _) (by decide) rfl (fun ls hl => ?_)
            refine lv_goto (tgt := 31) hx hb dX7_isLike_91 (by decide) ?_
            exact ih_31 _ (by omega) (i + 1) true _ _ _ rfl (by omega) (by have h8_ := (Bool.and_eq_true _ _).mp (hw_.symm.trans c_47); simp only [allB, h8_.1, h8_.2, Bool.true_and]; first | exact (decide_eq_true c_78_).symm | exact (decide_eq_false c_78_).symm) hP hD hS (lv_sub hl [2, 3, 4, 5, 1, 0] rfl)
    exact LP_31 _ 0 false _ _ _ rfl (by omega) (by simp [allB, c_18]) hP hD hS (lv_sub hl [2, 3, 4, 5, 1, 0] rfl)
  · refine lv_iconst (v := nI 1) hx hb dX7_isLike_21 (by decide) ?_
    refine lv_goto (tgt := 26) hx hb dX7_isLike_22 (by decide) ?_
    refine lv_istore (lv' := [(4, .int (nI 1)), (0, .ref m0), (1, .int (nI g)), (2, .int (nI o)), (3, .int (nI 0))]) hx hb dX7_isLike_26 hl (by decide) rfl (fun ls hl => ?_)
    refine lv_iconst (v := nI 0) hx hb dX7_isLike_28 (by decide) ?_
    refine lv_istore (lv' := [(5, .int (nI 0)), (4, .int (nI 1)), (0, .ref m0), (1, .int (nI g)), (2, .int (nI o)), (3, .int (nI 0))]) hx hb dX7_isLike_29 hl (by decide) rfl (fun ls hl => ?_)
    have LP_31 : ∀ (k_31 : Nat) (i : Nat) (w : Bool) (H : Heap) (locs : List Loc) (ls : Array Slot), ln a g - i = k_31 → (i ≤ ln a g) → (w = (decide (ln a g = ln a o) && allB (fun j => decide (dl a g j = dl a o j)) i)) → va_P D vwCl [] H → va_D A [] → va_S A s.heap H locs → lv_has ls 6 [(0, .ref m0), (1, .int (nI g)), (2, .int (nI o)), (3, .int (nI 0)), (4, .int (bI w)), (5, .int (nI i))] → W p l e rm_X7_isLike s m args below meth c H locs 0 0 Q (F0 m 31 ls []) := by
      refine sind (fun k_31 ih_31 => ?_)
      intro i w H locs ls hk_31 hi hw_ hP hD hS hl
      refine lv_iload hx hb dX7_isLike_31 (lv_at hl 5 rfl) ?_
      refine lv_aload_n hx hb dX7_isLike_33 rfl (lv_at hl 0 rfl) ?_
      refine va_get (D := D) (cl := vwCl) (ci := 7) (v := .ref m1) (C := RX7) (T := TX7) (N := 14) hx hb hts inf_X7_isLike_X7 hown hK.1 (hR.at hS) 0 rfl rfl 0 (by decide) (hts _ (List.mem_of_getElem? (i := 1) rfl)) (fun _ h9 => h9) rfl dX7_isLike_34 ?_
      refine lv_bipush (v := nI 22) hx hb dX7_isLike_37 (by decide) ?_
      refine lv_iload_n hx hb dX7_isLike_39 rfl (lv_at hl 1 rfl) ?_
      refine nv_iadd hx hb dX7_isLike_40 ?_
      refine nv_iald (a := M) hx hb hK (hR.at hS) 1 rfl (by omega) (by decide) dX7_isLike_41 ?_
      refine tope (y := nI (ln a g)) (congrArg nI (hM.l (by omega))) ?_
      refine nv_icmp_ge (tgt := 94) hx hb dX7_isLike_42 (by decide) (by omega) (by omega) (fun c_42 => ?_) (fun c_42 => ?_)
      · refine lv_iload hx hb dX7_isLike_94 (lv_at hl 4 rfl) ?_
        refine tope (y := bI (same a g o)) (by rw [show same a g o = w from (by first | (rw [hw_, show i = ln a g by omega]; rfl) | (rw [c_47]; rw [hw_] at c_47; unfold same; rcases Bool.and_eq_false_iff.mp c_47 with h_ | h_; (rw [h_]; rfl); (rw [allB_mono hi h_, Bool.and_false])))]) ?_
        exact RET _ _ _ _ _ () dX7_isLike_96 (nbI _) rfl hP hS
      · refine lv_iload hx hb dX7_isLike_45 (lv_at hl 4 rfl) ?_
        refine bv_if_eq (tgt := 94) hx hb dX7_isLike_47 (by decide) (fun c_47 => ?_) (fun c_47 => ?_)
        · refine lv_iload hx hb dX7_isLike_94 (lv_at hl 4 rfl) ?_
          refine tope (y := bI (same a g o)) (by rw [show same a g o = w from (by first | (rw [hw_, show i = ln a g by omega]; rfl) | (rw [c_47]; rw [hw_] at c_47; unfold same; rcases Bool.and_eq_false_iff.mp c_47 with h_ | h_; (rw [h_]; rfl); (rw [allB_mono hi h_, Bool.and_false])))]) ?_
          exact RET _ _ _ _ _ () dX7_isLike_96 (nbI _) rfl hP hS
        · have hln_ : ln a g = ln a o := of_decide_eq_true ((Bool.and_eq_true _ _).mp (hw_.symm.trans c_47)).1
          have hd_ := hV.d (q := i) hg (by omega)
          have hd2_ := hV.d (q := i) ho (by omega)
          have hd3_ := mir_lt (hV.d (q := ln a o - 1 - i) ho (by omega))
          refine lv_aload_n hx hb dX7_isLike_50 rfl (lv_at hl 0 rfl) ?_
          refine lv_iload_n hx hb dX7_isLike_51 rfl (lv_at hl 1 rfl) ?_
          refine lv_iload hx hb dX7_isLike_52 (lv_at hl 5 rfl) ?_
          refine call_r (q := (RX7, TX7, 14)) (As := [.int (nI g), .int (nI i)]) (rest := []) F (c_X7_dollAt l D cA m0 m1 fs a M g i (hV) (hM) (by omega) (by omega)) (cwV 2 hts gX7_isLike_X7_dollAt rfl rfl rfl ydv_X7_dollAt ⟨Nat.le_of_ble_eq_true rfl, Nat.le_of_ble_eq_true rfl⟩) hK hR hP hD hA hS [0, 1] rfl rfl 0 7 rfl rfl rfl hl.1 rfl (Nat.le_of_ble_eq_true rfl) dX7_isLike_54 ⟨Nat.zero_le _, Nat.zero_le _⟩ (fun H locs hP hS => ?_)
          refine lv_iload_n hx hb dX7_isLike_57 rfl (lv_at hl 3 rfl) ?_
          refine nv_if_eq (tgt := 71) hx hb dX7_isLike_58 (by decide) (by decide) (fun c_58 => ?_) (fun c_58 => absurd c_58 (by decide))
          refine lv_aload_n hx hb dX7_isLike_71 rfl (lv_at hl 0 rfl) ?_
          refine lv_iload_n hx hb dX7_isLike_72 rfl (lv_at hl 2 rfl) ?_
          refine lv_iload hx hb dX7_isLike_73 (lv_at hl 5 rfl) ?_
          refine call_r (q := (RX7, TX7, 14)) (As := [.int (nI o), .int (nI i)]) (rest := [.int (nI (dl a g i))]) F (c_X7_dollAt l D cA m0 m1 fs a M o i (hV) (hM) (by omega) (by omega)) (cwV 2 hts gX7_isLike_X7_dollAt rfl rfl rfl ydv_X7_dollAt ⟨Nat.le_of_ble_eq_true rfl, Nat.le_of_ble_eq_true rfl⟩) hK hR hP hD hA hS [0, 1] rfl rfl 0 7 rfl rfl rfl hl.1 rfl (Nat.le_of_ble_eq_true rfl) dX7_isLike_75 ⟨Nat.zero_le _, Nat.zero_le _⟩ (fun H locs hP hS => ?_)
          refine nv_icmp_ne (tgt := 85) hx hb dX7_isLike_78 (by decide) (by omega) (by omega) (fun c_78 => ?_) (fun c_78 => ?_)
          · have c_78_ := c_78
            refine lv_iconst (v := nI 0) hx hb dX7_isLike_85 (by decide) ?_
            refine lv_istore (lv' := [(4, .int (nI 0)), (0, .ref m0), (1, .int (nI g)), (2, .int (nI o)), (3, .int (nI 0)), (5, .int (nI i))]) hx hb dX7_isLike_86 hl (by decide) rfl (fun ls hl => ?_)
            refine lv_iinc (v := nI (i + 1)) (lv' := [(5, .int (nI (i + 1))), (4, .int (nI 0)), (0, .ref m0), (1, .int (nI g)), (2, .int (nI o)), (3, .int (nI 0))]) hx hb dX7_isLike_88 hl (k := 5) rfl (nI_add _ _) (by decide) rfl (fun ls hl => ?_)
            refine lv_goto (tgt := 31) hx hb dX7_isLike_91 (by decide) ?_
            exact ih_31 _ (by omega) (i + 1) false _ _ _ rfl (by omega) (by have h8_ := (Bool.and_eq_true _ _).mp (hw_.symm.trans c_47); simp only [allB, h8_.1, h8_.2, Bool.true_and]; first | exact (decide_eq_true c_78_).symm | exact (decide_eq_false c_78_).symm) hP hD hS (lv_sub hl [2, 3, 4, 5, 1, 0] rfl)
          · have c_78_ := c_78
            refine lv_iconst (v := nI 1) hx hb dX7_isLike_81 (by decide) ?_
            refine lv_goto (tgt := 86) hx hb dX7_isLike_82 (by decide) ?_
            refine lv_istore (lv' := [(4, .int (nI 1)), (0, .ref m0), (1, .int (nI g)), (2, .int (nI o)), (3, .int (nI 0)), (5, .int (nI i))]) hx hb dX7_isLike_86 hl (by decide) rfl (fun ls hl => ?_)
            refine lv_iinc (v := nI (i + 1)) (lv' := [(5, .int (nI (i + 1))), (4, .int (nI 1)), (0, .ref m0), (1, .int (nI g)), (2, .int (nI o)), (3, .int (nI 0))]) hx hb dX7_isLike_88 hl (k := 5) rfl (nI_add _ _) (by decide) rfl (fun ls hl => ?_)
            refine lv_goto (tgt := 31) hx hb dX7_isLike_91 (by decide) ?_
            exact ih_31 _ (by omega) (i + 1) true _ _ _ rfl (by omega) (by have h8_ := (Bool.and_eq_true _ _).mp (hw_.symm.trans c_47); simp only [allB, h8_.1, h8_.2, Bool.true_and]; first | exact (decide_eq_true c_78_).symm | exact (decide_eq_false c_78_).symm) hP hD hS (lv_sub hl [2, 3, 4, 5, 1, 0] rfl)
    exact LP_31 _ 0 true _ _ _ rfl (by omega) (by simp [allB, c_18]) hP hD hS (lv_sub hl [2, 3, 4, 5, 1, 0] rfl)
set_option maxHeartbeats 4000000 in
set_option maxRecDepth 100000 in
theorem c_X7_isLike1 (l : Launch) (D : va_G) (cA : ClassId) (m0 m1 : Nat) (fs : List Value) (a M : Nat → Nat) (g o : Nat) (hV : Vd a) (hM : Rl a M) (hg : g < 8) (ho : o < 8) : RO l D cA yX7_isLike wsX7_isLike rm_X7_isLike [.ref m0, .int (nI g), .int (nI o), .int (nI 1)] [(m0, .inr (7, .ref m1 :: fs)), (m1, .inl (cA, 286, .inl (nF M)))] (bI (mird a g o)) := by
  refine ofWi (cc := cX7_isLike) (maxL := 6) (rt := .boolean) (by decide) rfl (Nat.le_of_ble_eq_true rfl) ?_
  intro p e s m args below meth c Q A ls F hK hR hP hD hA hS hl RET
  obtain ⟨hx, hb, hml, hown, hts⟩ := id F
  have hl : lv_has ls 6 [(0, .ref m0), (1, .int (nI g)), (2, .int (nI o)), (3, .int (nI 1))] := hl
  have hl32 := hV.l hg
  have ho32 := hV.l ho
  refine lv_aload_n hx hb dX7_isLike_0 rfl (lv_at hl 0 rfl) ?_
  refine va_get (D := D) (cl := vwCl) (ci := 7) (v := .ref m1) (C := RX7) (T := TX7) (N := 14) hx hb hts inf_X7_isLike_X7 hown hK.1 (hR.at hS) 0 rfl rfl 0 (by decide) (hts _ (List.mem_of_getElem? (i := 1) rfl)) (fun _ h9 => h9) rfl dX7_isLike_1 ?_
  refine lv_bipush (v := nI 22) hx hb dX7_isLike_4 (by decide) ?_
  refine lv_iload_n hx hb dX7_isLike_6 rfl (lv_at hl 1 rfl) ?_
  refine nv_iadd hx hb dX7_isLike_7 ?_
  refine nv_iald (a := M) hx hb hK (hR.at hS) 1 rfl (by omega) (by decide) dX7_isLike_8 ?_
  refine tope (y := nI (ln a g)) (congrArg nI (hM.l (by omega))) ?_
  refine lv_aload_n hx hb dX7_isLike_9 rfl (lv_at hl 0 rfl) ?_
  refine va_get (D := D) (cl := vwCl) (ci := 7) (v := .ref m1) (C := RX7) (T := TX7) (N := 14) hx hb hts inf_X7_isLike_X7 hown hK.1 (hR.at hS) 0 rfl rfl 0 (by decide) (hts _ (List.mem_of_getElem? (i := 1) rfl)) (fun _ h9 => h9) rfl dX7_isLike_10 ?_
  refine lv_bipush (v := nI 22) hx hb dX7_isLike_13 (by decide) ?_
  refine lv_iload_n hx hb dX7_isLike_15 rfl (lv_at hl 2 rfl) ?_
  refine nv_iadd hx hb dX7_isLike_16 ?_
  refine nv_iald (a := M) hx hb hK (hR.at hS) 1 rfl (by omega) (by decide) dX7_isLike_17 ?_
  refine tope (y := nI (ln a o)) (congrArg nI (hM.l (by omega))) ?_
  refine nv_icmp_ne (tgt := 25) hx hb dX7_isLike_18 (by decide) (by omega) (by omega) (fun c_18 => ?_) (fun c_18 => ?_)
  · refine lv_iconst (v := nI 0) hx hb dX7_isLike_25 (by decide) ?_
    refine lv_istore (lv' := [(4, .int (nI 0)), (0, .ref m0), (1, .int (nI g)), (2, .int (nI o)), (3, .int (nI 1))]) hx hb dX7_isLike_26 hl (by decide) rfl (fun ls hl => ?_)
    refine lv_iconst (v := nI 0) hx hb dX7_isLike_28 (by decide) ?_
    refine lv_istore (lv' := [(5, .int (nI 0)), (4, .int (nI 0)), (0, .ref m0), (1, .int (nI g)), (2, .int (nI o)), (3, .int (nI 1))]) hx hb dX7_isLike_29 hl (by decide) rfl (fun ls hl => ?_)
    have LP_31 : ∀ (k_31 : Nat) (i : Nat) (w : Bool) (H : Heap) (locs : List Loc) (ls : Array Slot), ln a g - i = k_31 → (i ≤ ln a g) → (w = (decide (ln a g = ln a o) && allB (fun j => decide (dl a g j = mir (dl a o (ln a g - 1 - j)))) i)) → va_P D vwCl [] H → va_D A [] → va_S A s.heap H locs → lv_has ls 6 [(0, .ref m0), (1, .int (nI g)), (2, .int (nI o)), (3, .int (nI 1)), (4, .int (bI w)), (5, .int (nI i))] → W p l e rm_X7_isLike s m args below meth c H locs 0 0 Q (F0 m 31 ls []) := by
      refine sind (fun k_31 ih_31 => ?_)
      intro i w H locs ls hk_31 hi hw_ hP hD hS hl
      refine lv_iload hx hb dX7_isLike_31 (lv_at hl 5 rfl) ?_
      refine lv_aload_n hx hb dX7_isLike_33 rfl (lv_at hl 0 rfl) ?_
      refine va_get (D := D) (cl := vwCl) (ci := 7) (v := .ref m1) (C := RX7) (T := TX7) (N := 14) hx hb hts inf_X7_isLike_X7 hown hK.1 (hR.at hS) 0 rfl rfl 0 (by decide) (hts _ (List.mem_of_getElem? (i := 1) rfl)) (fun _ h9 => h9) rfl dX7_isLike_34 ?_
      refine lv_bipush (v := nI 22) hx hb dX7_isLike_37 (by decide) ?_
      refine lv_iload_n hx hb dX7_isLike_39 rfl (lv_at hl 1 rfl) ?_
      refine nv_iadd hx hb dX7_isLike_40 ?_
      refine nv_iald (a := M) hx hb hK (hR.at hS) 1 rfl (by omega) (by decide) dX7_isLike_41 ?_
      refine tope (y := nI (ln a g)) (congrArg nI (hM.l (by omega))) ?_
      refine nv_icmp_ge (tgt := 94) hx hb dX7_isLike_42 (by decide) (by omega) (by omega) (fun c_42 => ?_) (fun c_42 => ?_)
      · refine lv_iload hx hb dX7_isLike_94 (lv_at hl 4 rfl) ?_
        refine tope (y := bI (mird a g o)) (by rw [show mird a g o = w from (by first | (rw [hw_, show i = ln a g by omega]; rfl) | (rw [c_47]; rw [hw_] at c_47; unfold mird; rcases Bool.and_eq_false_iff.mp c_47 with h_ | h_; (rw [h_]; rfl); (rw [allB_mono hi h_, Bool.and_false])))]) ?_
        exact RET _ _ _ _ _ () dX7_isLike_96 (nbI _) rfl hP hS
      · refine lv_iload hx hb dX7_isLike_45 (lv_at hl 4 rfl) ?_
        refine bv_if_eq (tgt := 94) hx hb dX7_isLike_47 (by decide) (fun c_47 => ?_) (fun c_47 => ?_)
        · refine lv_iload hx hb dX7_isLike_94 (lv_at hl 4 rfl) ?_
          refine tope (y := bI (mird a g o)) (by rw [show mird a g o = w from (by first | (rw [hw_, show i = ln a g by omega]; rfl) | (rw [c_47]; rw [hw_] at c_47; unfold mird; rcases Bool.and_eq_false_iff.mp c_47 with h_ | h_; (rw [h_]; rfl); (rw [allB_mono hi h_, Bool.and_false])))]) ?_
          exact RET _ _ _ _ _ () dX7_isLike_96 (nbI _) rfl hP hS
        · have hln_ : ln a g = ln a o := of_decide_eq_true ((Bool.and_eq_true _ _).mp (hw_.symm.trans c_47)).1
          have hd_ := hV.d (q := i) hg (by omega)
          have hd2_ := hV.d (q := i) ho (by omega)
          have hd3_ := mir_lt (hV.d (q := ln a o - 1 - i) ho (by omega))
          refine lv_aload_n hx hb dX7_isLike_50 rfl (lv_at hl 0 rfl) ?_
          refine lv_iload_n hx hb dX7_isLike_51 rfl (lv_at hl 1 rfl) ?_
          refine lv_iload hx hb dX7_isLike_52 (lv_at hl 5 rfl) ?_
          refine call_r (q := (RX7, TX7, 14)) (As := [.int (nI g), .int (nI i)]) (rest := []) F (c_X7_dollAt l D cA m0 m1 fs a M g i (hV) (hM) (by omega) (by omega)) (cwV 2 hts gX7_isLike_X7_dollAt rfl rfl rfl ydv_X7_dollAt ⟨Nat.le_of_ble_eq_true rfl, Nat.le_of_ble_eq_true rfl⟩) hK hR hP hD hA hS [0, 1] rfl rfl 0 7 rfl rfl rfl hl.1 rfl (Nat.le_of_ble_eq_true rfl) dX7_isLike_54 ⟨Nat.zero_le _, Nat.zero_le _⟩ (fun H locs hP hS => ?_)
          refine lv_iload_n hx hb dX7_isLike_57 rfl (lv_at hl 3 rfl) ?_
          refine nv_if_eq (tgt := 71) hx hb dX7_isLike_58 (by decide) (by decide) (fun c_58 => absurd c_58 (by decide)) (fun c_58 => ?_)
          refine lv_aload_n hx hb dX7_isLike_61 rfl (lv_at hl 0 rfl) ?_
          refine lv_iload_n hx hb dX7_isLike_62 rfl (lv_at hl 2 rfl) ?_
          refine lv_iload hx hb dX7_isLike_63 (lv_at hl 5 rfl) ?_
          refine call_r (q := (RX7, TX7, 14)) (As := [.int (nI o), .int (nI i)]) (rest := [.int (nI (dl a g i))]) F (c_X7_turnedDoll l D cA m0 m1 fs a M o i (hV) (hM) (by omega) (by omega)) (cwV 2 hts gX7_isLike_X7_turnedDoll rfl rfl rfl ydv_X7_turnedDoll ⟨Nat.le_of_ble_eq_true rfl, Nat.le_of_ble_eq_true rfl⟩) hK hR hP hD hA hS [0, 1] rfl rfl 0 7 rfl rfl rfl hl.1 rfl (Nat.le_of_ble_eq_true rfl) dX7_isLike_65 ⟨Nat.zero_le _, Nat.zero_le _⟩ (fun H locs hP hS => ?_)
          refine lv_goto (tgt := 78) hx hb dX7_isLike_68 (by decide) ?_
          refine nv_icmp_ne (tgt := 85) hx hb dX7_isLike_78 (by decide) (by omega) (by omega) (fun c_78 => ?_) (fun c_78 => ?_)
          · have c_78_ := c_78
            rw [← hln_] at c_78_
            refine lv_iconst (v := nI 0) hx hb dX7_isLike_85 (by decide) ?_
            refine lv_istore (lv' := [(4, .int (nI 0)), (0, .ref m0), (1, .int (nI g)), (2, .int (nI o)), (3, .int (nI 1)), (5, .int (nI i))]) hx hb dX7_isLike_86 hl (by decide) rfl (fun ls hl => ?_)
            refine lv_iinc (v := nI (i + 1)) (lv' := [(5, .int (nI (i + 1))), (4, .int (nI 0)), (0, .ref m0), (1, .int (nI g)), (2, .int (nI o)), (3, .int (nI 1))]) hx hb dX7_isLike_88 hl (k := 5) rfl (nI_add _ _) (by decide) rfl (fun ls hl => ?_)
            refine lv_goto (tgt := 31) hx hb dX7_isLike_91 (by decide) ?_
            exact ih_31 _ (by omega) (i + 1) false _ _ _ rfl (by omega) (by have h8_ := (Bool.and_eq_true _ _).mp (hw_.symm.trans c_47); simp only [allB, h8_.1, h8_.2, Bool.true_and]; first | exact (decide_eq_true c_78_).symm | exact (decide_eq_false c_78_).symm) hP hD hS (lv_sub hl [2, 3, 4, 5, 1, 0] rfl)
          · have c_78_ := c_78
            rw [← hln_] at c_78_
            refine lv_iconst (v := nI 1) hx hb dX7_isLike_81 (by decide) ?_
            refine lv_goto (tgt := 86) hx hb dX7_isLike_82 (by decide) ?_
            refine lv_istore (lv' := [(4, .int (nI 1)), (0, .ref m0), (1, .int (nI g)), (2, .int (nI o)), (3, .int (nI 1)), (5, .int (nI i))]) hx hb dX7_isLike_86 hl (by decide) rfl (fun ls hl => ?_)
            refine lv_iinc (v := nI (i + 1)) (lv' := [(5, .int (nI (i + 1))), (4, .int (nI 1)), (0, .ref m0), (1, .int (nI g)), (2, .int (nI o)), (3, .int (nI 1))]) hx hb dX7_isLike_88 hl (k := 5) rfl (nI_add _ _) (by decide) rfl (fun ls hl => ?_)
            refine lv_goto (tgt := 31) hx hb dX7_isLike_91 (by decide) ?_
            exact ih_31 _ (by omega) (i + 1) true _ _ _ rfl (by omega) (by have h8_ := (Bool.and_eq_true _ _).mp (hw_.symm.trans c_47); simp only [allB, h8_.1, h8_.2, Bool.true_and]; first | exact (decide_eq_true c_78_).symm | exact (decide_eq_false c_78_).symm) hP hD hS (lv_sub hl [2, 3, 4, 5, 1, 0] rfl)
    exact LP_31 _ 0 false _ _ _ rfl (by omega) (by simp [allB, c_18]) hP hD hS (lv_sub hl [2, 3, 4, 5, 1, 0] rfl)
  · refine lv_iconst (v := nI 1) hx hb dX7_isLike_21 (by decide) ?_
    refine lv_goto (tgt := 26) hx hb dX7_isLike_22 (by decide) ?_
    refine lv_istore (lv' := [(4, .int (nI 1)), (0, .ref m0), (1, .int (nI g)), (2, .int (nI o)), (3, .int (nI 1))]) hx hb dX7_isLike_26 hl (by decide) rfl (fun ls hl => ?_)
    refine lv_iconst (v := nI 0) hx hb dX7_isLike_28 (by decide) ?_
    refine lv_istore (lv' := [(5, .int (nI 0)), (4, .int (nI 1)), (0, .ref m0), (1, .int (nI g)), (2, .int (nI o)), (3, .int (nI 1))]) hx hb dX7_isLike_29 hl (by decide) rfl (fun ls hl => ?_)
    have LP_31 : ∀ (k_31 : Nat) (i : Nat) (w : Bool) (H : Heap) (locs : List Loc) (ls : Array Slot), ln a g - i = k_31 → (i ≤ ln a g) → (w = (decide (ln a g = ln a o) && allB (fun j => decide (dl a g j = mir (dl a o (ln a g - 1 - j)))) i)) → va_P D vwCl [] H → va_D A [] → va_S A s.heap H locs → lv_has ls 6 [(0, .ref m0), (1, .int (nI g)), (2, .int (nI o)), (3, .int (nI 1)), (4, .int (bI w)), (5, .int (nI i))] → W p l e rm_X7_isLike s m args below meth c H locs 0 0 Q (F0 m 31 ls []) := by
      refine sind (fun k_31 ih_31 => ?_)
      intro i w H locs ls hk_31 hi hw_ hP hD hS hl
      refine lv_iload hx hb dX7_isLike_31 (lv_at hl 5 rfl) ?_
      refine lv_aload_n hx hb dX7_isLike_33 rfl (lv_at hl 0 rfl) ?_
      refine va_get (D := D) (cl := vwCl) (ci := 7) (v := .ref m1) (C := RX7) (T := TX7) (N := 14) hx hb hts inf_X7_isLike_X7 hown hK.1 (hR.at hS) 0 rfl rfl 0 (by decide) (hts _ (List.mem_of_getElem? (i := 1) rfl)) (fun _ h9 => h9) rfl dX7_isLike_34 ?_
      refine lv_bipush (v := nI 22) hx hb dX7_isLike_37 (by decide) ?_
      refine lv_iload_n hx hb dX7_isLike_39 rfl (lv_at hl 1 rfl) ?_
      refine nv_iadd hx hb dX7_isLike_40 ?_
      refine nv_iald (a := M) hx hb hK (hR.at hS) 1 rfl (by omega) (by decide) dX7_isLike_41 ?_
      refine tope (y := nI (ln a g)) (congrArg nI (hM.l (by omega))) ?_
      refine nv_icmp_ge (tgt := 94) hx hb dX7_isLike_42 (by decide) (by omega) (by omega) (fun c_42 => ?_) (fun c_42 => ?_)
      · refine lv_iload hx hb dX7_isLike_94 (lv_at hl 4 rfl) ?_
        refine tope (y := bI (mird a g o)) (by rw [show mird a g o = w from (by first | (rw [hw_, show i = ln a g by omega]; rfl) | (rw [c_47]; rw [hw_] at c_47; unfold mird; rcases Bool.and_eq_false_iff.mp c_47 with h_ | h_; (rw [h_]; rfl); (rw [allB_mono hi h_, Bool.and_false])))]) ?_
        exact RET _ _ _ _ _ () dX7_isLike_96 (nbI _) rfl hP hS
      · refine lv_iload hx hb dX7_isLike_45 (lv_at hl 4 rfl) ?_
        refine bv_if_eq (tgt := 94) hx hb dX7_isLike_47 (by decide) (fun c_47 => ?_) (fun c_47 => ?_)
        · refine lv_iload hx hb dX7_isLike_94 (lv_at hl 4 rfl) ?_
          refine tope (y := bI (mird a g o)) (by rw [show mird a g o = w from (by first | (rw [hw_, show i = ln a g by omega]; rfl) | (rw [c_47]; rw [hw_] at c_47; unfold mird; rcases Bool.and_eq_false_iff.mp c_47 with h_ | h_; (rw [h_]; rfl); (rw [allB_mono hi h_, Bool.and_false])))]) ?_
          exact RET _ _ _ _ _ () dX7_isLike_96 (nbI _) rfl hP hS
        · have hln_ : ln a g = ln a o := of_decide_eq_true ((Bool.and_eq_true _ _).mp (hw_.symm.trans c_47)).1
          have hd_ := hV.d (q := i) hg (by omega)
          have hd2_ := hV.d (q := i) ho (by omega)
          have hd3_ := mir_lt (hV.d (q := ln a o - 1 - i) ho (by omega))
          refine lv_aload_n hx hb dX7_isLike_50 rfl (lv_at hl 0 rfl) ?_
          refine lv_iload_n hx hb dX7_isLike_51 rfl (lv_at hl 1 rfl) ?_
          refine lv_iload hx hb dX7_isLike_52 (lv_at hl 5 rfl) ?_
          refine call_r (q := (RX7, TX7, 14)) (As := [.int (nI g), .int (nI i)]) (rest := []) F (c_X7_dollAt l D cA m0 m1 fs a M g i (hV) (hM) (by omega) (by omega)) (cwV 2 hts gX7_isLike_X7_dollAt rfl rfl rfl ydv_X7_dollAt ⟨Nat.le_of_ble_eq_true rfl, Nat.le_of_ble_eq_true rfl⟩) hK hR hP hD hA hS [0, 1] rfl rfl 0 7 rfl rfl rfl hl.1 rfl (Nat.le_of_ble_eq_true rfl) dX7_isLike_54 ⟨Nat.zero_le _, Nat.zero_le _⟩ (fun H locs hP hS => ?_)
          refine lv_iload_n hx hb dX7_isLike_57 rfl (lv_at hl 3 rfl) ?_
          refine nv_if_eq (tgt := 71) hx hb dX7_isLike_58 (by decide) (by decide) (fun c_58 => absurd c_58 (by decide)) (fun c_58 => ?_)
          refine lv_aload_n hx hb dX7_isLike_61 rfl (lv_at hl 0 rfl) ?_
          refine lv_iload_n hx hb dX7_isLike_62 rfl (lv_at hl 2 rfl) ?_
          refine lv_iload hx hb dX7_isLike_63 (lv_at hl 5 rfl) ?_
          refine call_r (q := (RX7, TX7, 14)) (As := [.int (nI o), .int (nI i)]) (rest := [.int (nI (dl a g i))]) F (c_X7_turnedDoll l D cA m0 m1 fs a M o i (hV) (hM) (by omega) (by omega)) (cwV 2 hts gX7_isLike_X7_turnedDoll rfl rfl rfl ydv_X7_turnedDoll ⟨Nat.le_of_ble_eq_true rfl, Nat.le_of_ble_eq_true rfl⟩) hK hR hP hD hA hS [0, 1] rfl rfl 0 7 rfl rfl rfl hl.1 rfl (Nat.le_of_ble_eq_true rfl) dX7_isLike_65 ⟨Nat.zero_le _, Nat.zero_le _⟩ (fun H locs hP hS => ?_)
          refine lv_goto (tgt := 78) hx hb dX7_isLike_68 (by decide) ?_
          refine nv_icmp_ne (tgt := 85) hx hb dX7_isLike_78 (by decide) (by omega) (by omega) (fun c_78 => ?_) (fun c_78 => ?_)
          · have c_78_ := c_78
            rw [← hln_] at c_78_
            refine lv_iconst (v := nI 0) hx hb dX7_isLike_85 (by decide) ?_
            refine lv_istore (lv' := [(4, .int (nI 0)), (0, .ref m0), (1, .int (nI g)), (2, .int (nI o)), (3, .int (nI 1)), (5, .int (nI i))]) hx hb dX7_isLike_86 hl (by decide) rfl (fun ls hl => ?_)
            refine lv_iinc (v := nI (i + 1)) (lv' := [(5, .int (nI (i + 1))), (4, .int (nI 0)), (0, .ref m0), (1, .int (nI g)), (2, .int (nI o)), (3, .int (nI 1))]) hx hb dX7_isLike_88 hl (k := 5) rfl (nI_add _ _) (by decide) rfl (fun ls hl => ?_)
            refine lv_goto (tgt := 31) hx hb dX7_isLike_91 (by decide) ?_
            exact ih_31 _ (by omega) (i + 1) false _ _ _ rfl (by omega) (by have h8_ := (Bool.and_eq_true _ _).mp (hw_.symm.trans c_47); simp only [allB, h8_.1, h8_.2, Bool.true_and]; first | exact (decide_eq_true c_78_).symm | exact (decide_eq_false c_78_).symm) hP hD hS (lv_sub hl [2, 3, 4, 5, 1, 0] rfl)
          · have c_78_ := c_78
            rw [← hln_] at c_78_
            refine lv_iconst (v := nI 1) hx hb dX7_isLike_81 (by decide) ?_
            refine lv_goto (tgt := 86) hx hb dX7_isLike_82 (by decide) ?_
            refine lv_istore (lv' := [(4, .int (nI 1)), (0, .ref m0), (1, .int (nI g)), (2, .int (nI o)), (3, .int (nI 1)), (5, .int (nI i))]) hx hb dX7_isLike_86 hl (by decide) rfl (fun ls hl => ?_)
            refine lv_iinc (v := nI (i + 1)) (lv' := [(5, .int (nI (i + 1))), (4, .int (nI 1)), (0, .ref m0), (1, .int (nI g)), (2, .int (nI o)), (3, .int (nI 1))]) hx hb dX7_isLike_88 hl (k := 5) rfl (nI_add _ _) (by decide) rfl (fun ls hl => ?_)
            refine lv_goto (tgt := 31) hx hb dX7_isLike_91 (by decide) ?_
            exact ih_31 _ (by omega) (i + 1) true _ _ _ rfl (by omega) (by have h8_ := (Bool.and_eq_true _ _).mp (hw_.symm.trans c_47); simp only [allB, h8_.1, h8_.2, Bool.true_and]; first | exact (decide_eq_true c_78_).symm | exact (decide_eq_false c_78_).symm) hP hD hS (lv_sub hl [2, 3, 4, 5, 1, 0] rfl)
    exact LP_31 _ 0 true _ _ _ rfl (by omega) (by simp [allB, c_18]) hP hD hS (lv_sub hl [2, 3, 4, 5, 1, 0] rfl)
abbrev rm_X7_isOwnImage : Room := { frames := 3, cells := 0, slots := 0, locals := 69 }
theorem ydv_X7_isOwnImage : yX7_isOwnImage.cls = RX7 ∧ yX7_isOwnImage.cls ≠ "java/lang/invoke/MethodHandle" ∧ yX7_isOwnImage.cls ≠ "java/lang/invoke/VarHandle" ∧ (parseMethodDescriptor yX7_isOwnImage.desc).map (fun d => d.parameters.length) = some 1 := by decide +kernel
set_option maxHeartbeats 4000000 in
set_option maxRecDepth 100000 in
theorem c_X7_isOwnImage (l : Launch) (D : va_G) (cA : ClassId) (m0 m1 : Nat) (fs : List Value) (a M : Nat → Nat) (g : Nat) (hV : Vd a) (hM : Rl a M) (hg : g < 8) : RO l D cA yX7_isOwnImage wsX7_isOwnImage rm_X7_isOwnImage [.ref m0, .int (nI g)] [(m0, .inr (7, .ref m1 :: fs)), (m1, .inl (cA, 286, .inl (nF M)))] (bI (mird a g g)) := by
  refine ofWi (cc := cX7_isOwnImage) (maxL := 2) (rt := .boolean) (by decide) rfl (Nat.le_of_ble_eq_true rfl) ?_
  intro p e s m args below meth c Q A ls F hK hR hP hD hA hS hl RET
  obtain ⟨hx, hb, hml, hown, hts⟩ := id F
  have hl : lv_has ls 2 [(0, .ref m0), (1, .int (nI g))] := hl
  refine lv_aload_n hx hb dX7_isOwnImage_0 rfl (lv_at hl 0 rfl) ?_
  refine lv_iload_n hx hb dX7_isOwnImage_1 rfl (lv_at hl 1 rfl) ?_
  refine lv_iload_n hx hb dX7_isOwnImage_2 rfl (lv_at hl 1 rfl) ?_
  refine lv_iconst (v := nI 1) hx hb dX7_isOwnImage_3 (by decide) ?_
  refine call_r (q := (RX7, TX7, 14)) (As := [.int (nI g), .int (nI g), .int (nI 1)]) (rest := []) F (c_X7_isLike1 l D cA m0 m1 fs a M g g (hV) (hM) (by omega) (by omega)) (cwV 3 hts gX7_isOwnImage_X7_isLike rfl rfl rfl ydv_X7_isLike ⟨Nat.le_of_ble_eq_true rfl, Nat.le_of_ble_eq_true rfl⟩) hK hR hP hD hA hS [0, 1] rfl rfl 0 7 rfl rfl rfl hl.1 rfl (Nat.le_of_ble_eq_true rfl) dX7_isOwnImage_4 ⟨Nat.zero_le _, Nat.zero_le _⟩ (fun H locs hP hS => ?_)
  exact RET _ _ _ _ _ () dX7_isOwnImage_7 (nbI _) rfl hP hS
abbrev rm_X7_mirroredIn : Room := { frames := 1, cells := 0, slots := 0, locals := 22 }
theorem ydv_X7_mirroredIn : yX7_mirroredIn.cls = RX7 ∧ yX7_mirroredIn.cls ≠ "java/lang/invoke/MethodHandle" ∧ yX7_mirroredIn.cls ≠ "java/lang/invoke/VarHandle" ∧ (parseMethodDescriptor yX7_mirroredIn.desc).map (fun d => d.parameters.length) = some 1 := by decide +kernel
theorem inf_X7_mirroredIn_X7 : ∀ w ∈ wsX70, w ∈ wsX7_mirroredIn := fun w h => List.mem_cons_of_mem _ (List.mem_append_right _ (h))
set_option maxHeartbeats 4000000 in
set_option maxRecDepth 100000 in
theorem c_X7_mirroredIn (l : Launch) (D : va_G) (cA : ClassId) (m0 m1 : Nat) (fs : List Value) (a M : Nat → Nat) (g : Nat) (hV : Vd a) (hM : Rl a M) (hg : g < 8) : RO l D cA yX7_mirroredIn wsX7_mirroredIn rm_X7_mirroredIn [.ref m0, .int (nI g)] [(m0, .inr (7, .ref m1 :: fs)), (m1, .inl (cA, 286, .inl (nF M)))] (nI (mirIn a g)) := by
  refine ofWi (cc := cX7_mirroredIn) (maxL := 4) (rt := .int) (by decide) rfl (Nat.le_of_ble_eq_true rfl) ?_
  intro p e s m args below meth c Q A ls F hK hR hP hD hA hS hl RET
  obtain ⟨hx, hb, hml, hown, hts⟩ := id F
  have hl : lv_has ls 4 [(0, .ref m0), (1, .int (nI g))] := hl
  have hl32 := hV.l hg
  refine lv_iconst (v := nI 0) hx hb dX7_mirroredIn_0 (by decide) ?_
  refine lv_istore_n (lv' := [(2, .int (nI 0)), (0, .ref m0), (1, .int (nI g))]) hx hb dX7_mirroredIn_1 rfl hl (by decide) rfl (fun ls hl => ?_)
  refine lv_iconst (v := nI 0) hx hb dX7_mirroredIn_2 (by decide) ?_
  refine lv_istore_n (lv' := [(3, .int (nI 0)), (2, .int (nI 0)), (0, .ref m0), (1, .int (nI g))]) hx hb dX7_mirroredIn_3 rfl hl (by decide) rfl (fun ls hl => ?_)
  have LP_4 : ∀ (k_4 : Nat) (i : Nat) (x : Nat) (H : Heap) (locs : List Loc) (ls : Array Slot), ln a g - i = k_4 → (i ≤ ln a g) → (x = sumN (fun j => b2n (mr (dl a g j))) i) → va_P D vwCl [] H → va_D A [] → va_S A s.heap H locs → lv_has ls 4 [(0, .ref m0), (1, .int (nI g)), (2, .int (nI x)), (3, .int (nI i))] → W p l e rm_X7_mirroredIn s m args below meth c H locs 0 0 Q (F0 m 4 ls []) := by
    refine sind (fun k_4 ih_4 => ?_)
    intro i x H locs ls hk_4 hi hs_ hP hD hS hl
    refine lv_iload_n hx hb dX7_mirroredIn_4 rfl (lv_at hl 3 rfl) ?_
    refine lv_aload_n hx hb dX7_mirroredIn_5 rfl (lv_at hl 0 rfl) ?_
    refine va_get (D := D) (cl := vwCl) (ci := 7) (v := .ref m1) (C := RX7) (T := TX7) (N := 14) hx hb hts inf_X7_mirroredIn_X7 hown hK.1 (hR.at hS) 0 rfl rfl 0 (by decide) (hts _ (List.mem_of_getElem? (i := 1) rfl)) (fun _ h9 => h9) rfl dX7_mirroredIn_6 ?_
    refine lv_bipush (v := nI 22) hx hb dX7_mirroredIn_9 (by decide) ?_
    refine lv_iload_n hx hb dX7_mirroredIn_11 rfl (lv_at hl 1 rfl) ?_
    refine nv_iadd hx hb dX7_mirroredIn_12 ?_
    refine nv_iald (a := M) hx hb hK (hR.at hS) 1 rfl (by omega) (by decide) dX7_mirroredIn_13 ?_
    refine tope (y := nI (ln a g)) (congrArg nI (hM.l (by omega))) ?_
    refine nv_icmp_ge (tgt := 34) hx hb dX7_mirroredIn_14 (by decide) (by omega) (by omega) (fun c_14 => ?_) (fun c_14 => ?_)
    · refine lv_iload_n hx hb dX7_mirroredIn_34 rfl (lv_at hl 2 rfl) ?_
      refine tope (y := nI (mirIn a g)) (by rw [hs_, show i = ln a g by omega]; rfl) ?_
      exact RET _ _ _ _ _ () dX7_mirroredIn_35 rfl rfl hP hS
    · have hd_ := hV.d (q := i) hg (by omega)
      refine lv_iload_n hx hb dX7_mirroredIn_17 rfl (lv_at hl 2 rfl) ?_
      refine lv_aload_n hx hb dX7_mirroredIn_18 rfl (lv_at hl 0 rfl) ?_
      refine lv_iload_n hx hb dX7_mirroredIn_19 rfl (lv_at hl 1 rfl) ?_
      refine lv_iload_n hx hb dX7_mirroredIn_20 rfl (lv_at hl 3 rfl) ?_
      refine call_r (q := (RX7, TX7, 14)) (As := [.int (nI g), .int (nI i)]) (rest := [.int (nI x)]) F (c_X7_dollAt l D cA m0 m1 fs a M g i (hV) (hM) (by omega) (by omega)) (cwV 2 hts gX7_mirroredIn_X7_dollAt rfl rfl rfl ydv_X7_dollAt ⟨Nat.le_of_ble_eq_true rfl, Nat.le_of_ble_eq_true rfl⟩) hK hR hP hD hA hS [0, 1] rfl rfl 0 7 rfl rfl rfl hl.1 rfl (Nat.le_of_ble_eq_true rfl) dX7_mirroredIn_21 ⟨Nat.zero_le _, Nat.zero_le _⟩ (fun H locs hP hS => ?_)
      refine lv_iconst (v := nI 2) hx hb dX7_mirroredIn_24 (by decide) ?_
      refine nv_irem hx hb dX7_mirroredIn_25 (by omega) (by decide) (by decide) ?_
      refine nv_iadd hx hb dX7_mirroredIn_26 ?_
      refine lv_istore_n (lv' := [(2, .int (nI (x + ((dl a g i) % 2)))), (0, .ref m0), (1, .int (nI g)), (3, .int (nI i))]) hx hb dX7_mirroredIn_27 rfl hl (by decide) rfl (fun ls hl => ?_)
      refine lv_iinc (v := nI (i + 1)) (lv' := [(3, .int (nI (i + 1))), (2, .int (nI (x + ((dl a g i) % 2)))), (0, .ref m0), (1, .int (nI g))]) hx hb dX7_mirroredIn_28 hl (k := 3) rfl (nI_add _ _) (by decide) rfl (fun ls hl => ?_)
      refine lv_goto (tgt := 4) hx hb dX7_mirroredIn_31 (by decide) ?_
      exact ih_4 _ (by omega) (i + 1) (x + ((dl a g i) % 2)) _ _ _ rfl (by omega) (by rw [hs_, ← b2n_mr]; rfl) hP hD hS (lv_sub hl [2, 3, 1, 0] rfl)
  exact LP_4 _ 0 0 _ _ _ rfl (by omega) (rfl) hP hD hS (lv_sub hl [2, 3, 1, 0] rfl)
abbrev rm_X7_greatestKind : Room := { frames := 1, cells := 0, slots := 0, locals := 22 }
theorem ydv_X7_greatestKind : yX7_greatestKind.cls = RX7 ∧ yX7_greatestKind.cls ≠ "java/lang/invoke/MethodHandle" ∧ yX7_greatestKind.cls ≠ "java/lang/invoke/VarHandle" ∧ (parseMethodDescriptor yX7_greatestKind.desc).map (fun d => d.parameters.length) = some 0 := by decide +kernel
theorem inf_X7_greatestKind_X7 : ∀ w ∈ wsX70, w ∈ wsX7_greatestKind := fun w h => List.mem_cons_of_mem _ (List.mem_append_right _ (h))
set_option maxHeartbeats 4000000 in
set_option maxRecDepth 100000 in
theorem c_X7_greatestKind (l : Launch) (D : va_G) (cA : ClassId) (m0 m1 : Nat) (fs : List Value) (a M : Nat → Nat)  (hV : Vd a) (hM : Rl a M) : RO l D cA yX7_greatestKind wsX7_greatestKind rm_X7_greatestKind [.ref m0] [(m0, .inr (7, .ref m1 :: fs)), (m1, .inl (cA, 286, .inl (nF M)))] (nI (hiK a)) := by
  refine ofWi (cc := cX7_greatestKind) (maxL := 4) (rt := .int) (by decide) rfl (Nat.le_of_ble_eq_true rfl) ?_
  intro p e s m args below meth c Q A ls F hK hR hP hD hA hS hl RET
  obtain ⟨hx, hb, hml, hown, hts⟩ := id F
  have hl : lv_has ls 4 [(0, .ref m0)] := hl
  refine lv_iconst (v := nI 0) hx hb dX7_greatestKind_0 (by decide) ?_
  refine lv_istore_n (lv' := [(1, .int (nI 0)), (0, .ref m0)]) hx hb dX7_greatestKind_1 rfl hl (by decide) rfl (fun ls hl => ?_)
  refine lv_iconst (v := nI 0) hx hb dX7_greatestKind_2 (by decide) ?_
  refine lv_istore_n (lv' := [(2, .int (nI 0)), (1, .int (nI 0)), (0, .ref m0)]) hx hb dX7_greatestKind_3 rfl hl (by decide) rfl (fun ls hl => ?_)
  have LP_4 : ∀ (k_4 : Nat) (i : Nat) (x : Nat) (H : Heap) (locs : List Loc) (ls : Array Slot), 8 - i = k_4 → (i ≤ 8) → (x = foldN (fun g z => foldN (fun j y => max y (dl a g j / 2)) z (ln a g)) 0 i) → (x ≤ 20) → va_P D vwCl [] H → va_D A [] → va_S A s.heap H locs → lv_has ls 4 [(0, .ref m0), (1, .int (nI x)), (2, .int (nI i))] → W p l e rm_X7_greatestKind s m args below meth c H locs 0 0 Q (F0 m 4 ls []) := by
    refine sind (fun k_4 ih_4 => ?_)
    intro i x H locs ls hk_4 hi hx_ hx2_ hP hD hS hl
    refine lv_iload_n hx hb dX7_greatestKind_4 rfl (lv_at hl 2 rfl) ?_
    refine lv_bipush (v := nI 8) hx hb dX7_greatestKind_5 (by decide) ?_
    refine nv_icmp_ge (tgt := 62) hx hb dX7_greatestKind_7 (by decide) (by omega) (by decide) (fun c_7 => ?_) (fun c_7 => ?_)
    · refine lv_iload_n hx hb dX7_greatestKind_62 rfl (lv_at hl 1 rfl) ?_
      refine tope (y := nI (hiK a)) (by rw [hx_, show i = 8 by omega]; rfl) ?_
      exact RET _ _ _ _ _ () dX7_greatestKind_63 rfl rfl hP hS
    · have hl32 := hV.l c_7
      refine lv_iconst (v := nI 0) hx hb dX7_greatestKind_10 (by decide) ?_
      refine lv_istore_n (lv' := [(3, .int (nI 0)), (0, .ref m0), (1, .int (nI x)), (2, .int (nI i))]) hx hb dX7_greatestKind_11 rfl hl (by decide) rfl (fun ls hl => ?_)
      have LP_12 : ∀ (k_12 : Nat) (j : Nat) (y : Nat) (H : Heap) (locs : List Loc) (ls : Array Slot), ln a i - j = k_12 → (j ≤ ln a i) → (y = foldN (fun j y => max y (dl a i j / 2)) x j) → (y ≤ 20) → va_P D vwCl [] H → va_D A [] → va_S A s.heap H locs → lv_has ls 4 [(0, .ref m0), (1, .int (nI y)), (2, .int (nI i)), (3, .int (nI j))] → W p l e rm_X7_greatestKind s m args below meth c H locs 0 0 Q (F0 m 12 ls []) := by
        refine sind (fun k_12 ih_12 => ?_)
        intro j y H locs ls hk_12 hj hy_ hy2_ hP hD hS hl
        refine lv_iload_n hx hb dX7_greatestKind_12 rfl (lv_at hl 3 rfl) ?_
        refine lv_aload_n hx hb dX7_greatestKind_13 rfl (lv_at hl 0 rfl) ?_
        refine va_get (D := D) (cl := vwCl) (ci := 7) (v := .ref m1) (C := RX7) (T := TX7) (N := 14) hx hb hts inf_X7_greatestKind_X7 hown hK.1 (hR.at hS) 0 rfl rfl 0 (by decide) (hts _ (List.mem_of_getElem? (i := 1) rfl)) (fun _ h9 => h9) rfl dX7_greatestKind_14 ?_
        refine lv_bipush (v := nI 22) hx hb dX7_greatestKind_17 (by decide) ?_
        refine lv_iload_n hx hb dX7_greatestKind_19 rfl (lv_at hl 2 rfl) ?_
        refine nv_iadd hx hb dX7_greatestKind_20 ?_
        refine nv_iald (a := M) hx hb hK (hR.at hS) 1 rfl (by omega) (by decide) dX7_greatestKind_21 ?_
        refine tope (y := nI (ln a i)) (congrArg nI (hM.l (by omega))) ?_
        refine nv_icmp_ge (tgt := 56) hx hb dX7_greatestKind_22 (by decide) (by omega) (by omega) (fun c_22 => ?_) (fun c_22 => ?_)
        · refine lv_iinc (v := nI (i + 1)) (lv' := [(2, .int (nI (i + 1))), (0, .ref m0), (1, .int (nI y)), (3, .int (nI j))]) hx hb dX7_greatestKind_56 hl (k := 2) rfl (nI_add _ _) (by decide) rfl (fun ls hl => ?_)
          refine lv_goto (tgt := 4) hx hb dX7_greatestKind_59 (by decide) ?_
          exact ih_4 _ (by omega) (i + 1) y _ _ _ rfl (by omega) (by rw [hy_, show j = ln a i by omega, hx_]; rfl) (by omega) hP hD hS (lv_sub hl [1, 2, 0] rfl)
        · have hd_ := hV.d (q := j) c_7 (by omega)
          refine lv_aload_n hx hb dX7_greatestKind_25 rfl (lv_at hl 0 rfl) ?_
          refine lv_iload_n hx hb dX7_greatestKind_26 rfl (lv_at hl 2 rfl) ?_
          refine lv_iload_n hx hb dX7_greatestKind_27 rfl (lv_at hl 3 rfl) ?_
          refine call_r (q := (RX7, TX7, 14)) (As := [.int (nI i), .int (nI j)]) (rest := []) F (c_X7_dollAt l D cA m0 m1 fs a M i j (hV) (hM) (by omega) (by omega)) (cwV 2 hts gX7_greatestKind_X7_dollAt rfl rfl rfl ydv_X7_dollAt ⟨Nat.le_of_ble_eq_true rfl, Nat.le_of_ble_eq_true rfl⟩) hK hR hP hD hA hS [0, 1] rfl rfl 0 7 rfl rfl rfl hl.1 rfl (Nat.le_of_ble_eq_true rfl) dX7_greatestKind_28 ⟨Nat.zero_le _, Nat.zero_le _⟩ (fun H locs hP hS => ?_)
          refine lv_iconst (v := nI 2) hx hb dX7_greatestKind_31 (by decide) ?_
          refine nv_idiv hx hb dX7_greatestKind_32 (by omega) (by decide) (by decide) ?_
          refine lv_iload_n hx hb dX7_greatestKind_33 rfl (lv_at hl 1 rfl) ?_
          refine nv_icmp_le (tgt := 48) hx hb dX7_greatestKind_34 (by decide) (by omega) (by omega) (fun c_34 => ?_) (fun c_34 => ?_)
          · refine lv_iload_n hx hb dX7_greatestKind_48 rfl (lv_at hl 1 rfl) ?_
            refine lv_istore_n (lv' := [(1, .int (nI y)), (0, .ref m0), (2, .int (nI i)), (3, .int (nI j))]) hx hb dX7_greatestKind_49 rfl hl (by decide) rfl (fun ls hl => ?_)
            refine lv_iinc (v := nI (j + 1)) (lv' := [(3, .int (nI (j + 1))), (1, .int (nI y)), (0, .ref m0), (2, .int (nI i))]) hx hb dX7_greatestKind_50 hl (k := 3) rfl (nI_add _ _) (by decide) rfl (fun ls hl => ?_)
            refine lv_goto (tgt := 12) hx hb dX7_greatestKind_53 (by decide) ?_
            exact ih_12 _ (by omega) (j + 1) y _ _ _ rfl (by omega) (by simp only [foldN]; rw [← hy_]; first | (rw [Nat.max_eq_right (by omega)]; done) | (rw [Nat.max_eq_left (by omega)]; done)) (by omega) hP hD hS (lv_sub hl [2, 1, 3, 0] rfl)
          · refine lv_aload_n hx hb dX7_greatestKind_37 rfl (lv_at hl 0 rfl) ?_
            refine lv_iload_n hx hb dX7_greatestKind_38 rfl (lv_at hl 2 rfl) ?_
            refine lv_iload_n hx hb dX7_greatestKind_39 rfl (lv_at hl 3 rfl) ?_
            refine call_r (q := (RX7, TX7, 14)) (As := [.int (nI i), .int (nI j)]) (rest := []) F (c_X7_dollAt l D cA m0 m1 fs a M i j (hV) (hM) (by omega) (by omega)) (cwV 2 hts gX7_greatestKind_X7_dollAt rfl rfl rfl ydv_X7_dollAt ⟨Nat.le_of_ble_eq_true rfl, Nat.le_of_ble_eq_true rfl⟩) hK hR hP hD hA hS [0, 1] rfl rfl 0 7 rfl rfl rfl hl.1 rfl (Nat.le_of_ble_eq_true rfl) dX7_greatestKind_40 ⟨Nat.zero_le _, Nat.zero_le _⟩ (fun H locs hP hS => ?_)
            refine lv_iconst (v := nI 2) hx hb dX7_greatestKind_43 (by decide) ?_
            refine nv_idiv hx hb dX7_greatestKind_44 (by omega) (by decide) (by decide) ?_
            refine lv_goto (tgt := 49) hx hb dX7_greatestKind_45 (by decide) ?_
            refine lv_istore_n (lv' := [(1, .int (nI ((dl a i j) / 2))), (0, .ref m0), (2, .int (nI i)), (3, .int (nI j))]) hx hb dX7_greatestKind_49 rfl hl (by decide) rfl (fun ls hl => ?_)
            refine lv_iinc (v := nI (j + 1)) (lv' := [(3, .int (nI (j + 1))), (1, .int (nI ((dl a i j) / 2))), (0, .ref m0), (2, .int (nI i))]) hx hb dX7_greatestKind_50 hl (k := 3) rfl (nI_add _ _) (by decide) rfl (fun ls hl => ?_)
            refine lv_goto (tgt := 12) hx hb dX7_greatestKind_53 (by decide) ?_
            exact ih_12 _ (by omega) (j + 1) ((dl a i j) / 2) _ _ _ rfl (by omega) (by simp only [foldN]; rw [← hy_]; first | (rw [Nat.max_eq_right (by omega)]; done) | (rw [Nat.max_eq_left (by omega)]; done)) (by omega) hP hD hS (lv_sub hl [2, 1, 3, 0] rfl)
      exact LP_12 _ 0 x _ _ _ rfl (by omega) (rfl) (by omega) hP hD hS (lv_sub hl [1, 2, 3, 0] rfl)
  exact LP_4 _ 0 0 _ _ _ rfl (by omega) (rfl) (by omega) hP hD hS (lv_sub hl [2, 1, 0] rfl)
abbrev rm_X7_garlands : Room := { frames := 0, cells := 0, slots := 0, locals := 0 }
theorem ydv_X7_garlands : yX7_garlands.cls = RX7 ∧ yX7_garlands.cls ≠ "java/lang/invoke/MethodHandle" ∧ yX7_garlands.cls ≠ "java/lang/invoke/VarHandle" ∧ (parseMethodDescriptor yX7_garlands.desc).map (fun d => d.parameters.length) = some 0 := by decide +kernel
theorem inf_X7_garlands_X7 : ∀ w ∈ wsX70, w ∈ wsX7_garlands := fun w h => List.mem_cons_of_mem _ (List.mem_append_right _ (h))
set_option maxHeartbeats 4000000 in
set_option maxRecDepth 100000 in
theorem c_X7_garlands (l : Launch) (D : va_G) (cA : ClassId) (m0 m1 : Nat) (fs : List Value) (a M : Nat → Nat)  (hV : Vd a) (hM : Rl a M) : RO l D cA yX7_garlands wsX7_garlands rm_X7_garlands [.ref m0] [(m0, .inr (7, .ref m1 :: fs)), (m1, .inl (cA, 286, .inl (nF M)))] (nI (cntG a)) := by
  refine ofWi (cc := cX7_garlands) (maxL := 3) (rt := .int) (by decide) rfl (Nat.le_of_ble_eq_true rfl) ?_
  intro p e s m args below meth c Q A ls F hK hR hP hD hA hS hl RET
  obtain ⟨hx, hb, hml, hown, hts⟩ := id F
  have hl : lv_has ls 3 [(0, .ref m0)] := hl
  refine lv_iconst (v := nI 0) hx hb dX7_garlands_0 (by decide) ?_
  refine lv_istore_n (lv' := [(1, .int (nI 0)), (0, .ref m0)]) hx hb dX7_garlands_1 rfl hl (by decide) rfl (fun ls hl => ?_)
  refine lv_iconst (v := nI 0) hx hb dX7_garlands_2 (by decide) ?_
  refine lv_istore_n (lv' := [(2, .int (nI 0)), (1, .int (nI 0)), (0, .ref m0)]) hx hb dX7_garlands_3 rfl hl (by decide) rfl (fun ls hl => ?_)
  have LP_4 : ∀ (k_4 : Nat) (i : Nat) (x : Nat) (H : Heap) (locs : List Loc) (ls : Array Slot), 8 - i = k_4 → (i ≤ 8) → (x = sumN (fun g => b2n (inG a (nI g))) i) → va_P D vwCl [] H → va_D A [] → va_S A s.heap H locs → lv_has ls 3 [(0, .ref m0), (1, .int (nI x)), (2, .int (nI i))] → W p l e rm_X7_garlands s m args below meth c H locs 0 0 Q (F0 m 4 ls []) := by
    refine sind (fun k_4 ih_4 => ?_)
    intro i x H locs ls hk_4 hi hx_ hP hD hS hl
    refine lv_iload_n hx hb dX7_garlands_4 rfl (lv_at hl 2 rfl) ?_
    refine lv_bipush (v := nI 8) hx hb dX7_garlands_5 (by decide) ?_
    refine nv_icmp_ge (tgt := 36) hx hb dX7_garlands_7 (by decide) (by omega) (by decide) (fun c_7 => ?_) (fun c_7 => ?_)
    · refine lv_iload_n hx hb dX7_garlands_36 rfl (lv_at hl 1 rfl) ?_
      refine tope (y := nI (cntG a)) (by rw [hx_, show i = 8 by omega]; rfl) ?_
      exact RET _ _ _ _ _ () dX7_garlands_37 rfl rfl hP hS
    · have hl32 := hV.l c_7
      refine lv_iload_n hx hb dX7_garlands_10 rfl (lv_at hl 1 rfl) ?_
      refine lv_aload_n hx hb dX7_garlands_11 rfl (lv_at hl 0 rfl) ?_
      refine va_get (D := D) (cl := vwCl) (ci := 7) (v := .ref m1) (C := RX7) (T := TX7) (N := 14) hx hb hts inf_X7_garlands_X7 hown hK.1 (hR.at hS) 0 rfl rfl 0 (by decide) (hts _ (List.mem_of_getElem? (i := 1) rfl)) (fun _ h9 => h9) rfl dX7_garlands_12 ?_
      refine lv_bipush (v := nI 22) hx hb dX7_garlands_15 (by decide) ?_
      refine lv_iload_n hx hb dX7_garlands_17 rfl (lv_at hl 2 rfl) ?_
      refine nv_iadd hx hb dX7_garlands_18 ?_
      refine nv_iald (a := M) hx hb hK (hR.at hS) 1 rfl (by omega) (by decide) dX7_garlands_19 ?_
      refine tope (y := nI (ln a i)) (congrArg nI (hM.l (by omega))) ?_
      refine nv_if_le (tgt := 27) hx hb dX7_garlands_20 (by decide) (by omega) (fun c_20 => ?_) (fun c_20 => ?_)
      · refine lv_iconst (v := nI 0) hx hb dX7_garlands_27 (by decide) ?_
        refine nv_iadd hx hb dX7_garlands_28 ?_
        refine lv_istore_n (lv' := [(1, .int (nI (x + 0))), (0, .ref m0), (2, .int (nI i))]) hx hb dX7_garlands_29 rfl hl (by decide) rfl (fun ls hl => ?_)
        refine lv_iinc (v := nI (i + 1)) (lv' := [(2, .int (nI (i + 1))), (1, .int (nI (x + 0))), (0, .ref m0)]) hx hb dX7_garlands_30 hl (k := 2) rfl (nI_add _ _) (by decide) rfl (fun ls hl => ?_)
        refine lv_goto (tgt := 4) hx hb dX7_garlands_33 (by decide) ?_
        exact ih_4 _ (by omega) (i + 1) (x + 0) _ _ _ rfl (by omega) (by rw [hx_]; simp only [sumN, inG_nI c_7]; first | (rw [decide_eq_true c_20]; rfl) | (rw [decide_eq_false (by omega)]; rfl)) hP hD hS (lv_sub hl [2, 1, 0] rfl)
      · refine lv_iconst (v := nI 1) hx hb dX7_garlands_23 (by decide) ?_
        refine lv_goto (tgt := 28) hx hb dX7_garlands_24 (by decide) ?_
        refine nv_iadd hx hb dX7_garlands_28 ?_
        refine lv_istore_n (lv' := [(1, .int (nI (x + 1))), (0, .ref m0), (2, .int (nI i))]) hx hb dX7_garlands_29 rfl hl (by decide) rfl (fun ls hl => ?_)
        refine lv_iinc (v := nI (i + 1)) (lv' := [(2, .int (nI (i + 1))), (1, .int (nI (x + 1))), (0, .ref m0)]) hx hb dX7_garlands_30 hl (k := 2) rfl (nI_add _ _) (by decide) rfl (fun ls hl => ?_)
        refine lv_goto (tgt := 4) hx hb dX7_garlands_33 (by decide) ?_
        exact ih_4 _ (by omega) (i + 1) (x + 1) _ _ _ rfl (by omega) (by rw [hx_]; simp only [sumN, inG_nI c_7]; first | (rw [decide_eq_true c_20]; rfl) | (rw [decide_eq_false (by omega)]; rfl)) hP hD hS (lv_sub hl [2, 1, 0] rfl)
  exact LP_4 _ 0 0 _ _ _ rfl (by omega) (rfl) hP hD hS (lv_sub hl [2, 1, 0] rfl)
abbrev rm_X7_dollsOf : Room := { frames := 1, cells := 0, slots := 0, locals := 22 }
theorem ydv_X7_dollsOf : yX7_dollsOf.cls = RX7 ∧ yX7_dollsOf.cls ≠ "java/lang/invoke/MethodHandle" ∧ yX7_dollsOf.cls ≠ "java/lang/invoke/VarHandle" ∧ (parseMethodDescriptor yX7_dollsOf.desc).map (fun d => d.parameters.length) = some 2 := by decide +kernel
theorem inf_X7_dollsOf_X7 : ∀ w ∈ wsX70, w ∈ wsX7_dollsOf := fun w h => List.mem_cons_of_mem _ (List.mem_append_right _ (h))
set_option maxHeartbeats 4000000 in
set_option maxRecDepth 100000 in
theorem c_X7_dollsOf0 (l : Launch) (D : va_G) (cA : ClassId) (m0 m1 : Nat) (fs : List Value) (a M : Nat → Nat) (k : Nat) (hV : Vd a) (hM : Rl a M) (hk : k < 2 ^ 31) : RO l D cA yX7_dollsOf wsX7_dollsOf rm_X7_dollsOf [.ref m0, .int (nI k), .int (nI 0)] [(m0, .inr (7, .ref m1 :: fs)), (m1, .inl (cA, 286, .inl (nF M)))] (nI (likeD a (2 * k + b2n false) + likeD a (2 * k + b2n true))) := by
  refine ofWi (cc := cX7_dollsOf) (maxL := 6) (rt := .int) (by decide) rfl (Nat.le_of_ble_eq_true rfl) ?_
  intro p e s m args below meth c Q A ls F hK hR hP hD hA hS hl RET
  obtain ⟨hx, hb, hml, hown, hts⟩ := id F
  have hl : lv_has ls 6 [(0, .ref m0), (1, .int (nI k)), (2, .int (nI 0))] := hl
  refine lv_iconst (v := nI 0) hx hb dX7_dollsOf_0 (by decide) ?_
  refine lv_istore_n (lv' := [(3, .int (nI 0)), (0, .ref m0), (1, .int (nI k)), (2, .int (nI 0))]) hx hb dX7_dollsOf_1 rfl hl (by decide) rfl (fun ls hl => ?_)
  refine lv_iconst (v := nI 0) hx hb dX7_dollsOf_2 (by decide) ?_
  refine lv_istore (lv' := [(4, .int (nI 0)), (3, .int (nI 0)), (0, .ref m0), (1, .int (nI k)), (2, .int (nI 0))]) hx hb dX7_dollsOf_3 hl (by decide) rfl (fun ls hl => ?_)
  have LP_5 : ∀ (k_5 : Nat) (i : Nat) (x : Nat) (H : Heap) (locs : List Loc) (ls : Array Slot), 8 - i = k_5 → (i ≤ 8) → (x = sumN (fun g => sumN (fun j => b2n (decide (dl a g j / 2 = k))) (ln a g)) i) → va_P D vwCl [] H → va_D A [] → va_S A s.heap H locs → lv_has ls 6 [(0, .ref m0), (1, .int (nI k)), (2, .int (nI 0)), (3, .int (nI x)), (4, .int (nI i))] → W p l e rm_X7_dollsOf s m args below meth c H locs 0 0 Q (F0 m 5 ls []) := by
    refine sind (fun k_5 ih_5 => ?_)
    intro i x H locs ls hk_5 hi hx_ hP hD hS hl
    refine lv_iload hx hb dX7_dollsOf_5 (lv_at hl 4 rfl) ?_
    refine lv_bipush (v := nI 8) hx hb dX7_dollsOf_7 (by decide) ?_
    refine nv_icmp_ge (tgt := 82) hx hb dX7_dollsOf_9 (by decide) (by omega) (by decide) (fun c_9 => ?_) (fun c_9 => ?_)
    · refine lv_iload_n hx hb dX7_dollsOf_82 rfl (lv_at hl 3 rfl) ?_
      refine tope (y := nI (likeD a (2 * k + b2n false) + likeD a (2 * k + b2n true))) (by rw [likeD_two, hx_, show i = 8 by omega]) ?_
      exact RET _ _ _ _ _ () dX7_dollsOf_83 rfl rfl hP hS
    · have hl32 := hV.l c_9
      refine lv_iconst (v := nI 0) hx hb dX7_dollsOf_12 (by decide) ?_
      refine lv_istore (lv' := [(5, .int (nI 0)), (0, .ref m0), (1, .int (nI k)), (2, .int (nI 0)), (3, .int (nI x)), (4, .int (nI i))]) hx hb dX7_dollsOf_13 hl (by decide) rfl (fun ls hl => ?_)
      have LP_15 : ∀ (k_15 : Nat) (j : Nat) (y : Nat) (H : Heap) (locs : List Loc) (ls : Array Slot), ln a i - j = k_15 → (j ≤ ln a i) → (y = x + sumN (fun j => b2n (decide (dl a i j / 2 = k))) j) → va_P D vwCl [] H → va_D A [] → va_S A s.heap H locs → lv_has ls 6 [(0, .ref m0), (1, .int (nI k)), (2, .int (nI 0)), (3, .int (nI y)), (4, .int (nI i)), (5, .int (nI j))] → W p l e rm_X7_dollsOf s m args below meth c H locs 0 0 Q (F0 m 15 ls []) := by
        refine sind (fun k_15 ih_15 => ?_)
        intro j y H locs ls hk_15 hj hy_ hP hD hS hl
        refine lv_iload hx hb dX7_dollsOf_15 (lv_at hl 5 rfl) ?_
        refine lv_aload_n hx hb dX7_dollsOf_17 rfl (lv_at hl 0 rfl) ?_
        refine va_get (D := D) (cl := vwCl) (ci := 7) (v := .ref m1) (C := RX7) (T := TX7) (N := 14) hx hb hts inf_X7_dollsOf_X7 hown hK.1 (hR.at hS) 0 rfl rfl 0 (by decide) (hts _ (List.mem_of_getElem? (i := 1) rfl)) (fun _ h9 => h9) rfl dX7_dollsOf_18 ?_
        refine lv_bipush (v := nI 22) hx hb dX7_dollsOf_21 (by decide) ?_
        refine lv_iload hx hb dX7_dollsOf_23 (lv_at hl 4 rfl) ?_
        refine nv_iadd hx hb dX7_dollsOf_25 ?_
        refine nv_iald (a := M) hx hb hK (hR.at hS) 1 rfl (by omega) (by decide) dX7_dollsOf_26 ?_
        refine tope (y := nI (ln a i)) (congrArg nI (hM.l (by omega))) ?_
        refine nv_icmp_ge (tgt := 76) hx hb dX7_dollsOf_27 (by decide) (by omega) (by omega) (fun c_27 => ?_) (fun c_27 => ?_)
        · refine lv_iinc (v := nI (i + 1)) (lv' := [(4, .int (nI (i + 1))), (0, .ref m0), (1, .int (nI k)), (2, .int (nI 0)), (3, .int (nI y)), (5, .int (nI j))]) hx hb dX7_dollsOf_76 hl (k := 4) rfl (nI_add _ _) (by decide) rfl (fun ls hl => ?_)
          refine lv_goto (tgt := 5) hx hb dX7_dollsOf_79 (by decide) ?_
          exact ih_5 _ (by omega) (i + 1) y _ _ _ rfl (by omega) (by rw [hy_, show j = ln a i by omega, hx_]; rfl) hP hD hS (lv_sub hl [1, 2, 3, 4, 0] rfl)
        · have hd_ := hV.d (q := j) c_9 (by omega)
          refine lv_iload_n hx hb dX7_dollsOf_30 rfl (lv_at hl 3 rfl) ?_
          refine lv_aload_n hx hb dX7_dollsOf_31 rfl (lv_at hl 0 rfl) ?_
          refine lv_iload hx hb dX7_dollsOf_32 (lv_at hl 4 rfl) ?_
          refine lv_iload hx hb dX7_dollsOf_34 (lv_at hl 5 rfl) ?_
          refine call_r (q := (RX7, TX7, 14)) (As := [.int (nI i), .int (nI j)]) (rest := [.int (nI y)]) F (c_X7_dollAt l D cA m0 m1 fs a M i j (hV) (hM) (by omega) (by omega)) (cwV 2 hts gX7_dollsOf_X7_dollAt rfl rfl rfl ydv_X7_dollAt ⟨Nat.le_of_ble_eq_true rfl, Nat.le_of_ble_eq_true rfl⟩) hK hR hP hD hA hS [0, 1] rfl rfl 0 7 rfl rfl rfl hl.1 rfl (Nat.le_of_ble_eq_true rfl) dX7_dollsOf_36 ⟨Nat.zero_le _, Nat.zero_le _⟩ (fun H locs hP hS => ?_)
          refine lv_iconst (v := nI 2) hx hb dX7_dollsOf_39 (by decide) ?_
          refine nv_idiv hx hb dX7_dollsOf_40 (by omega) (by decide) (by decide) ?_
          refine lv_iload_n hx hb dX7_dollsOf_41 rfl (lv_at hl 1 rfl) ?_
          refine nv_icmp_ne (tgt := 67) hx hb dX7_dollsOf_42 (by decide) (by omega) (by omega) (fun c_42 => ?_) (fun c_42 => ?_)
          · refine lv_iconst (v := nI 0) hx hb dX7_dollsOf_67 (by decide) ?_
            refine nv_iadd hx hb dX7_dollsOf_68 ?_
            refine lv_istore_n (lv' := [(3, .int (nI (y + 0))), (0, .ref m0), (1, .int (nI k)), (2, .int (nI 0)), (4, .int (nI i)), (5, .int (nI j))]) hx hb dX7_dollsOf_69 rfl hl (by decide) rfl (fun ls hl => ?_)
            refine lv_iinc (v := nI (j + 1)) (lv' := [(5, .int (nI (j + 1))), (3, .int (nI (y + 0))), (0, .ref m0), (1, .int (nI k)), (2, .int (nI 0)), (4, .int (nI i))]) hx hb dX7_dollsOf_70 hl (k := 5) rfl (nI_add _ _) (by decide) rfl (fun ls hl => ?_)
            refine lv_goto (tgt := 15) hx hb dX7_dollsOf_73 (by decide) ?_
            exact ih_15 _ (by omega) (j + 1) (y + 0) _ _ _ rfl (by omega) (by rw [hy_]; simp only [sumN]; simp [b2n, c_42] <;> omega) hP hD hS (lv_sub hl [2, 3, 4, 1, 5, 0] rfl)
          · refine lv_iload_n hx hb dX7_dollsOf_45 rfl (lv_at hl 2 rfl) ?_
            refine nv_if_eq (tgt := 63) hx hb dX7_dollsOf_46 (by decide) (by decide) (fun c_46 => ?_) (fun c_46 => absurd c_46 (by decide))
            refine lv_iconst (v := nI 1) hx hb dX7_dollsOf_63 (by decide) ?_
            refine lv_goto (tgt := 68) hx hb dX7_dollsOf_64 (by decide) ?_
            refine nv_iadd hx hb dX7_dollsOf_68 ?_
            refine lv_istore_n (lv' := [(3, .int (nI (y + 1))), (0, .ref m0), (1, .int (nI k)), (2, .int (nI 0)), (4, .int (nI i)), (5, .int (nI j))]) hx hb dX7_dollsOf_69 rfl hl (by decide) rfl (fun ls hl => ?_)
            refine lv_iinc (v := nI (j + 1)) (lv' := [(5, .int (nI (j + 1))), (3, .int (nI (y + 1))), (0, .ref m0), (1, .int (nI k)), (2, .int (nI 0)), (4, .int (nI i))]) hx hb dX7_dollsOf_70 hl (k := 5) rfl (nI_add _ _) (by decide) rfl (fun ls hl => ?_)
            refine lv_goto (tgt := 15) hx hb dX7_dollsOf_73 (by decide) ?_
            exact ih_15 _ (by omega) (j + 1) (y + 1) _ _ _ rfl (by omega) (by rw [hy_]; simp only [sumN]; simp [b2n, eq_true c_42] <;> omega) hP hD hS (lv_sub hl [2, 3, 4, 1, 5, 0] rfl)
      exact LP_15 _ 0 x _ _ _ rfl (by omega) (rfl) hP hD hS (lv_sub hl [1, 2, 3, 4, 5, 0] rfl)
  exact LP_5 _ 0 0 _ _ _ rfl (by omega) (rfl) hP hD hS (lv_sub hl [2, 3, 4, 1, 0] rfl)
set_option maxHeartbeats 4000000 in
set_option maxRecDepth 100000 in
theorem c_X7_dollsOf1 (l : Launch) (D : va_G) (cA : ClassId) (m0 m1 : Nat) (fs : List Value) (a M : Nat → Nat) (k : Nat) (hV : Vd a) (hM : Rl a M) (hk : k < 2 ^ 31) : RO l D cA yX7_dollsOf wsX7_dollsOf rm_X7_dollsOf [.ref m0, .int (nI k), .int (nI 1)] [(m0, .inr (7, .ref m1 :: fs)), (m1, .inl (cA, 286, .inl (nF M)))] (nI (likeD a (2 * k + b2n true))) := by
  refine ofWi (cc := cX7_dollsOf) (maxL := 6) (rt := .int) (by decide) rfl (Nat.le_of_ble_eq_true rfl) ?_
  intro p e s m args below meth c Q A ls F hK hR hP hD hA hS hl RET
  obtain ⟨hx, hb, hml, hown, hts⟩ := id F
  have hl : lv_has ls 6 [(0, .ref m0), (1, .int (nI k)), (2, .int (nI 1))] := hl
  refine lv_iconst (v := nI 0) hx hb dX7_dollsOf_0 (by decide) ?_
  refine lv_istore_n (lv' := [(3, .int (nI 0)), (0, .ref m0), (1, .int (nI k)), (2, .int (nI 1))]) hx hb dX7_dollsOf_1 rfl hl (by decide) rfl (fun ls hl => ?_)
  refine lv_iconst (v := nI 0) hx hb dX7_dollsOf_2 (by decide) ?_
  refine lv_istore (lv' := [(4, .int (nI 0)), (3, .int (nI 0)), (0, .ref m0), (1, .int (nI k)), (2, .int (nI 1))]) hx hb dX7_dollsOf_3 hl (by decide) rfl (fun ls hl => ?_)
  have LP_5 : ∀ (k_5 : Nat) (i : Nat) (x : Nat) (H : Heap) (locs : List Loc) (ls : Array Slot), 8 - i = k_5 → (i ≤ 8) → (x = sumN (fun g => sumN (fun j => b2n (decide (dl a g j / 2 = k) && decide (dl a g j % 2 = 1))) (ln a g)) i) → va_P D vwCl [] H → va_D A [] → va_S A s.heap H locs → lv_has ls 6 [(0, .ref m0), (1, .int (nI k)), (2, .int (nI 1)), (3, .int (nI x)), (4, .int (nI i))] → W p l e rm_X7_dollsOf s m args below meth c H locs 0 0 Q (F0 m 5 ls []) := by
    refine sind (fun k_5 ih_5 => ?_)
    intro i x H locs ls hk_5 hi hx_ hP hD hS hl
    refine lv_iload hx hb dX7_dollsOf_5 (lv_at hl 4 rfl) ?_
    refine lv_bipush (v := nI 8) hx hb dX7_dollsOf_7 (by decide) ?_
    refine nv_icmp_ge (tgt := 82) hx hb dX7_dollsOf_9 (by decide) (by omega) (by decide) (fun c_9 => ?_) (fun c_9 => ?_)
    · refine lv_iload_n hx hb dX7_dollsOf_82 rfl (lv_at hl 3 rfl) ?_
      refine tope (y := nI (likeD a (2 * k + b2n true))) (by rw [likeD_one, hx_, show i = 8 by omega]) ?_
      exact RET _ _ _ _ _ () dX7_dollsOf_83 rfl rfl hP hS
    · have hl32 := hV.l c_9
      refine lv_iconst (v := nI 0) hx hb dX7_dollsOf_12 (by decide) ?_
      refine lv_istore (lv' := [(5, .int (nI 0)), (0, .ref m0), (1, .int (nI k)), (2, .int (nI 1)), (3, .int (nI x)), (4, .int (nI i))]) hx hb dX7_dollsOf_13 hl (by decide) rfl (fun ls hl => ?_)
      have LP_15 : ∀ (k_15 : Nat) (j : Nat) (y : Nat) (H : Heap) (locs : List Loc) (ls : Array Slot), ln a i - j = k_15 → (j ≤ ln a i) → (y = x + sumN (fun j => b2n (decide (dl a i j / 2 = k) && decide (dl a i j % 2 = 1))) j) → va_P D vwCl [] H → va_D A [] → va_S A s.heap H locs → lv_has ls 6 [(0, .ref m0), (1, .int (nI k)), (2, .int (nI 1)), (3, .int (nI y)), (4, .int (nI i)), (5, .int (nI j))] → W p l e rm_X7_dollsOf s m args below meth c H locs 0 0 Q (F0 m 15 ls []) := by
        refine sind (fun k_15 ih_15 => ?_)
        intro j y H locs ls hk_15 hj hy_ hP hD hS hl
        refine lv_iload hx hb dX7_dollsOf_15 (lv_at hl 5 rfl) ?_
        refine lv_aload_n hx hb dX7_dollsOf_17 rfl (lv_at hl 0 rfl) ?_
        refine va_get (D := D) (cl := vwCl) (ci := 7) (v := .ref m1) (C := RX7) (T := TX7) (N := 14) hx hb hts inf_X7_dollsOf_X7 hown hK.1 (hR.at hS) 0 rfl rfl 0 (by decide) (hts _ (List.mem_of_getElem? (i := 1) rfl)) (fun _ h9 => h9) rfl dX7_dollsOf_18 ?_
        refine lv_bipush (v := nI 22) hx hb dX7_dollsOf_21 (by decide) ?_
        refine lv_iload hx hb dX7_dollsOf_23 (lv_at hl 4 rfl) ?_
        refine nv_iadd hx hb dX7_dollsOf_25 ?_
        refine nv_iald (a := M) hx hb hK (hR.at hS) 1 rfl (by omega) (by decide) dX7_dollsOf_26 ?_
        refine tope (y := nI (ln a i)) (congrArg nI (hM.l (by omega))) ?_
        refine nv_icmp_ge (tgt := 76) hx hb dX7_dollsOf_27 (by decide) (by omega) (by omega) (fun c_27 => ?_) (fun c_27 => ?_)
        · refine lv_iinc (v := nI (i + 1)) (lv' := [(4, .int (nI (i + 1))), (0, .ref m0), (1, .int (nI k)), (2, .int (nI 1)), (3, .int (nI y)), (5, .int (nI j))]) hx hb dX7_dollsOf_76 hl (k := 4) rfl (nI_add _ _) (by decide) rfl (fun ls hl => ?_)
          refine lv_goto (tgt := 5) hx hb dX7_dollsOf_79 (by decide) ?_
          exact ih_5 _ (by omega) (i + 1) y _ _ _ rfl (by omega) (by rw [hy_, show j = ln a i by omega, hx_]; rfl) hP hD hS (lv_sub hl [1, 2, 3, 4, 0] rfl)
        · have hd_ := hV.d (q := j) c_9 (by omega)
          refine lv_iload_n hx hb dX7_dollsOf_30 rfl (lv_at hl 3 rfl) ?_
          refine lv_aload_n hx hb dX7_dollsOf_31 rfl (lv_at hl 0 rfl) ?_
          refine lv_iload hx hb dX7_dollsOf_32 (lv_at hl 4 rfl) ?_
          refine lv_iload hx hb dX7_dollsOf_34 (lv_at hl 5 rfl) ?_
          refine call_r (q := (RX7, TX7, 14)) (As := [.int (nI i), .int (nI j)]) (rest := [.int (nI y)]) F (c_X7_dollAt l D cA m0 m1 fs a M i j (hV) (hM) (by omega) (by omega)) (cwV 2 hts gX7_dollsOf_X7_dollAt rfl rfl rfl ydv_X7_dollAt ⟨Nat.le_of_ble_eq_true rfl, Nat.le_of_ble_eq_true rfl⟩) hK hR hP hD hA hS [0, 1] rfl rfl 0 7 rfl rfl rfl hl.1 rfl (Nat.le_of_ble_eq_true rfl) dX7_dollsOf_36 ⟨Nat.zero_le _, Nat.zero_le _⟩ (fun H locs hP hS => ?_)
          refine lv_iconst (v := nI 2) hx hb dX7_dollsOf_39 (by decide) ?_
          refine nv_idiv hx hb dX7_dollsOf_40 (by omega) (by decide) (by decide) ?_
          refine lv_iload_n hx hb dX7_dollsOf_41 rfl (lv_at hl 1 rfl) ?_
          refine nv_icmp_ne (tgt := 67) hx hb dX7_dollsOf_42 (by decide) (by omega) (by omega) (fun c_42 => ?_) (fun c_42 => ?_)
          · refine lv_iconst (v := nI 0) hx hb dX7_dollsOf_67 (by decide) ?_
            refine nv_iadd hx hb dX7_dollsOf_68 ?_
            refine lv_istore_n (lv' := [(3, .int (nI (y + 0))), (0, .ref m0), (1, .int (nI k)), (2, .int (nI 1)), (4, .int (nI i)), (5, .int (nI j))]) hx hb dX7_dollsOf_69 rfl hl (by decide) rfl (fun ls hl => ?_)
            refine lv_iinc (v := nI (j + 1)) (lv' := [(5, .int (nI (j + 1))), (3, .int (nI (y + 0))), (0, .ref m0), (1, .int (nI k)), (2, .int (nI 1)), (4, .int (nI i))]) hx hb dX7_dollsOf_70 hl (k := 5) rfl (nI_add _ _) (by decide) rfl (fun ls hl => ?_)
            refine lv_goto (tgt := 15) hx hb dX7_dollsOf_73 (by decide) ?_
            exact ih_15 _ (by omega) (j + 1) (y + 0) _ _ _ rfl (by omega) (by rw [hy_]; simp only [sumN]; simp [b2n, c_42] <;> omega) hP hD hS (lv_sub hl [2, 3, 4, 1, 5, 0] rfl)
          · refine lv_iload_n hx hb dX7_dollsOf_45 rfl (lv_at hl 2 rfl) ?_
            refine nv_if_eq (tgt := 63) hx hb dX7_dollsOf_46 (by decide) (by decide) (fun c_46 => absurd c_46 (by decide)) (fun c_46 => ?_)
            refine lv_aload_n hx hb dX7_dollsOf_49 rfl (lv_at hl 0 rfl) ?_
            refine lv_iload hx hb dX7_dollsOf_50 (lv_at hl 4 rfl) ?_
            refine lv_iload hx hb dX7_dollsOf_52 (lv_at hl 5 rfl) ?_
            refine call_r (q := (RX7, TX7, 14)) (As := [.int (nI i), .int (nI j)]) (rest := [.int (nI y)]) F (c_X7_dollAt l D cA m0 m1 fs a M i j (hV) (hM) (by omega) (by omega)) (cwV 2 hts gX7_dollsOf_X7_dollAt rfl rfl rfl ydv_X7_dollAt ⟨Nat.le_of_ble_eq_true rfl, Nat.le_of_ble_eq_true rfl⟩) hK hR hP hD hA hS [0, 1] rfl rfl 0 7 rfl rfl rfl hl.1 rfl (Nat.le_of_ble_eq_true rfl) dX7_dollsOf_54 ⟨Nat.zero_le _, Nat.zero_le _⟩ (fun H locs hP hS => ?_)
            refine lv_iconst (v := nI 2) hx hb dX7_dollsOf_57 (by decide) ?_
            refine nv_irem hx hb dX7_dollsOf_58 (by omega) (by decide) (by decide) ?_
            refine lv_iconst (v := nI 1) hx hb dX7_dollsOf_59 (by decide) ?_
            refine nv_icmp_ne (tgt := 67) hx hb dX7_dollsOf_60 (by decide) (by omega) (by decide) (fun c_60 => ?_) (fun c_60 => ?_)
            · refine lv_iconst (v := nI 0) hx hb dX7_dollsOf_67 (by decide) ?_
              refine nv_iadd hx hb dX7_dollsOf_68 ?_
              refine lv_istore_n (lv' := [(3, .int (nI (y + 0))), (0, .ref m0), (1, .int (nI k)), (2, .int (nI 1)), (4, .int (nI i)), (5, .int (nI j))]) hx hb dX7_dollsOf_69 rfl hl (by decide) rfl (fun ls hl => ?_)
              refine lv_iinc (v := nI (j + 1)) (lv' := [(5, .int (nI (j + 1))), (3, .int (nI (y + 0))), (0, .ref m0), (1, .int (nI k)), (2, .int (nI 1)), (4, .int (nI i))]) hx hb dX7_dollsOf_70 hl (k := 5) rfl (nI_add _ _) (by decide) rfl (fun ls hl => ?_)
              refine lv_goto (tgt := 15) hx hb dX7_dollsOf_73 (by decide) ?_
              exact ih_15 _ (by omega) (j + 1) (y + 0) _ _ _ rfl (by omega) (by rw [hy_]; simp only [sumN]; simp [b2n, eq_true c_42, c_60] <;> omega) hP hD hS (lv_sub hl [2, 3, 4, 1, 5, 0] rfl)
            · refine lv_iconst (v := nI 1) hx hb dX7_dollsOf_63 (by decide) ?_
              refine lv_goto (tgt := 68) hx hb dX7_dollsOf_64 (by decide) ?_
              refine nv_iadd hx hb dX7_dollsOf_68 ?_
              refine lv_istore_n (lv' := [(3, .int (nI (y + 1))), (0, .ref m0), (1, .int (nI k)), (2, .int (nI 1)), (4, .int (nI i)), (5, .int (nI j))]) hx hb dX7_dollsOf_69 rfl hl (by decide) rfl (fun ls hl => ?_)
              refine lv_iinc (v := nI (j + 1)) (lv' := [(5, .int (nI (j + 1))), (3, .int (nI (y + 1))), (0, .ref m0), (1, .int (nI k)), (2, .int (nI 1)), (4, .int (nI i))]) hx hb dX7_dollsOf_70 hl (k := 5) rfl (nI_add _ _) (by decide) rfl (fun ls hl => ?_)
              refine lv_goto (tgt := 15) hx hb dX7_dollsOf_73 (by decide) ?_
              exact ih_15 _ (by omega) (j + 1) (y + 1) _ _ _ rfl (by omega) (by rw [hy_]; simp only [sumN]; simp [b2n, eq_true c_42, eq_true c_60] <;> omega) hP hD hS (lv_sub hl [2, 3, 4, 1, 5, 0] rfl)
      exact LP_15 _ 0 x _ _ _ rfl (by omega) (rfl) hP hD hS (lv_sub hl [1, 2, 3, 4, 5, 0] rfl)
  exact LP_5 _ 0 0 _ _ _ rfl (by omega) (rfl) hP hD hS (lv_sub hl [2, 3, 4, 1, 0] rfl)
abbrev rm_X7_kindsIn : Room := { frames := 1, cells := 0, slots := 0, locals := 22 }
theorem ydv_X7_kindsIn : yX7_kindsIn.cls = RX7 ∧ yX7_kindsIn.cls ≠ "java/lang/invoke/MethodHandle" ∧ yX7_kindsIn.cls ≠ "java/lang/invoke/VarHandle" ∧ (parseMethodDescriptor yX7_kindsIn.desc).map (fun d => d.parameters.length) = some 1 := by decide +kernel
theorem inf_X7_kindsIn_X7 : ∀ w ∈ wsX70, w ∈ wsX7_kindsIn := fun w h => List.mem_cons_of_mem _ (List.mem_append_right _ (h))
set_option maxHeartbeats 4000000 in
set_option maxRecDepth 100000 in
theorem c_X7_kindsIn (l : Launch) (D : va_G) (cA : ClassId) (m0 m1 : Nat) (fs : List Value) (a M : Nat → Nat) (g : Nat) (hV : Vd a) (hM : Rl a M) (hg : g < 8) : RO l D cA yX7_kindsIn wsX7_kindsIn rm_X7_kindsIn [.ref m0, .int (nI g)] [(m0, .inr (7, .ref m1 :: fs)), (m1, .inl (cA, 286, .inl (nF M)))] (nI (kdsIn a g)) := by
  refine ofWi (cc := cX7_kindsIn) (maxL := 4) (rt := .int) (by decide) rfl (Nat.le_of_ble_eq_true rfl) ?_
  intro p e s m args below meth c Q A ls F hK hR hP hD hA hS hl RET
  obtain ⟨hx, hb, hml, hown, hts⟩ := id F
  have hl : lv_has ls 4 [(0, .ref m0), (1, .int (nI g))] := hl
  have hl32 := hV.l hg
  refine lv_iconst (v := nI 0) hx hb dX7_kindsIn_0 (by decide) ?_
  refine lv_istore_n (lv' := [(2, .int (nI 0)), (0, .ref m0), (1, .int (nI g))]) hx hb dX7_kindsIn_1 rfl hl (by decide) rfl (fun ls hl => ?_)
  refine lv_iconst (v := nI 0) hx hb dX7_kindsIn_2 (by decide) ?_
  refine lv_istore_n (lv' := [(3, .int (nI 0)), (2, .int (nI 0)), (0, .ref m0), (1, .int (nI g))]) hx hb dX7_kindsIn_3 rfl hl (by decide) rfl (fun ls hl => ?_)
  have LP_4 : ∀ (k_4 : Nat) (i : Nat) (x : Nat) (H : Heap) (locs : List Loc) (ls : Array Slot), ln a g - i = k_4 → (i ≤ ln a g) → (x = orN (fun j => 2 ^ (dl a g j / 2)) i) → va_P D vwCl [] H → va_D A [] → va_S A s.heap H locs → lv_has ls 4 [(0, .ref m0), (1, .int (nI g)), (2, .int (nI x)), (3, .int (nI i))] → W p l e rm_X7_kindsIn s m args below meth c H locs 0 0 Q (F0 m 4 ls []) := by
    refine sind (fun k_4 ih_4 => ?_)
    intro i x H locs ls hk_4 hi hs_ hP hD hS hl
    refine lv_iload_n hx hb dX7_kindsIn_4 rfl (lv_at hl 3 rfl) ?_
    refine lv_aload_n hx hb dX7_kindsIn_5 rfl (lv_at hl 0 rfl) ?_
    refine va_get (D := D) (cl := vwCl) (ci := 7) (v := .ref m1) (C := RX7) (T := TX7) (N := 14) hx hb hts inf_X7_kindsIn_X7 hown hK.1 (hR.at hS) 0 rfl rfl 0 (by decide) (hts _ (List.mem_of_getElem? (i := 1) rfl)) (fun _ h9 => h9) rfl dX7_kindsIn_6 ?_
    refine lv_bipush (v := nI 22) hx hb dX7_kindsIn_9 (by decide) ?_
    refine lv_iload_n hx hb dX7_kindsIn_11 rfl (lv_at hl 1 rfl) ?_
    refine nv_iadd hx hb dX7_kindsIn_12 ?_
    refine nv_iald (a := M) hx hb hK (hR.at hS) 1 rfl (by omega) (by decide) dX7_kindsIn_13 ?_
    refine tope (y := nI (ln a g)) (congrArg nI (hM.l (by omega))) ?_
    refine nv_icmp_ge (tgt := 36) hx hb dX7_kindsIn_14 (by decide) (by omega) (by omega) (fun c_14 => ?_) (fun c_14 => ?_)
    · refine lv_iload_n hx hb dX7_kindsIn_36 rfl (lv_at hl 2 rfl) ?_
      refine tope (y := nI (kdsIn a g)) (by rw [hs_, show i = ln a g by omega]; rfl) ?_
      exact RET _ _ _ _ _ () dX7_kindsIn_37 rfl rfl hP hS
    · have hd_ := hV.d (q := i) hg (by omega)
      refine lv_iload_n hx hb dX7_kindsIn_17 rfl (lv_at hl 2 rfl) ?_
      refine lv_iconst (v := nI 1) hx hb dX7_kindsIn_18 (by decide) ?_
      refine lv_aload_n hx hb dX7_kindsIn_19 rfl (lv_at hl 0 rfl) ?_
      refine lv_iload_n hx hb dX7_kindsIn_20 rfl (lv_at hl 1 rfl) ?_
      refine lv_iload_n hx hb dX7_kindsIn_21 rfl (lv_at hl 3 rfl) ?_
      refine call_r (q := (RX7, TX7, 14)) (As := [.int (nI g), .int (nI i)]) (rest := [.int (nI 1), .int (nI x)]) F (c_X7_dollAt l D cA m0 m1 fs a M g i (hV) (hM) (by omega) (by omega)) (cwV 2 hts gX7_kindsIn_X7_dollAt rfl rfl rfl ydv_X7_dollAt ⟨Nat.le_of_ble_eq_true rfl, Nat.le_of_ble_eq_true rfl⟩) hK hR hP hD hA hS [0, 1] rfl rfl 0 7 rfl rfl rfl hl.1 rfl (Nat.le_of_ble_eq_true rfl) dX7_kindsIn_22 ⟨Nat.zero_le _, Nat.zero_le _⟩ (fun H locs hP hS => ?_)
      refine lv_iconst (v := nI 2) hx hb dX7_kindsIn_25 (by decide) ?_
      refine nv_idiv hx hb dX7_kindsIn_26 (by omega) (by decide) (by decide) ?_
      refine nv_ishl1 hx hb dX7_kindsIn_27 (by omega) ?_
      refine nv_ior hx hb dX7_kindsIn_28 ?_
      refine lv_istore_n (lv' := [(2, .int (nI (x ||| (2 ^ ((dl a g i) / 2))))), (0, .ref m0), (1, .int (nI g)), (3, .int (nI i))]) hx hb dX7_kindsIn_29 rfl hl (by decide) rfl (fun ls hl => ?_)
      refine lv_iinc (v := nI (i + 1)) (lv' := [(3, .int (nI (i + 1))), (2, .int (nI (x ||| (2 ^ ((dl a g i) / 2))))), (0, .ref m0), (1, .int (nI g))]) hx hb dX7_kindsIn_30 hl (k := 3) rfl (nI_add _ _) (by decide) rfl (fun ls hl => ?_)
      refine lv_goto (tgt := 4) hx hb dX7_kindsIn_33 (by decide) ?_
      exact ih_4 _ (by omega) (i + 1) (x ||| (2 ^ ((dl a g i) / 2))) _ _ _ rfl (by omega) (by rw [hs_]; rfl) hP hD hS (lv_sub hl [2, 3, 1, 0] rfl)
  exact LP_4 _ 0 0 _ _ _ rfl (by omega) (rfl) hP hD hS (lv_sub hl [2, 3, 1, 0] rfl)
abbrev rm_X7_repeatOf : Room := { frames := 1, cells := 0, slots := 0, locals := 22 }
theorem ydv_X7_repeatOf : yX7_repeatOf.cls = RX7 ∧ yX7_repeatOf.cls ≠ "java/lang/invoke/MethodHandle" ∧ yX7_repeatOf.cls ≠ "java/lang/invoke/VarHandle" ∧ (parseMethodDescriptor yX7_repeatOf.desc).map (fun d => d.parameters.length) = some 1 := by decide +kernel
theorem inf_X7_repeatOf_X7 : ∀ w ∈ wsX70, w ∈ wsX7_repeatOf := fun w h => List.mem_cons_of_mem _ (List.mem_append_right _ (h))
set_option maxHeartbeats 4000000 in
set_option maxRecDepth 100000 in
theorem c_X7_repeatOf (l : Launch) (D : va_G) (cA : ClassId) (m0 m1 : Nat) (fs : List Value) (a M : Nat → Nat) (g : Nat) (hV : Vd a) (hM : Rl a M) (hg : g < 8) (h0_ : 0 < ln a g) : RO l D cA yX7_repeatOf wsX7_repeatOf rm_X7_repeatOf [.ref m0, .int (nI g)] [(m0, .inr (7, .ref m1 :: fs)), (m1, .inl (cA, 286, .inl (nF M)))] (nI (repO a g)) := by
  refine ofWi (cc := cX7_repeatOf) (maxL := 5) (rt := .int) (by decide) rfl (Nat.le_of_ble_eq_true rfl) ?_
  intro p e s m args below meth c Q A ls F hK hR hP hD hA hS hl RET
  obtain ⟨hx, hb, hml, hown, hts⟩ := id F
  have hl : lv_has ls 5 [(0, .ref m0), (1, .int (nI g))] := hl
  have hl32 := hV.l hg
  refine lv_iconst (v := nI 0) hx hb dX7_repeatOf_0 (by decide) ?_
  refine lv_istore_n (lv' := [(2, .int (nI 0)), (0, .ref m0), (1, .int (nI g))]) hx hb dX7_repeatOf_1 rfl hl (by decide) rfl (fun ls hl => ?_)
  refine lv_iconst (v := nI 0) hx hb dX7_repeatOf_2 (by decide) ?_
  refine lv_istore_n (lv' := [(3, .int (nI 0)), (2, .int (nI 0)), (0, .ref m0), (1, .int (nI g))]) hx hb dX7_repeatOf_3 rfl hl (by decide) rfl (fun ls hl => ?_)
  have LP_4 : ∀ (k_4 : Nat) (b : Nat) (v : Bool) (H : Heap) (locs : List Loc) (ls : Array Slot), ln a g - b = k_4 → (b ≤ ln a g) → (∀ j, 1 ≤ j → j < b → repB a g j = false) → ((b = 0 ∧ v = false) ∨ (1 ≤ b ∧ repB a g b = v)) → va_P D vwCl [] H → va_D A [] → va_S A s.heap H locs → lv_has ls 5 [(0, .ref m0), (1, .int (nI g)), (2, .int (nI b)), (3, .int (bI v))] → W p l e rm_X7_repeatOf s m args below meth c H locs 0 0 Q (F0 m 4 ls []) := by
    refine sind (fun k_4 ih_4 => ?_)
    intro b v H locs ls hk_4 hb0_ hz_ hv2_ hP hD hS hl
    refine lv_iload_n hx hb dX7_repeatOf_4 rfl (lv_at hl 3 rfl) ?_
    refine bv_if_ne (tgt := 68) hx hb dX7_repeatOf_5 (by decide) (fun c_5 => ?_) (fun c_5 => ?_)
    · refine lv_iload_n hx hb dX7_repeatOf_68 rfl (lv_at hl 2 rfl) ?_
      refine tope (y := nI (repO a g)) (by rw [show repO a g = b from (by rcases hv2_ with q_ | q_; exact absurd (q_.2.symm.trans c_5) (by decide); exact lst_eq (ln a g - 1) 1 b q_.1 (by omega) hz_ (fun _ => q_.2.trans c_5))]) ?_
      exact RET _ _ _ _ _ () dX7_repeatOf_69 rfl rfl hP hS
    · have hlt_ : b < ln a g := by rcases Nat.lt_or_ge b (ln a g) with h_ | h_; exact h_; exact absurd (show repB a g b = true from allB_t (fun j hj => absurd hj (by omega))) (by rcases hv2_ with q_ | q_; omega; rw [q_.2, c_5]; decide)
      refine lv_iinc (v := nI (b + 1)) (lv' := [(2, .int (nI (b + 1))), (0, .ref m0), (1, .int (nI g)), (3, .int (bI v))]) hx hb dX7_repeatOf_8 hl (k := 2) rfl (nI_add _ _) (by decide) rfl (fun ls hl => ?_)
      refine lv_iconst (v := nI 1) hx hb dX7_repeatOf_11 (by decide) ?_
      refine lv_istore_n (lv' := [(3, .int (nI 1)), (2, .int (nI (b + 1))), (0, .ref m0), (1, .int (nI g))]) hx hb dX7_repeatOf_12 rfl hl (by decide) rfl (fun ls hl => ?_)
      refine lv_iload_n hx hb dX7_repeatOf_13 rfl (lv_at hl 1 rfl) ?_
      refine lv_istore (lv' := [(4, .int (nI (b + 1))), (3, .int (nI 1)), (2, .int (nI (b + 1))), (0, .ref m0), (1, .int (nI g))]) hx hb dX7_repeatOf_14 hl (by decide) rfl (fun ls hl => ?_)
      have LP_16 : ∀ (k_16 : Nat) (j : Nat) (w : Bool) (H : Heap) (locs : List Loc) (ls : Array Slot), ln a g - (b + 1 + j) = k_16 → (b + 1 + j ≤ ln a g) → (w = allB (fun j => decide (dl a g (b + 1 + j) = dl a g (b + 1 + j - (b + 1)))) j) → va_P D vwCl [] H → va_D A [] → va_S A s.heap H locs → lv_has ls 5 [(0, .ref m0), (1, .int (nI g)), (2, .int (nI (b + 1))), (3, .int (bI w)), (4, .int (nI (b + 1 + j)))] → W p l e rm_X7_repeatOf s m args below meth c H locs 0 0 Q (F0 m 16 ls []) := by
        refine sind (fun k_16 ih_16 => ?_)
        intro j w H locs ls hk_16 hj hw_ hP hD hS hl
        refine lv_iload hx hb dX7_repeatOf_16 (lv_at hl 4 rfl) ?_
        refine lv_aload_n hx hb dX7_repeatOf_18 rfl (lv_at hl 0 rfl) ?_
        refine va_get (D := D) (cl := vwCl) (ci := 7) (v := .ref m1) (C := RX7) (T := TX7) (N := 14) hx hb hts inf_X7_repeatOf_X7 hown hK.1 (hR.at hS) 0 rfl rfl 0 (by decide) (hts _ (List.mem_of_getElem? (i := 1) rfl)) (fun _ h9 => h9) rfl dX7_repeatOf_19 ?_
        refine lv_bipush (v := nI 22) hx hb dX7_repeatOf_22 (by decide) ?_
        refine lv_iload_n hx hb dX7_repeatOf_24 rfl (lv_at hl 1 rfl) ?_
        refine nv_iadd hx hb dX7_repeatOf_25 ?_
        refine nv_iald (a := M) hx hb hK (hR.at hS) 1 rfl (by omega) (by decide) dX7_repeatOf_26 ?_
        refine tope (y := nI (ln a g)) (congrArg nI (hM.l (by omega))) ?_
        refine nv_icmp_ge (tgt := 65) hx hb dX7_repeatOf_27 (by decide) (by omega) (by omega) (fun c_27 => ?_) (fun c_27 => ?_)
        · refine lv_goto (tgt := 4) hx hb dX7_repeatOf_65 (by decide) ?_
          exact ih_4 _ (by omega) (b + 1) w _ _ _ rfl (by omega) (fun j h1_ hj => by by_cases e_ : j = b; (subst e_; rcases hv2_ with h_ | h_; omega; exact h_.2.trans c_5); exact hz_ j h1_ (by omega)) (Or.inr ⟨by omega, (by rw [hw_, show j = ln a g - (b + 1) by omega]; rfl)⟩) hP hD hS (lv_sub hl [0, 1, 2, 3] rfl)
        · have hd_ := hV.d (q := b + 1 + j) hg (by omega)
          have hd2_ := hV.d (q := b + 1 + j - (b + 1)) hg (by omega)
          refine lv_iload_n hx hb dX7_repeatOf_30 rfl (lv_at hl 3 rfl) ?_
          refine bv_if_eq (tgt := 57) hx hb dX7_repeatOf_31 (by decide) (fun c_31 => ?_) (fun c_31 => ?_)
          · refine lv_iconst (v := nI 0) hx hb dX7_repeatOf_57 (by decide) ?_
            refine lv_istore_n (lv' := [(3, .int (nI 0)), (0, .ref m0), (1, .int (nI g)), (2, .int (nI (b + 1))), (4, .int (nI (b + 1 + j)))]) hx hb dX7_repeatOf_58 rfl hl (by decide) rfl (fun ls hl => ?_)
            refine lv_iinc (v := nI ((b + 1 + j) + 1)) (lv' := [(4, .int (nI ((b + 1 + j) + 1))), (3, .int (nI 0)), (0, .ref m0), (1, .int (nI g)), (2, .int (nI (b + 1)))]) hx hb dX7_repeatOf_59 hl (k := 4) rfl (nI_add _ _) (by decide) rfl (fun ls hl => ?_)
            refine lv_goto (tgt := 16) hx hb dX7_repeatOf_62 (by decide) ?_
            exact ih_16 _ (by omega) (j + 1) false _ _ _ rfl (by omega) (by simp only [allB]; rw [← hw_]; first | (simp only [c_31, decide_eq_true c_50, Bool.true_and]; done) | (simp only [c_31, decide_eq_false c_50, Bool.true_and]; done) | (simp only [c_31, Bool.false_and]; done)) hP hD hS (lv_sub hl [2, 3, 4, 1, 0] rfl)
          · refine lv_aload_n hx hb dX7_repeatOf_34 rfl (lv_at hl 0 rfl) ?_
            refine lv_iload_n hx hb dX7_repeatOf_35 rfl (lv_at hl 1 rfl) ?_
            refine lv_iload hx hb dX7_repeatOf_36 (lv_at hl 4 rfl) ?_
            refine call_r (q := (RX7, TX7, 14)) (As := [.int (nI g), .int (nI (b + 1 + j))]) (rest := []) F (c_X7_dollAt l D cA m0 m1 fs a M g (b + 1 + j) (hV) (hM) (by omega) (by omega)) (cwV 2 hts gX7_repeatOf_X7_dollAt rfl rfl rfl ydv_X7_dollAt ⟨Nat.le_of_ble_eq_true rfl, Nat.le_of_ble_eq_true rfl⟩) hK hR hP hD hA hS [0, 1] rfl rfl 0 7 rfl rfl rfl hl.1 rfl (Nat.le_of_ble_eq_true rfl) dX7_repeatOf_38 ⟨Nat.zero_le _, Nat.zero_le _⟩ (fun H locs hP hS => ?_)
            refine lv_aload_n hx hb dX7_repeatOf_41 rfl (lv_at hl 0 rfl) ?_
            refine lv_iload_n hx hb dX7_repeatOf_42 rfl (lv_at hl 1 rfl) ?_
            refine lv_iload hx hb dX7_repeatOf_43 (lv_at hl 4 rfl) ?_
            refine lv_iload_n hx hb dX7_repeatOf_45 rfl (lv_at hl 2 rfl) ?_
            refine nv_isub hx hb dX7_repeatOf_46 (by omega) ?_
            refine call_r (q := (RX7, TX7, 14)) (As := [.int (nI g), .int (nI ((b + 1 + j) - (b + 1)))]) (rest := [.int (nI (dl a g (b + 1 + j)))]) F (c_X7_dollAt l D cA m0 m1 fs a M g ((b + 1 + j) - (b + 1)) (hV) (hM) (by omega) (by omega)) (cwV 2 hts gX7_repeatOf_X7_dollAt rfl rfl rfl ydv_X7_dollAt ⟨Nat.le_of_ble_eq_true rfl, Nat.le_of_ble_eq_true rfl⟩) hK hR hP hD hA hS [0, 1] rfl rfl 0 7 rfl rfl rfl hl.1 rfl (Nat.le_of_ble_eq_true rfl) dX7_repeatOf_47 ⟨Nat.zero_le _, Nat.zero_le _⟩ (fun H locs hP hS => ?_)
            refine nv_icmp_ne (tgt := 57) hx hb dX7_repeatOf_50 (by decide) (by omega) (by omega) (fun c_50 => ?_) (fun c_50 => ?_)
            · refine lv_iconst (v := nI 0) hx hb dX7_repeatOf_57 (by decide) ?_
              refine lv_istore_n (lv' := [(3, .int (nI 0)), (0, .ref m0), (1, .int (nI g)), (2, .int (nI (b + 1))), (4, .int (nI (b + 1 + j)))]) hx hb dX7_repeatOf_58 rfl hl (by decide) rfl (fun ls hl => ?_)
              refine lv_iinc (v := nI ((b + 1 + j) + 1)) (lv' := [(4, .int (nI ((b + 1 + j) + 1))), (3, .int (nI 0)), (0, .ref m0), (1, .int (nI g)), (2, .int (nI (b + 1)))]) hx hb dX7_repeatOf_59 hl (k := 4) rfl (nI_add _ _) (by decide) rfl (fun ls hl => ?_)
              refine lv_goto (tgt := 16) hx hb dX7_repeatOf_62 (by decide) ?_
              exact ih_16 _ (by omega) (j + 1) false _ _ _ rfl (by omega) (by simp only [allB]; rw [← hw_]; first | (simp only [c_31, decide_eq_true c_50, Bool.true_and]; done) | (simp only [c_31, decide_eq_false c_50, Bool.true_and]; done) | (simp only [c_31, Bool.false_and]; done)) hP hD hS (lv_sub hl [2, 3, 4, 1, 0] rfl)
            · refine lv_iconst (v := nI 1) hx hb dX7_repeatOf_53 (by decide) ?_
              refine lv_goto (tgt := 58) hx hb dX7_repeatOf_54 (by decide) ?_
              refine lv_istore_n (lv' := [(3, .int (nI 1)), (0, .ref m0), (1, .int (nI g)), (2, .int (nI (b + 1))), (4, .int (nI (b + 1 + j)))]) hx hb dX7_repeatOf_58 rfl hl (by decide) rfl (fun ls hl => ?_)
              refine lv_iinc (v := nI ((b + 1 + j) + 1)) (lv' := [(4, .int (nI ((b + 1 + j) + 1))), (3, .int (nI 1)), (0, .ref m0), (1, .int (nI g)), (2, .int (nI (b + 1)))]) hx hb dX7_repeatOf_59 hl (k := 4) rfl (nI_add _ _) (by decide) rfl (fun ls hl => ?_)
              refine lv_goto (tgt := 16) hx hb dX7_repeatOf_62 (by decide) ?_
              exact ih_16 _ (by omega) (j + 1) true _ _ _ rfl (by omega) (by simp only [allB]; rw [← hw_]; first | (simp only [c_31, decide_eq_true c_50, Bool.true_and]; done) | (simp only [c_31, decide_eq_false c_50, Bool.true_and]; done) | (simp only [c_31, Bool.false_and]; done)) hP hD hS (lv_sub hl [2, 3, 4, 1, 0] rfl)
      exact LP_16 _ 0 true _ _ _ rfl (by omega) (rfl) hP hD hS (lv_sub hl [3, 4, 2, 1, 0] rfl)
  exact LP_4 _ 0 false _ _ _ rfl (by omega) (fun j h1_ h2_ => absurd h2_ (by omega)) (Or.inl ⟨rfl, rfl⟩) hP hD hS (lv_sub hl [2, 3, 1, 0] rfl)
abbrev rm_X7_firstLike : Room := { frames := 3, cells := 0, slots := 0, locals := 69 }
theorem ydv_X7_firstLike : yX7_firstLike.cls = RX7 ∧ yX7_firstLike.cls ≠ "java/lang/invoke/MethodHandle" ∧ yX7_firstLike.cls ≠ "java/lang/invoke/VarHandle" ∧ (parseMethodDescriptor yX7_firstLike.desc).map (fun d => d.parameters.length) = some 1 := by decide +kernel
set_option maxHeartbeats 4000000 in
set_option maxRecDepth 100000 in
theorem c_X7_firstLike (l : Launch) (D : va_G) (cA : ClassId) (m0 m1 : Nat) (fs : List Value) (a M : Nat → Nat) (g : Nat) (hV : Vd a) (hM : Rl a M) (hg : g < 8) : RO l D cA yX7_firstLike wsX7_firstLike rm_X7_firstLike [.ref m0, .int (nI g)] [(m0, .inr (7, .ref m1 :: fs)), (m1, .inl (cA, 286, .inl (nF M)))] (nI (lowA a g)) := by
  refine ofWi (cc := cX7_firstLike) (maxL := 3) (rt := .int) (by decide) rfl (Nat.le_of_ble_eq_true rfl) ?_
  intro p e s m args below meth c Q A ls F hK hR hP hD hA hS hl RET
  obtain ⟨hx, hb, hml, hown, hts⟩ := id F
  have hl : lv_has ls 3 [(0, .ref m0), (1, .int (nI g))] := hl
  refine lv_iconst (v := nI 0) hx hb dX7_firstLike_0 (by decide) ?_
  refine lv_istore_n (lv' := [(2, .int (nI 0)), (0, .ref m0), (1, .int (nI g))]) hx hb dX7_firstLike_1 rfl hl (by decide) rfl (fun ls hl => ?_)
  have LP_2 : ∀ (k_2 : Nat) (i : Nat) (H : Heap) (locs : List Loc) (ls : Array Slot), g + 1 - i = k_2 → (i ≤ g) → (∀ j, j < i → (same a g j || mird a g j) = false) → va_P D vwCl [] H → va_D A [] → va_S A s.heap H locs → lv_has ls 3 [(0, .ref m0), (1, .int (nI g)), (2, .int (nI i))] → W p l e rm_X7_firstLike s m args below meth c H locs 0 0 Q (F0 m 2 ls []) := by
    refine sind (fun k_2 ih_2 => ?_)
    intro i H locs ls hk_2 hi hz hP hD hS hl
    refine lv_aload_n hx hb dX7_firstLike_2 rfl (lv_at hl 0 rfl) ?_
    refine lv_iload_n hx hb dX7_firstLike_3 rfl (lv_at hl 2 rfl) ?_
    refine lv_iload_n hx hb dX7_firstLike_4 rfl (lv_at hl 1 rfl) ?_
    refine lv_iconst (v := nI 0) hx hb dX7_firstLike_5 (by decide) ?_
    refine call_r (q := (RX7, TX7, 14)) (As := [.int (nI i), .int (nI g), .int (nI 0)]) (rest := []) F (c_X7_isLike0 l D cA m0 m1 fs a M i g (hV) (hM) (by omega) (by omega)) (cwV 3 hts gX7_firstLike_X7_isLike rfl rfl rfl ydv_X7_isLike ⟨Nat.le_of_ble_eq_true rfl, Nat.le_of_ble_eq_true rfl⟩) hK hR hP hD hA hS [0, 1] rfl rfl 0 7 rfl rfl rfl hl.1 rfl (Nat.le_of_ble_eq_true rfl) dX7_firstLike_6 ⟨Nat.zero_le _, Nat.zero_le _⟩ (fun H locs hP hS => ?_)
    refine bv_if_ne (tgt := 28) hx hb dX7_firstLike_9 (by decide) (fun c_9 => ?_) (fun c_9 => ?_)
    · refine lv_iload_n hx hb dX7_firstLike_28 rfl (lv_at hl 2 rfl) ?_
      refine tope (y := nI (lowA a g)) (by rw [show lowA a g = i from lst_eq g 0 i (by omega) (by omega) (fun j _ hj => hz j hj) (fun _ => by rw [same_sym a g i, mird_sym a g i]; simp [c_9])]) ?_
      exact RET _ _ _ _ _ () dX7_firstLike_29 rfl rfl hP hS
    · refine lv_aload_n hx hb dX7_firstLike_12 rfl (lv_at hl 0 rfl) ?_
      refine lv_iload_n hx hb dX7_firstLike_13 rfl (lv_at hl 2 rfl) ?_
      refine lv_iload_n hx hb dX7_firstLike_14 rfl (lv_at hl 1 rfl) ?_
      refine lv_iconst (v := nI 1) hx hb dX7_firstLike_15 (by decide) ?_
      refine call_r (q := (RX7, TX7, 14)) (As := [.int (nI i), .int (nI g), .int (nI 1)]) (rest := []) F (c_X7_isLike1 l D cA m0 m1 fs a M i g (hV) (hM) (by omega) (by omega)) (cwV 3 hts gX7_firstLike_X7_isLike rfl rfl rfl ydv_X7_isLike ⟨Nat.le_of_ble_eq_true rfl, Nat.le_of_ble_eq_true rfl⟩) hK hR hP hD hA hS [0, 1] rfl rfl 0 7 rfl rfl rfl hl.1 rfl (Nat.le_of_ble_eq_true rfl) dX7_firstLike_16 ⟨Nat.zero_le _, Nat.zero_le _⟩ (fun H locs hP hS => ?_)
      refine bv_if_ne (tgt := 28) hx hb dX7_firstLike_19 (by decide) (fun c_19 => ?_) (fun c_19 => ?_)
      · refine lv_iload_n hx hb dX7_firstLike_28 rfl (lv_at hl 2 rfl) ?_
        refine tope (y := nI (lowA a g)) (by rw [show lowA a g = i from lst_eq g 0 i (by omega) (by omega) (fun j _ hj => hz j hj) (fun _ => by rw [same_sym a g i, mird_sym a g i]; simp [c_9, c_19])]) ?_
        exact RET _ _ _ _ _ () dX7_firstLike_29 rfl rfl hP hS
      · refine lv_iinc (v := nI (i + 1)) (lv' := [(2, .int (nI (i + 1))), (0, .ref m0), (1, .int (nI g))]) hx hb dX7_firstLike_22 hl (k := 2) rfl (nI_add _ _) (by decide) rfl (fun ls hl => ?_)
        refine lv_goto (tgt := 2) hx hb dX7_firstLike_25 (by decide) ?_
        exact ih_2 _ (by omega) (i + 1) _ _ _ rfl (by rcases Nat.lt_or_ge i g with h_ | h_; omega; exact absurd (same_self a g) (by rw [show i = g by omega] at c_9; rw [c_9]; decide)) (fun j hj => by by_cases e_ : j = i; (rw [e_]; exact (by rw [same_sym a g i, mird_sym a g i, c_9, c_19]; rfl)); exact hz j (by omega)) hP hD hS (lv_sub hl [1, 2, 0] rfl)
  exact LP_2 _ 0 _ _ _ rfl (by omega) (fun j h_ => absurd h_ (Nat.not_lt_zero j)) hP hD hS (lv_sub hl [1, 2, 0] rfl)
abbrev rm_X7_meeting : Room := { frames := 1, cells := 0, slots := 0, locals := 22 }
theorem ydv_X7_meeting : yX7_meeting.cls = RX7 ∧ yX7_meeting.cls ≠ "java/lang/invoke/MethodHandle" ∧ yX7_meeting.cls ≠ "java/lang/invoke/VarHandle" ∧ (parseMethodDescriptor yX7_meeting.desc).map (fun d => d.parameters.length) = some 1 := by decide +kernel
theorem inf_X7_meeting_X7 : ∀ w ∈ wsX70, w ∈ wsX7_meeting := fun w h => List.mem_cons_of_mem _ (List.mem_append_right _ (h))
set_option maxHeartbeats 4000000 in
set_option maxRecDepth 100000 in
theorem c_X7_meeting (l : Launch) (D : va_G) (cA : ClassId) (m0 m1 : Nat) (fs : List Value) (a M : Nat → Nat) (g : Nat) (hV : Vd a) (hM : Rl a M) (hg : g < 8) : RO l D cA yX7_meeting wsX7_meeting rm_X7_meeting [.ref m0, .int (nI g)] [(m0, .inr (7, .ref m1 :: fs)), (m1, .inl (cA, 286, .inl (nF M)))] (nI (meet a g)) := by
  refine ofWi (cc := cX7_meeting) (maxL := 4) (rt := .int) (by decide) rfl (Nat.le_of_ble_eq_true rfl) ?_
  intro p e s m args below meth c Q A ls F hK hR hP hD hA hS hl RET
  obtain ⟨hx, hb, hml, hown, hts⟩ := id F
  have hl : lv_has ls 4 [(0, .ref m0), (1, .int (nI g))] := hl
  have hl32 := hV.l hg
  refine lv_iconst (v := nI 0) hx hb dX7_meeting_0 (by decide) ?_
  refine lv_istore_n (lv' := [(2, .int (nI 0)), (0, .ref m0), (1, .int (nI g))]) hx hb dX7_meeting_1 rfl hl (by decide) rfl (fun ls hl => ?_)
  refine lv_iconst (v := nI 1) hx hb dX7_meeting_2 (by decide) ?_
  refine lv_istore_n (lv' := [(3, .int (nI 1)), (2, .int (nI 0)), (0, .ref m0), (1, .int (nI g))]) hx hb dX7_meeting_3 rfl hl (by decide) rfl (fun ls hl => ?_)
  have LP_4 : ∀ (k_4 : Nat) (j : Nat) (y : Nat) (H : Heap) (locs : List Loc) (ls : Array Slot), ln a g - (j + 1) = k_4 → (j = 0 ∨ j + 1 ≤ ln a g) → (y = sumN (fun j => b2n (!decide (hdR a (dl a g (j + 1 - 1)) = 0) && !decide (hdL a (dl a g (j + 1)) = 0))) j) → va_P D vwCl [] H → va_D A [] → va_S A s.heap H locs → lv_has ls 4 [(0, .ref m0), (1, .int (nI g)), (2, .int (nI y)), (3, .int (nI (j + 1)))] → W p l e rm_X7_meeting s m args below meth c H locs 0 0 Q (F0 m 4 ls []) := by
    refine sind (fun k_4 ih_4 => ?_)
    intro j y H locs ls hk_4 hj hy_ hP hD hS hl
    refine lv_iload_n hx hb dX7_meeting_4 rfl (lv_at hl 3 rfl) ?_
    refine lv_aload_n hx hb dX7_meeting_5 rfl (lv_at hl 0 rfl) ?_
    refine va_get (D := D) (cl := vwCl) (ci := 7) (v := .ref m1) (C := RX7) (T := TX7) (N := 14) hx hb hts inf_X7_meeting_X7 hown hK.1 (hR.at hS) 0 rfl rfl 0 (by decide) (hts _ (List.mem_of_getElem? (i := 1) rfl)) (fun _ h9 => h9) rfl dX7_meeting_6 ?_
    refine lv_bipush (v := nI 22) hx hb dX7_meeting_9 (by decide) ?_
    refine lv_iload_n hx hb dX7_meeting_11 rfl (lv_at hl 1 rfl) ?_
    refine nv_iadd hx hb dX7_meeting_12 ?_
    refine nv_iald (a := M) hx hb hK (hR.at hS) 1 rfl (by omega) (by decide) dX7_meeting_13 ?_
    refine tope (y := nI (ln a g)) (congrArg nI (hM.l (by omega))) ?_
    refine nv_icmp_ge (tgt := 61) hx hb dX7_meeting_14 (by decide) (by omega) (by omega) (fun c_14 => ?_) (fun c_14 => ?_)
    · refine lv_iload_n hx hb dX7_meeting_61 rfl (lv_at hl 2 rfl) ?_
      refine tope (y := nI (meet a g)) (by rw [hy_, show j = ln a g - 1 by omega]; rfl) ?_
      exact RET _ _ _ _ _ () dX7_meeting_62 rfl rfl hP hS
    · have hd_ := hV.d (q := j + 1 - 1) hg (by omega)
      have hd2_ := hV.d (q := j + 1) hg (by omega)
      have hh_ := hdR_lt hV hd_
      have hh2_ := hdL_lt hV hd2_
      refine lv_iload_n hx hb dX7_meeting_17 rfl (lv_at hl 2 rfl) ?_
      refine lv_aload_n hx hb dX7_meeting_18 rfl (lv_at hl 0 rfl) ?_
      refine lv_aload_n hx hb dX7_meeting_19 rfl (lv_at hl 0 rfl) ?_
      refine lv_iload_n hx hb dX7_meeting_20 rfl (lv_at hl 1 rfl) ?_
      refine lv_iload_n hx hb dX7_meeting_21 rfl (lv_at hl 3 rfl) ?_
      refine lv_iconst (v := nI 1) hx hb dX7_meeting_22 (by decide) ?_
      refine nv_isub hx hb dX7_meeting_23 (by omega) ?_
      refine call_r (q := (RX7, TX7, 14)) (As := [.int (nI g), .int (nI ((j + 1) - 1))]) (rest := [.ref m0, .int (nI y)]) F (c_X7_dollAt l D cA m0 m1 fs a M g ((j + 1) - 1) (hV) (hM) (by omega) (by omega)) (cwV 2 hts gX7_meeting_X7_dollAt rfl rfl rfl ydv_X7_dollAt ⟨Nat.le_of_ble_eq_true rfl, Nat.le_of_ble_eq_true rfl⟩) hK hR hP hD hA hS [0, 1] rfl rfl 0 7 rfl rfl rfl hl.1 rfl (Nat.le_of_ble_eq_true rfl) dX7_meeting_24 ⟨Nat.zero_le _, Nat.zero_le _⟩ (fun H locs hP hS => ?_)
      refine lv_iconst (v := nI 1) hx hb dX7_meeting_27 (by decide) ?_
      refine call_r (q := (RX7, TX7, 14)) (As := [.int (nI (dl a g ((j + 1) - 1))), .int (nI 1)]) (rest := [.int (nI y)]) F (c_X7_handOf1 l D cA m0 m1 fs a M (dl a g ((j + 1) - 1)) (hV) (hM) (by omega)) (cwV 2 hts gX7_meeting_X7_handOf rfl rfl rfl ydv_X7_handOf ⟨Nat.le_of_ble_eq_true rfl, Nat.le_of_ble_eq_true rfl⟩) hK hR hP hD hA hS [0, 1] rfl rfl 0 7 rfl rfl rfl hl.1 rfl (Nat.le_of_ble_eq_true rfl) dX7_meeting_28 ⟨Nat.zero_le _, Nat.zero_le _⟩ (fun H locs hP hS => ?_)
      refine nv_if_eq (tgt := 52) hx hb dX7_meeting_31 (by decide) (by omega) (fun c_31 => ?_) (fun c_31 => ?_)
      · refine lv_iconst (v := nI 0) hx hb dX7_meeting_52 (by decide) ?_
        refine nv_iadd hx hb dX7_meeting_53 ?_
        refine lv_istore_n (lv' := [(2, .int (nI (y + 0))), (0, .ref m0), (1, .int (nI g)), (3, .int (nI (j + 1)))]) hx hb dX7_meeting_54 rfl hl (by decide) rfl (fun ls hl => ?_)
        refine lv_iinc (v := nI ((j + 1) + 1)) (lv' := [(3, .int (nI ((j + 1) + 1))), (2, .int (nI (y + 0))), (0, .ref m0), (1, .int (nI g))]) hx hb dX7_meeting_55 hl (k := 3) rfl (nI_add _ _) (by decide) rfl (fun ls hl => ?_)
        refine lv_goto (tgt := 4) hx hb dX7_meeting_58 (by decide) ?_
        exact ih_4 _ (by omega) (j + 1) (y + 0) _ _ _ rfl (by omega) (by rw [hy_]; first | (simp only [sumN, decide_eq_false c_31, decide_eq_false c_45, Bool.not_false, Bool.and_true]; rfl) | (simp only [sumN, decide_eq_false c_31, decide_eq_true c_45, Bool.not_false, Bool.not_true, Bool.and_false]; rfl) | (simp only [sumN, decide_eq_true c_31, Bool.not_true, Bool.false_and]; rfl)) hP hD hS (lv_sub hl [2, 3, 1, 0] rfl)
      · refine lv_aload_n hx hb dX7_meeting_34 rfl (lv_at hl 0 rfl) ?_
        refine lv_aload_n hx hb dX7_meeting_35 rfl (lv_at hl 0 rfl) ?_
        refine lv_iload_n hx hb dX7_meeting_36 rfl (lv_at hl 1 rfl) ?_
        refine lv_iload_n hx hb dX7_meeting_37 rfl (lv_at hl 3 rfl) ?_
        refine call_r (q := (RX7, TX7, 14)) (As := [.int (nI g), .int (nI (j + 1))]) (rest := [.ref m0, .int (nI y)]) F (c_X7_dollAt l D cA m0 m1 fs a M g (j + 1) (hV) (hM) (by omega) (by omega)) (cwV 2 hts gX7_meeting_X7_dollAt rfl rfl rfl ydv_X7_dollAt ⟨Nat.le_of_ble_eq_true rfl, Nat.le_of_ble_eq_true rfl⟩) hK hR hP hD hA hS [0, 1] rfl rfl 0 7 rfl rfl rfl hl.1 rfl (Nat.le_of_ble_eq_true rfl) dX7_meeting_38 ⟨Nat.zero_le _, Nat.zero_le _⟩ (fun H locs hP hS => ?_)
        refine lv_iconst (v := nI 0) hx hb dX7_meeting_41 (by decide) ?_
        refine call_r (q := (RX7, TX7, 14)) (As := [.int (nI (dl a g (j + 1))), .int (nI 0)]) (rest := [.int (nI y)]) F (c_X7_handOf0 l D cA m0 m1 fs a M (dl a g (j + 1)) (hV) (hM) (by omega)) (cwV 2 hts gX7_meeting_X7_handOf rfl rfl rfl ydv_X7_handOf ⟨Nat.le_of_ble_eq_true rfl, Nat.le_of_ble_eq_true rfl⟩) hK hR hP hD hA hS [0, 1] rfl rfl 0 7 rfl rfl rfl hl.1 rfl (Nat.le_of_ble_eq_true rfl) dX7_meeting_42 ⟨Nat.zero_le _, Nat.zero_le _⟩ (fun H locs hP hS => ?_)
        refine nv_if_eq (tgt := 52) hx hb dX7_meeting_45 (by decide) (by omega) (fun c_45 => ?_) (fun c_45 => ?_)
        · refine lv_iconst (v := nI 0) hx hb dX7_meeting_52 (by decide) ?_
          refine nv_iadd hx hb dX7_meeting_53 ?_
          refine lv_istore_n (lv' := [(2, .int (nI (y + 0))), (0, .ref m0), (1, .int (nI g)), (3, .int (nI (j + 1)))]) hx hb dX7_meeting_54 rfl hl (by decide) rfl (fun ls hl => ?_)
          refine lv_iinc (v := nI ((j + 1) + 1)) (lv' := [(3, .int (nI ((j + 1) + 1))), (2, .int (nI (y + 0))), (0, .ref m0), (1, .int (nI g))]) hx hb dX7_meeting_55 hl (k := 3) rfl (nI_add _ _) (by decide) rfl (fun ls hl => ?_)
          refine lv_goto (tgt := 4) hx hb dX7_meeting_58 (by decide) ?_
          exact ih_4 _ (by omega) (j + 1) (y + 0) _ _ _ rfl (by omega) (by rw [hy_]; first | (simp only [sumN, decide_eq_false c_31, decide_eq_false c_45, Bool.not_false, Bool.and_true]; rfl) | (simp only [sumN, decide_eq_false c_31, decide_eq_true c_45, Bool.not_false, Bool.not_true, Bool.and_false]; rfl) | (simp only [sumN, decide_eq_true c_31, Bool.not_true, Bool.false_and]; rfl)) hP hD hS (lv_sub hl [2, 3, 1, 0] rfl)
        · refine lv_iconst (v := nI 1) hx hb dX7_meeting_48 (by decide) ?_
          refine lv_goto (tgt := 53) hx hb dX7_meeting_49 (by decide) ?_
          refine nv_iadd hx hb dX7_meeting_53 ?_
          refine lv_istore_n (lv' := [(2, .int (nI (y + 1))), (0, .ref m0), (1, .int (nI g)), (3, .int (nI (j + 1)))]) hx hb dX7_meeting_54 rfl hl (by decide) rfl (fun ls hl => ?_)
          refine lv_iinc (v := nI ((j + 1) + 1)) (lv' := [(3, .int (nI ((j + 1) + 1))), (2, .int (nI (y + 1))), (0, .ref m0), (1, .int (nI g))]) hx hb dX7_meeting_55 hl (k := 3) rfl (nI_add _ _) (by decide) rfl (fun ls hl => ?_)
          refine lv_goto (tgt := 4) hx hb dX7_meeting_58 (by decide) ?_
          exact ih_4 _ (by omega) (j + 1) (y + 1) _ _ _ rfl (by omega) (by rw [hy_]; first | (simp only [sumN, decide_eq_false c_31, decide_eq_false c_45, Bool.not_false, Bool.and_true]; rfl) | (simp only [sumN, decide_eq_false c_31, decide_eq_true c_45, Bool.not_false, Bool.not_true, Bool.and_false]; rfl) | (simp only [sumN, decide_eq_true c_31, Bool.not_true, Bool.false_and]; rfl)) hP hD hS (lv_sub hl [2, 3, 1, 0] rfl)
  exact LP_4 _ 0 0 _ _ _ rfl (by omega) (rfl) hP hD hS (lv_sub hl [2, 3, 1, 0] rfl)
abbrev rm_X7_over : Room := { frames := 4, cells := 0, slots := 0, locals := 91 }
theorem ydv_X7_over : yX7_over.cls = RX7 ∧ yX7_over.cls ≠ "java/lang/invoke/MethodHandle" ∧ yX7_over.cls ≠ "java/lang/invoke/VarHandle" ∧ (parseMethodDescriptor yX7_over.desc).map (fun d => d.parameters.length) = some 1 := by decide +kernel
set_option maxHeartbeats 4000000 in
set_option maxRecDepth 100000 in
theorem c_X7_over0 (l : Launch) (D : va_G) (cA : ClassId) (m0 m1 : Nat) (fs : List Value) (a M : Nat → Nat)  (hV : Vd a) (hM : Rl a M) : RO l D cA yX7_over wsX7_over rm_X7_over [.ref m0, .int (nI 0)] [(m0, .inr (7, .ref m1 :: fs)), (m1, .inl (cA, 286, .inl (nF M)))] (nI (cntG a)) := by
  refine ofWi (cc := cX7_over) (maxL := 4) (rt := .int) (by decide) rfl (Nat.le_of_ble_eq_true rfl) ?_
  intro p e s m args below meth c Q A ls F hK hR hP hD hA hS hl RET
  obtain ⟨hx, hb, hml, hown, hts⟩ := id F
  have hl : lv_has ls 4 [(0, .ref m0), (1, .int (nI 0))] := hl
  refine lv_iconst (v := nI 0) hx hb dX7_over_0 (by decide) ?_
  refine lv_istore_n (lv' := [(2, .int (nI 0)), (0, .ref m0), (1, .int (nI 0))]) hx hb dX7_over_1 rfl hl (by decide) rfl (fun ls hl => ?_)
  refine lv_iconst (v := nI 0) hx hb dX7_over_2 (by decide) ?_
  refine lv_istore_n (lv' := [(3, .int (nI 0)), (2, .int (nI 0)), (0, .ref m0), (1, .int (nI 0))]) hx hb dX7_over_3 rfl hl (by decide) rfl (fun ls hl => ?_)
  have LP_4 : ∀ (k_4 : Nat) (i : Nat) (x : Nat) (H : Heap) (locs : List Loc) (ls : Array Slot), 8 - i = k_4 → (i ≤ 8) → (x = sumN (fun g => b2n (inG a (nI g))) i) → va_P D vwCl [] H → va_D A [] → va_S A s.heap H locs → lv_has ls 4 [(0, .ref m0), (1, .int (nI 0)), (2, .int (nI x)), (3, .int (nI i))] → W p l e rm_X7_over s m args below meth c H locs 0 0 Q (F0 m 4 ls []) := by
    refine sind (fun k_4 ih_4 => ?_)
    intro i x H locs ls hk_4 hi hx_ hP hD hS hl
    refine lv_iload_n hx hb dX7_over_4 rfl (lv_at hl 3 rfl) ?_
    refine lv_bipush (v := nI 8) hx hb dX7_over_5 (by decide) ?_
    refine nv_icmp_ge (tgt := 114) hx hb dX7_over_7 (by decide) (by omega) (by decide) (fun c_7 => ?_) (fun c_7 => ?_)
    · refine lv_iload_n hx hb dX7_over_114 rfl (lv_at hl 2 rfl) ?_
      refine tope (y := nI (cntG a)) (by rw [hx_, show i = 8 by omega]; rfl) ?_
      exact RET _ _ _ _ _ () dX7_over_115 rfl rfl hP hS
    · refine lv_aload_n hx hb dX7_over_10 rfl (lv_at hl 0 rfl) ?_
      refine lv_iload_n hx hb dX7_over_11 rfl (lv_at hl 3 rfl) ?_
      refine call_r (q := (RX7, TX7, 14)) (As := [.int (nI i)]) (rest := []) F (c_X7_isGarland l D cA m0 m1 fs a M (nI i) (hV) (hM)) (cwV 1 hts gX7_over_X7_isGarland rfl rfl rfl ydv_X7_isGarland ⟨Nat.le_of_ble_eq_true rfl, Nat.le_of_ble_eq_true rfl⟩) hK hR hP hD hA hS [0, 1] rfl rfl 0 7 rfl rfl rfl hl.1 rfl (Nat.le_of_ble_eq_true rfl) dX7_over_12 ⟨Nat.zero_le _, Nat.zero_le _⟩ (fun H locs hP hS => ?_)
      refine bv_if_eq (tgt := 108) hx hb dX7_over_15 (by decide) (fun c_15 => ?_) (fun c_15 => ?_)
      · have h0_ : ln a i = 0 := by rw [inG_nI c_7, decide_eq_false_iff_not] at c_15; omega
        refine lv_iinc (v := nI (i + 1)) (lv' := [(3, .int (nI (i + 1))), (0, .ref m0), (1, .int (nI 0)), (2, .int (nI x))]) hx hb dX7_over_108 hl (k := 3) rfl (nI_add _ _) (by decide) rfl (fun ls hl => ?_)
        refine lv_goto (tgt := 4) hx hb dX7_over_111 (by decide) ?_
        exact ih_4 _ (by omega) (i + 1) x _ _ _ rfl (by omega) (by rw [hx_]; simp only [sumN]; simp [b2n, c_15, h0_, mirIn, meet, sumN]) hP hD hS (lv_sub hl [1, 2, 3, 0] rfl)
      · have hl32 := hV.l c_7
        have hf_ := lst_le (P := fun o => same a i o || mird a i o) i 0
        have hf2_ : lowA a i ≤ i := (by unfold lowA; omega)
        refine lv_iload_n hx hb dX7_over_18 rfl (lv_at hl 2 rfl) ?_
        refine lv_iload_n hx hb dX7_over_19 rfl (lv_at hl 1 rfl) ?_
        refine nv_if_ne (tgt := 27) hx hb dX7_over_20 (by decide) (by decide) (fun c_20 => absurd c_20 (by decide)) (fun c_20 => ?_)
        refine lv_iconst (v := nI 1) hx hb dX7_over_23 (by decide) ?_
        refine lv_goto (tgt := 106) hx hb dX7_over_24 (by decide) ?_
        refine nv_iadd hx hb dX7_over_106 ?_
        refine lv_istore_n (lv' := [(2, .int (nI (x + 1))), (0, .ref m0), (1, .int (nI 0)), (3, .int (nI i))]) hx hb dX7_over_107 rfl hl (by decide) rfl (fun ls hl => ?_)
        refine lv_iinc (v := nI (i + 1)) (lv' := [(3, .int (nI (i + 1))), (2, .int (nI (x + 1))), (0, .ref m0), (1, .int (nI 0))]) hx hb dX7_over_108 hl (k := 3) rfl (nI_add _ _) (by decide) rfl (fun ls hl => ?_)
        refine lv_goto (tgt := 4) hx hb dX7_over_111 (by decide) ?_
        exact ih_4 _ (by omega) (i + 1) (x + 1) _ _ _ rfl (by omega) (by rw [hx_]; first | rfl | (simp only [sumN]; simp [b2n, c_15]; done)) hP hD hS (lv_sub hl [2, 3, 1, 0] rfl)
  exact LP_4 _ 0 0 _ _ _ rfl (by omega) (rfl) hP hD hS (lv_sub hl [2, 3, 1, 0] rfl)
theorem inf_X7_over_X7 : ∀ w ∈ wsX70, w ∈ wsX7_over := fun w h => List.mem_cons_of_mem _ (List.mem_append_right _ (h))
set_option maxHeartbeats 4000000 in
set_option maxRecDepth 100000 in
theorem c_X7_over1 (l : Launch) (D : va_G) (cA : ClassId) (m0 m1 : Nat) (fs : List Value) (a M : Nat → Nat)  (hV : Vd a) (hM : Rl a M) : RO l D cA yX7_over wsX7_over rm_X7_over [.ref m0, .int (nI 1)] [(m0, .inr (7, .ref m1 :: fs)), (m1, .inl (cA, 286, .inl (nF M)))] (nI (cntD a)) := by
  refine ofWi (cc := cX7_over) (maxL := 4) (rt := .int) (by decide) rfl (Nat.le_of_ble_eq_true rfl) ?_
  intro p e s m args below meth c Q A ls F hK hR hP hD hA hS hl RET
  obtain ⟨hx, hb, hml, hown, hts⟩ := id F
  have hl : lv_has ls 4 [(0, .ref m0), (1, .int (nI 1))] := hl
  refine lv_iconst (v := nI 0) hx hb dX7_over_0 (by decide) ?_
  refine lv_istore_n (lv' := [(2, .int (nI 0)), (0, .ref m0), (1, .int (nI 1))]) hx hb dX7_over_1 rfl hl (by decide) rfl (fun ls hl => ?_)
  refine lv_iconst (v := nI 0) hx hb dX7_over_2 (by decide) ?_
  refine lv_istore_n (lv' := [(3, .int (nI 0)), (2, .int (nI 0)), (0, .ref m0), (1, .int (nI 1))]) hx hb dX7_over_3 rfl hl (by decide) rfl (fun ls hl => ?_)
  have LP_4 : ∀ (k_4 : Nat) (i : Nat) (x : Nat) (H : Heap) (locs : List Loc) (ls : Array Slot), 8 - i = k_4 → (i ≤ 8) → (x = sumN (fun g => ln a g) i) → va_P D vwCl [] H → va_D A [] → va_S A s.heap H locs → lv_has ls 4 [(0, .ref m0), (1, .int (nI 1)), (2, .int (nI x)), (3, .int (nI i))] → W p l e rm_X7_over s m args below meth c H locs 0 0 Q (F0 m 4 ls []) := by
    refine sind (fun k_4 ih_4 => ?_)
    intro i x H locs ls hk_4 hi hx_ hP hD hS hl
    refine lv_iload_n hx hb dX7_over_4 rfl (lv_at hl 3 rfl) ?_
    refine lv_bipush (v := nI 8) hx hb dX7_over_5 (by decide) ?_
    refine nv_icmp_ge (tgt := 114) hx hb dX7_over_7 (by decide) (by omega) (by decide) (fun c_7 => ?_) (fun c_7 => ?_)
    · refine lv_iload_n hx hb dX7_over_114 rfl (lv_at hl 2 rfl) ?_
      refine tope (y := nI (cntD a)) (by rw [hx_, show i = 8 by omega]; rfl) ?_
      exact RET _ _ _ _ _ () dX7_over_115 rfl rfl hP hS
    · refine lv_aload_n hx hb dX7_over_10 rfl (lv_at hl 0 rfl) ?_
      refine lv_iload_n hx hb dX7_over_11 rfl (lv_at hl 3 rfl) ?_
      refine call_r (q := (RX7, TX7, 14)) (As := [.int (nI i)]) (rest := []) F (c_X7_isGarland l D cA m0 m1 fs a M (nI i) (hV) (hM)) (cwV 1 hts gX7_over_X7_isGarland rfl rfl rfl ydv_X7_isGarland ⟨Nat.le_of_ble_eq_true rfl, Nat.le_of_ble_eq_true rfl⟩) hK hR hP hD hA hS [0, 1] rfl rfl 0 7 rfl rfl rfl hl.1 rfl (Nat.le_of_ble_eq_true rfl) dX7_over_12 ⟨Nat.zero_le _, Nat.zero_le _⟩ (fun H locs hP hS => ?_)
      refine bv_if_eq (tgt := 108) hx hb dX7_over_15 (by decide) (fun c_15 => ?_) (fun c_15 => ?_)
      · have h0_ : ln a i = 0 := by rw [inG_nI c_7, decide_eq_false_iff_not] at c_15; omega
        refine lv_iinc (v := nI (i + 1)) (lv' := [(3, .int (nI (i + 1))), (0, .ref m0), (1, .int (nI 1)), (2, .int (nI x))]) hx hb dX7_over_108 hl (k := 3) rfl (nI_add _ _) (by decide) rfl (fun ls hl => ?_)
        refine lv_goto (tgt := 4) hx hb dX7_over_111 (by decide) ?_
        exact ih_4 _ (by omega) (i + 1) x _ _ _ rfl (by omega) (by rw [hx_]; simp only [sumN]; simp [b2n, c_15, h0_, mirIn, meet, sumN]) hP hD hS (lv_sub hl [1, 2, 3, 0] rfl)
      · have hl32 := hV.l c_7
        have hf_ := lst_le (P := fun o => same a i o || mird a i o) i 0
        have hf2_ : lowA a i ≤ i := (by unfold lowA; omega)
        refine lv_iload_n hx hb dX7_over_18 rfl (lv_at hl 2 rfl) ?_
        refine lv_iload_n hx hb dX7_over_19 rfl (lv_at hl 1 rfl) ?_
        refine nv_if_ne (tgt := 27) hx hb dX7_over_20 (by decide) (by decide) (fun c_20 => ?_) (fun c_20 => absurd c_20 (by decide))
        refine lv_iload_n hx hb dX7_over_27 rfl (lv_at hl 1 rfl) ?_
        refine lv_iconst (v := nI 1) hx hb dX7_over_28 (by decide) ?_
        refine nv_icmp_ne (tgt := 44) hx hb dX7_over_29 (by decide) (by decide) (by decide) (fun c_29 => absurd c_29 (by decide)) (fun c_29 => ?_)
        refine lv_aload_n hx hb dX7_over_32 rfl (lv_at hl 0 rfl) ?_
        refine va_get (D := D) (cl := vwCl) (ci := 7) (v := .ref m1) (C := RX7) (T := TX7) (N := 14) hx hb hts inf_X7_over_X7 hown hK.1 (hR.at hS) 0 rfl rfl 0 (by decide) (hts _ (List.mem_of_getElem? (i := 1) rfl)) (fun _ h9 => h9) rfl dX7_over_33 ?_
        refine lv_bipush (v := nI 22) hx hb dX7_over_36 (by decide) ?_
        refine lv_iload_n hx hb dX7_over_38 rfl (lv_at hl 3 rfl) ?_
        refine nv_iadd hx hb dX7_over_39 ?_
        refine nv_iald (a := M) hx hb hK (hR.at hS) 1 rfl (by omega) (by decide) dX7_over_40 ?_
        refine tope (y := nI (ln a i)) (congrArg nI (hM.l (by omega))) ?_
        refine lv_goto (tgt := 106) hx hb dX7_over_41 (by decide) ?_
        refine nv_iadd hx hb dX7_over_106 ?_
        refine lv_istore_n (lv' := [(2, .int (nI (x + (ln a i)))), (0, .ref m0), (1, .int (nI 1)), (3, .int (nI i))]) hx hb dX7_over_107 rfl hl (by decide) rfl (fun ls hl => ?_)
        refine lv_iinc (v := nI (i + 1)) (lv' := [(3, .int (nI (i + 1))), (2, .int (nI (x + (ln a i)))), (0, .ref m0), (1, .int (nI 1))]) hx hb dX7_over_108 hl (k := 3) rfl (nI_add _ _) (by decide) rfl (fun ls hl => ?_)
        refine lv_goto (tgt := 4) hx hb dX7_over_111 (by decide) ?_
        exact ih_4 _ (by omega) (i + 1) (x + (ln a i)) _ _ _ rfl (by omega) (by rw [hx_]; first | rfl | (simp only [sumN]; simp [b2n, c_15]; done)) hP hD hS (lv_sub hl [2, 3, 1, 0] rfl)
  exact LP_4 _ 0 0 _ _ _ rfl (by omega) (rfl) hP hD hS (lv_sub hl [2, 3, 1, 0] rfl)
set_option maxHeartbeats 4000000 in
set_option maxRecDepth 100000 in
theorem c_X7_over2 (l : Launch) (D : va_G) (cA : ClassId) (m0 m1 : Nat) (fs : List Value) (a M : Nat → Nat)  (hV : Vd a) (hM : Rl a M) : RO l D cA yX7_over wsX7_over rm_X7_over [.ref m0, .int (nI 2)] [(m0, .inr (7, .ref m1 :: fs)), (m1, .inl (cA, 286, .inl (nF M)))] (nI (cntM a)) := by
  refine ofWi (cc := cX7_over) (maxL := 4) (rt := .int) (by decide) rfl (Nat.le_of_ble_eq_true rfl) ?_
  intro p e s m args below meth c Q A ls F hK hR hP hD hA hS hl RET
  obtain ⟨hx, hb, hml, hown, hts⟩ := id F
  have hl : lv_has ls 4 [(0, .ref m0), (1, .int (nI 2))] := hl
  refine lv_iconst (v := nI 0) hx hb dX7_over_0 (by decide) ?_
  refine lv_istore_n (lv' := [(2, .int (nI 0)), (0, .ref m0), (1, .int (nI 2))]) hx hb dX7_over_1 rfl hl (by decide) rfl (fun ls hl => ?_)
  refine lv_iconst (v := nI 0) hx hb dX7_over_2 (by decide) ?_
  refine lv_istore_n (lv' := [(3, .int (nI 0)), (2, .int (nI 0)), (0, .ref m0), (1, .int (nI 2))]) hx hb dX7_over_3 rfl hl (by decide) rfl (fun ls hl => ?_)
  have LP_4 : ∀ (k_4 : Nat) (i : Nat) (x : Nat) (H : Heap) (locs : List Loc) (ls : Array Slot), 8 - i = k_4 → (i ≤ 8) → (x = sumN (fun g => mirIn a g) i) → va_P D vwCl [] H → va_D A [] → va_S A s.heap H locs → lv_has ls 4 [(0, .ref m0), (1, .int (nI 2)), (2, .int (nI x)), (3, .int (nI i))] → W p l e rm_X7_over s m args below meth c H locs 0 0 Q (F0 m 4 ls []) := by
    refine sind (fun k_4 ih_4 => ?_)
    intro i x H locs ls hk_4 hi hx_ hP hD hS hl
    refine lv_iload_n hx hb dX7_over_4 rfl (lv_at hl 3 rfl) ?_
    refine lv_bipush (v := nI 8) hx hb dX7_over_5 (by decide) ?_
    refine nv_icmp_ge (tgt := 114) hx hb dX7_over_7 (by decide) (by omega) (by decide) (fun c_7 => ?_) (fun c_7 => ?_)
    · refine lv_iload_n hx hb dX7_over_114 rfl (lv_at hl 2 rfl) ?_
      refine tope (y := nI (cntM a)) (by rw [hx_, show i = 8 by omega]; rfl) ?_
      exact RET _ _ _ _ _ () dX7_over_115 rfl rfl hP hS
    · refine lv_aload_n hx hb dX7_over_10 rfl (lv_at hl 0 rfl) ?_
      refine lv_iload_n hx hb dX7_over_11 rfl (lv_at hl 3 rfl) ?_
      refine call_r (q := (RX7, TX7, 14)) (As := [.int (nI i)]) (rest := []) F (c_X7_isGarland l D cA m0 m1 fs a M (nI i) (hV) (hM)) (cwV 1 hts gX7_over_X7_isGarland rfl rfl rfl ydv_X7_isGarland ⟨Nat.le_of_ble_eq_true rfl, Nat.le_of_ble_eq_true rfl⟩) hK hR hP hD hA hS [0, 1] rfl rfl 0 7 rfl rfl rfl hl.1 rfl (Nat.le_of_ble_eq_true rfl) dX7_over_12 ⟨Nat.zero_le _, Nat.zero_le _⟩ (fun H locs hP hS => ?_)
      refine bv_if_eq (tgt := 108) hx hb dX7_over_15 (by decide) (fun c_15 => ?_) (fun c_15 => ?_)
      · have h0_ : ln a i = 0 := by rw [inG_nI c_7, decide_eq_false_iff_not] at c_15; omega
        refine lv_iinc (v := nI (i + 1)) (lv' := [(3, .int (nI (i + 1))), (0, .ref m0), (1, .int (nI 2)), (2, .int (nI x))]) hx hb dX7_over_108 hl (k := 3) rfl (nI_add _ _) (by decide) rfl (fun ls hl => ?_)
        refine lv_goto (tgt := 4) hx hb dX7_over_111 (by decide) ?_
        exact ih_4 _ (by omega) (i + 1) x _ _ _ rfl (by omega) (by rw [hx_]; simp only [sumN]; simp [b2n, c_15, h0_, mirIn, meet, sumN]) hP hD hS (lv_sub hl [1, 2, 3, 0] rfl)
      · have hl32 := hV.l c_7
        have hf_ := lst_le (P := fun o => same a i o || mird a i o) i 0
        have hf2_ : lowA a i ≤ i := (by unfold lowA; omega)
        refine lv_iload_n hx hb dX7_over_18 rfl (lv_at hl 2 rfl) ?_
        refine lv_iload_n hx hb dX7_over_19 rfl (lv_at hl 1 rfl) ?_
        refine nv_if_ne (tgt := 27) hx hb dX7_over_20 (by decide) (by decide) (fun c_20 => ?_) (fun c_20 => absurd c_20 (by decide))
        refine lv_iload_n hx hb dX7_over_27 rfl (lv_at hl 1 rfl) ?_
        refine lv_iconst (v := nI 1) hx hb dX7_over_28 (by decide) ?_
        refine nv_icmp_ne (tgt := 44) hx hb dX7_over_29 (by decide) (by decide) (by decide) (fun c_29 => ?_) (fun c_29 => absurd c_29 (by decide))
        refine lv_iload_n hx hb dX7_over_44 rfl (lv_at hl 1 rfl) ?_
        refine lv_iconst (v := nI 2) hx hb dX7_over_45 (by decide) ?_
        refine nv_icmp_ne (tgt := 57) hx hb dX7_over_46 (by decide) (by decide) (by decide) (fun c_46 => absurd c_46 (by decide)) (fun c_46 => ?_)
        refine lv_aload_n hx hb dX7_over_49 rfl (lv_at hl 0 rfl) ?_
        refine lv_iload_n hx hb dX7_over_50 rfl (lv_at hl 3 rfl) ?_
        refine call_r (q := (RX7, TX7, 14)) (As := [.int (nI i)]) (rest := [.int (nI x)]) F (c_X7_mirroredIn l D cA m0 m1 fs a M i (hV) (hM) (by omega)) (cwV 1 hts gX7_over_X7_mirroredIn rfl rfl rfl ydv_X7_mirroredIn ⟨Nat.le_of_ble_eq_true rfl, Nat.le_of_ble_eq_true rfl⟩) hK hR hP hD hA hS [0, 1] rfl rfl 0 7 rfl rfl rfl hl.1 rfl (Nat.le_of_ble_eq_true rfl) dX7_over_51 ⟨Nat.zero_le _, Nat.zero_le _⟩ (fun H locs hP hS => ?_)
        refine lv_goto (tgt := 106) hx hb dX7_over_54 (by decide) ?_
        refine nv_iadd hx hb dX7_over_106 ?_
        refine lv_istore_n (lv' := [(2, .int (nI (x + (mirIn a i)))), (0, .ref m0), (1, .int (nI 2)), (3, .int (nI i))]) hx hb dX7_over_107 rfl hl (by decide) rfl (fun ls hl => ?_)
        refine lv_iinc (v := nI (i + 1)) (lv' := [(3, .int (nI (i + 1))), (2, .int (nI (x + (mirIn a i)))), (0, .ref m0), (1, .int (nI 2))]) hx hb dX7_over_108 hl (k := 3) rfl (nI_add _ _) (by decide) rfl (fun ls hl => ?_)
        refine lv_goto (tgt := 4) hx hb dX7_over_111 (by decide) ?_
        exact ih_4 _ (by omega) (i + 1) (x + (mirIn a i)) _ _ _ rfl (by omega) (by rw [hx_]; first | rfl | (simp only [sumN]; simp [b2n, c_15]; done)) hP hD hS (lv_sub hl [2, 3, 1, 0] rfl)
  exact LP_4 _ 0 0 _ _ _ rfl (by omega) (rfl) hP hD hS (lv_sub hl [2, 3, 1, 0] rfl)
set_option maxHeartbeats 4000000 in
set_option maxRecDepth 100000 in
theorem c_X7_over3 (l : Launch) (D : va_G) (cA : ClassId) (m0 m1 : Nat) (fs : List Value) (a M : Nat → Nat)  (hV : Vd a) (hM : Rl a M) : RO l D cA yX7_over wsX7_over rm_X7_over [.ref m0, .int (nI 3)] [(m0, .inr (7, .ref m1 :: fs)), (m1, .inl (cA, 286, .inl (nF M)))] (nI (cntO a)) := by
  refine ofWi (cc := cX7_over) (maxL := 4) (rt := .int) (by decide) rfl (Nat.le_of_ble_eq_true rfl) ?_
  intro p e s m args below meth c Q A ls F hK hR hP hD hA hS hl RET
  obtain ⟨hx, hb, hml, hown, hts⟩ := id F
  have hl : lv_has ls 4 [(0, .ref m0), (1, .int (nI 3))] := hl
  refine lv_iconst (v := nI 0) hx hb dX7_over_0 (by decide) ?_
  refine lv_istore_n (lv' := [(2, .int (nI 0)), (0, .ref m0), (1, .int (nI 3))]) hx hb dX7_over_1 rfl hl (by decide) rfl (fun ls hl => ?_)
  refine lv_iconst (v := nI 0) hx hb dX7_over_2 (by decide) ?_
  refine lv_istore_n (lv' := [(3, .int (nI 0)), (2, .int (nI 0)), (0, .ref m0), (1, .int (nI 3))]) hx hb dX7_over_3 rfl hl (by decide) rfl (fun ls hl => ?_)
  have LP_4 : ∀ (k_4 : Nat) (i : Nat) (x : Nat) (H : Heap) (locs : List Loc) (ls : Array Slot), 8 - i = k_4 → (i ≤ 8) → (x = sumN (fun g => b2n (inG a (nI g) && mird a g g)) i) → va_P D vwCl [] H → va_D A [] → va_S A s.heap H locs → lv_has ls 4 [(0, .ref m0), (1, .int (nI 3)), (2, .int (nI x)), (3, .int (nI i))] → W p l e rm_X7_over s m args below meth c H locs 0 0 Q (F0 m 4 ls []) := by
    refine sind (fun k_4 ih_4 => ?_)
    intro i x H locs ls hk_4 hi hx_ hP hD hS hl
    refine lv_iload_n hx hb dX7_over_4 rfl (lv_at hl 3 rfl) ?_
    refine lv_bipush (v := nI 8) hx hb dX7_over_5 (by decide) ?_
    refine nv_icmp_ge (tgt := 114) hx hb dX7_over_7 (by decide) (by omega) (by decide) (fun c_7 => ?_) (fun c_7 => ?_)
    · refine lv_iload_n hx hb dX7_over_114 rfl (lv_at hl 2 rfl) ?_
      refine tope (y := nI (cntO a)) (by rw [hx_, show i = 8 by omega]; rfl) ?_
      exact RET _ _ _ _ _ () dX7_over_115 rfl rfl hP hS
    · refine lv_aload_n hx hb dX7_over_10 rfl (lv_at hl 0 rfl) ?_
      refine lv_iload_n hx hb dX7_over_11 rfl (lv_at hl 3 rfl) ?_
      refine call_r (q := (RX7, TX7, 14)) (As := [.int (nI i)]) (rest := []) F (c_X7_isGarland l D cA m0 m1 fs a M (nI i) (hV) (hM)) (cwV 1 hts gX7_over_X7_isGarland rfl rfl rfl ydv_X7_isGarland ⟨Nat.le_of_ble_eq_true rfl, Nat.le_of_ble_eq_true rfl⟩) hK hR hP hD hA hS [0, 1] rfl rfl 0 7 rfl rfl rfl hl.1 rfl (Nat.le_of_ble_eq_true rfl) dX7_over_12 ⟨Nat.zero_le _, Nat.zero_le _⟩ (fun H locs hP hS => ?_)
      refine bv_if_eq (tgt := 108) hx hb dX7_over_15 (by decide) (fun c_15 => ?_) (fun c_15 => ?_)
      · have h0_ : ln a i = 0 := by rw [inG_nI c_7, decide_eq_false_iff_not] at c_15; omega
        refine lv_iinc (v := nI (i + 1)) (lv' := [(3, .int (nI (i + 1))), (0, .ref m0), (1, .int (nI 3)), (2, .int (nI x))]) hx hb dX7_over_108 hl (k := 3) rfl (nI_add _ _) (by decide) rfl (fun ls hl => ?_)
        refine lv_goto (tgt := 4) hx hb dX7_over_111 (by decide) ?_
        exact ih_4 _ (by omega) (i + 1) x _ _ _ rfl (by omega) (by rw [hx_]; simp only [sumN]; simp [b2n, c_15, h0_, mirIn, meet, sumN]) hP hD hS (lv_sub hl [1, 2, 3, 0] rfl)
      · have hl32 := hV.l c_7
        have hf_ := lst_le (P := fun o => same a i o || mird a i o) i 0
        have hf2_ : lowA a i ≤ i := (by unfold lowA; omega)
        refine lv_iload_n hx hb dX7_over_18 rfl (lv_at hl 2 rfl) ?_
        refine lv_iload_n hx hb dX7_over_19 rfl (lv_at hl 1 rfl) ?_
        refine nv_if_ne (tgt := 27) hx hb dX7_over_20 (by decide) (by decide) (fun c_20 => ?_) (fun c_20 => absurd c_20 (by decide))
        refine lv_iload_n hx hb dX7_over_27 rfl (lv_at hl 1 rfl) ?_
        refine lv_iconst (v := nI 1) hx hb dX7_over_28 (by decide) ?_
        refine nv_icmp_ne (tgt := 44) hx hb dX7_over_29 (by decide) (by decide) (by decide) (fun c_29 => ?_) (fun c_29 => absurd c_29 (by decide))
        refine lv_iload_n hx hb dX7_over_44 rfl (lv_at hl 1 rfl) ?_
        refine lv_iconst (v := nI 2) hx hb dX7_over_45 (by decide) ?_
        refine nv_icmp_ne (tgt := 57) hx hb dX7_over_46 (by decide) (by decide) (by decide) (fun c_46 => ?_) (fun c_46 => absurd c_46 (by decide))
        refine lv_iload_n hx hb dX7_over_57 rfl (lv_at hl 1 rfl) ?_
        refine lv_iconst (v := nI 3) hx hb dX7_over_58 (by decide) ?_
        refine nv_icmp_ne (tgt := 78) hx hb dX7_over_59 (by decide) (by decide) (by decide) (fun c_59 => absurd c_59 (by decide)) (fun c_59 => ?_)
        refine lv_aload_n hx hb dX7_over_62 rfl (lv_at hl 0 rfl) ?_
        refine lv_iload_n hx hb dX7_over_63 rfl (lv_at hl 3 rfl) ?_
        refine call_r (q := (RX7, TX7, 14)) (As := [.int (nI i)]) (rest := [.int (nI x)]) F (c_X7_isOwnImage l D cA m0 m1 fs a M i (hV) (hM) (by omega)) (cwV 1 hts gX7_over_X7_isOwnImage rfl rfl rfl ydv_X7_isOwnImage ⟨Nat.le_of_ble_eq_true rfl, Nat.le_of_ble_eq_true rfl⟩) hK hR hP hD hA hS [0, 1] rfl rfl 0 7 rfl rfl rfl hl.1 rfl (Nat.le_of_ble_eq_true rfl) dX7_over_64 ⟨Nat.zero_le _, Nat.zero_le _⟩ (fun H locs hP hS => ?_)
        refine bv_if_eq (tgt := 74) hx hb dX7_over_67 (by decide) (fun c_67 => ?_) (fun c_67 => ?_)
        · refine lv_iconst (v := nI 0) hx hb dX7_over_74 (by decide) ?_
          refine lv_goto (tgt := 106) hx hb dX7_over_75 (by decide) ?_
          refine nv_iadd hx hb dX7_over_106 ?_
          refine lv_istore_n (lv' := [(2, .int (nI (x + 0))), (0, .ref m0), (1, .int (nI 3)), (3, .int (nI i))]) hx hb dX7_over_107 rfl hl (by decide) rfl (fun ls hl => ?_)
          refine lv_iinc (v := nI (i + 1)) (lv' := [(3, .int (nI (i + 1))), (2, .int (nI (x + 0))), (0, .ref m0), (1, .int (nI 3))]) hx hb dX7_over_108 hl (k := 3) rfl (nI_add _ _) (by decide) rfl (fun ls hl => ?_)
          refine lv_goto (tgt := 4) hx hb dX7_over_111 (by decide) ?_
          exact ih_4 _ (by omega) (i + 1) (x + 0) _ _ _ rfl (by omega) (by rw [hx_]; first | rfl | (simp only [sumN]; simp [b2n, c_15, c_67]; done)) hP hD hS (lv_sub hl [2, 3, 1, 0] rfl)
        · refine lv_iconst (v := nI 1) hx hb dX7_over_70 (by decide) ?_
          refine lv_goto (tgt := 106) hx hb dX7_over_71 (by decide) ?_
          refine nv_iadd hx hb dX7_over_106 ?_
          refine lv_istore_n (lv' := [(2, .int (nI (x + 1))), (0, .ref m0), (1, .int (nI 3)), (3, .int (nI i))]) hx hb dX7_over_107 rfl hl (by decide) rfl (fun ls hl => ?_)
          refine lv_iinc (v := nI (i + 1)) (lv' := [(3, .int (nI (i + 1))), (2, .int (nI (x + 1))), (0, .ref m0), (1, .int (nI 3))]) hx hb dX7_over_108 hl (k := 3) rfl (nI_add _ _) (by decide) rfl (fun ls hl => ?_)
          refine lv_goto (tgt := 4) hx hb dX7_over_111 (by decide) ?_
          exact ih_4 _ (by omega) (i + 1) (x + 1) _ _ _ rfl (by omega) (by rw [hx_]; first | rfl | (simp only [sumN]; simp [b2n, c_15, c_67]; done)) hP hD hS (lv_sub hl [2, 3, 1, 0] rfl)
  exact LP_4 _ 0 0 _ _ _ rfl (by omega) (rfl) hP hD hS (lv_sub hl [2, 3, 1, 0] rfl)
set_option maxHeartbeats 4000000 in
set_option maxRecDepth 100000 in
theorem c_X7_over6 (l : Launch) (D : va_G) (cA : ClassId) (m0 m1 : Nat) (fs : List Value) (a M : Nat → Nat)  (hV : Vd a) (hM : Rl a M) : RO l D cA yX7_over wsX7_over rm_X7_over [.ref m0, .int (nI 6)] [(m0, .inr (7, .ref m1 :: fs)), (m1, .inl (cA, 286, .inl (nF M)))] (nI (cntH a)) := by
  refine ofWi (cc := cX7_over) (maxL := 4) (rt := .int) (by decide) rfl (Nat.le_of_ble_eq_true rfl) ?_
  intro p e s m args below meth c Q A ls F hK hR hP hD hA hS hl RET
  obtain ⟨hx, hb, hml, hown, hts⟩ := id F
  have hl : lv_has ls 4 [(0, .ref m0), (1, .int (nI 6))] := hl
  refine lv_iconst (v := nI 0) hx hb dX7_over_0 (by decide) ?_
  refine lv_istore_n (lv' := [(2, .int (nI 0)), (0, .ref m0), (1, .int (nI 6))]) hx hb dX7_over_1 rfl hl (by decide) rfl (fun ls hl => ?_)
  refine lv_iconst (v := nI 0) hx hb dX7_over_2 (by decide) ?_
  refine lv_istore_n (lv' := [(3, .int (nI 0)), (2, .int (nI 0)), (0, .ref m0), (1, .int (nI 6))]) hx hb dX7_over_3 rfl hl (by decide) rfl (fun ls hl => ?_)
  have LP_4 : ∀ (k_4 : Nat) (i : Nat) (x : Nat) (H : Heap) (locs : List Loc) (ls : Array Slot), 8 - i = k_4 → (i ≤ 8) → (x = sumN (fun g => meet a g) i) → va_P D vwCl [] H → va_D A [] → va_S A s.heap H locs → lv_has ls 4 [(0, .ref m0), (1, .int (nI 6)), (2, .int (nI x)), (3, .int (nI i))] → W p l e rm_X7_over s m args below meth c H locs 0 0 Q (F0 m 4 ls []) := by
    refine sind (fun k_4 ih_4 => ?_)
    intro i x H locs ls hk_4 hi hx_ hP hD hS hl
    refine lv_iload_n hx hb dX7_over_4 rfl (lv_at hl 3 rfl) ?_
    refine lv_bipush (v := nI 8) hx hb dX7_over_5 (by decide) ?_
    refine nv_icmp_ge (tgt := 114) hx hb dX7_over_7 (by decide) (by omega) (by decide) (fun c_7 => ?_) (fun c_7 => ?_)
    · refine lv_iload_n hx hb dX7_over_114 rfl (lv_at hl 2 rfl) ?_
      refine tope (y := nI (cntH a)) (by rw [hx_, show i = 8 by omega]; rfl) ?_
      exact RET _ _ _ _ _ () dX7_over_115 rfl rfl hP hS
    · refine lv_aload_n hx hb dX7_over_10 rfl (lv_at hl 0 rfl) ?_
      refine lv_iload_n hx hb dX7_over_11 rfl (lv_at hl 3 rfl) ?_
      refine call_r (q := (RX7, TX7, 14)) (As := [.int (nI i)]) (rest := []) F (c_X7_isGarland l D cA m0 m1 fs a M (nI i) (hV) (hM)) (cwV 1 hts gX7_over_X7_isGarland rfl rfl rfl ydv_X7_isGarland ⟨Nat.le_of_ble_eq_true rfl, Nat.le_of_ble_eq_true rfl⟩) hK hR hP hD hA hS [0, 1] rfl rfl 0 7 rfl rfl rfl hl.1 rfl (Nat.le_of_ble_eq_true rfl) dX7_over_12 ⟨Nat.zero_le _, Nat.zero_le _⟩ (fun H locs hP hS => ?_)
      refine bv_if_eq (tgt := 108) hx hb dX7_over_15 (by decide) (fun c_15 => ?_) (fun c_15 => ?_)
      · have h0_ : ln a i = 0 := by rw [inG_nI c_7, decide_eq_false_iff_not] at c_15; omega
        refine lv_iinc (v := nI (i + 1)) (lv' := [(3, .int (nI (i + 1))), (0, .ref m0), (1, .int (nI 6)), (2, .int (nI x))]) hx hb dX7_over_108 hl (k := 3) rfl (nI_add _ _) (by decide) rfl (fun ls hl => ?_)
        refine lv_goto (tgt := 4) hx hb dX7_over_111 (by decide) ?_
        exact ih_4 _ (by omega) (i + 1) x _ _ _ rfl (by omega) (by rw [hx_]; simp only [sumN]; simp [b2n, c_15, h0_, mirIn, meet, sumN]) hP hD hS (lv_sub hl [1, 2, 3, 0] rfl)
      · have hl32 := hV.l c_7
        have hf_ := lst_le (P := fun o => same a i o || mird a i o) i 0
        have hf2_ : lowA a i ≤ i := (by unfold lowA; omega)
        refine lv_iload_n hx hb dX7_over_18 rfl (lv_at hl 2 rfl) ?_
        refine lv_iload_n hx hb dX7_over_19 rfl (lv_at hl 1 rfl) ?_
        refine nv_if_ne (tgt := 27) hx hb dX7_over_20 (by decide) (by decide) (fun c_20 => ?_) (fun c_20 => absurd c_20 (by decide))
        refine lv_iload_n hx hb dX7_over_27 rfl (lv_at hl 1 rfl) ?_
        refine lv_iconst (v := nI 1) hx hb dX7_over_28 (by decide) ?_
        refine nv_icmp_ne (tgt := 44) hx hb dX7_over_29 (by decide) (by decide) (by decide) (fun c_29 => ?_) (fun c_29 => absurd c_29 (by decide))
        refine lv_iload_n hx hb dX7_over_44 rfl (lv_at hl 1 rfl) ?_
        refine lv_iconst (v := nI 2) hx hb dX7_over_45 (by decide) ?_
        refine nv_icmp_ne (tgt := 57) hx hb dX7_over_46 (by decide) (by decide) (by decide) (fun c_46 => ?_) (fun c_46 => absurd c_46 (by decide))
        refine lv_iload_n hx hb dX7_over_57 rfl (lv_at hl 1 rfl) ?_
        refine lv_iconst (v := nI 3) hx hb dX7_over_58 (by decide) ?_
        refine nv_icmp_ne (tgt := 78) hx hb dX7_over_59 (by decide) (by decide) (by decide) (fun c_59 => ?_) (fun c_59 => absurd c_59 (by decide))
        refine lv_iload_n hx hb dX7_over_78 rfl (lv_at hl 1 rfl) ?_
        refine lv_bipush (v := nI 6) hx hb dX7_over_79 (by decide) ?_
        refine nv_icmp_ne (tgt := 92) hx hb dX7_over_81 (by decide) (by decide) (by decide) (fun c_81 => absurd c_81 (by decide)) (fun c_81 => ?_)
        refine lv_aload_n hx hb dX7_over_84 rfl (lv_at hl 0 rfl) ?_
        refine lv_iload_n hx hb dX7_over_85 rfl (lv_at hl 3 rfl) ?_
        refine call_r (q := (RX7, TX7, 14)) (As := [.int (nI i)]) (rest := [.int (nI x)]) F (c_X7_meeting l D cA m0 m1 fs a M i (hV) (hM) (by omega)) (cwV 1 hts gX7_over_X7_meeting rfl rfl rfl ydv_X7_meeting ⟨Nat.le_of_ble_eq_true rfl, Nat.le_of_ble_eq_true rfl⟩) hK hR hP hD hA hS [0, 1] rfl rfl 0 7 rfl rfl rfl hl.1 rfl (Nat.le_of_ble_eq_true rfl) dX7_over_86 ⟨Nat.zero_le _, Nat.zero_le _⟩ (fun H locs hP hS => ?_)
        refine lv_goto (tgt := 106) hx hb dX7_over_89 (by decide) ?_
        refine nv_iadd hx hb dX7_over_106 ?_
        refine lv_istore_n (lv' := [(2, .int (nI (x + (meet a i)))), (0, .ref m0), (1, .int (nI 6)), (3, .int (nI i))]) hx hb dX7_over_107 rfl hl (by decide) rfl (fun ls hl => ?_)
        refine lv_iinc (v := nI (i + 1)) (lv' := [(3, .int (nI (i + 1))), (2, .int (nI (x + (meet a i)))), (0, .ref m0), (1, .int (nI 6))]) hx hb dX7_over_108 hl (k := 3) rfl (nI_add _ _) (by decide) rfl (fun ls hl => ?_)
        refine lv_goto (tgt := 4) hx hb dX7_over_111 (by decide) ?_
        exact ih_4 _ (by omega) (i + 1) (x + (meet a i)) _ _ _ rfl (by omega) (by rw [hx_]; first | rfl | (simp only [sumN]; simp [b2n, c_15]; done)) hP hD hS (lv_sub hl [2, 3, 1, 0] rfl)
  exact LP_4 _ 0 0 _ _ _ rfl (by omega) (rfl) hP hD hS (lv_sub hl [2, 3, 1, 0] rfl)
set_option maxHeartbeats 4000000 in
set_option maxRecDepth 100000 in
theorem c_X7_over7 (l : Launch) (D : va_G) (cA : ClassId) (m0 m1 : Nat) (fs : List Value) (a M : Nat → Nat)  (hV : Vd a) (hM : Rl a M) : RO l D cA yX7_over wsX7_over rm_X7_over [.ref m0, .int (nI 7)] [(m0, .inr (7, .ref m1 :: fs)), (m1, .inl (cA, 286, .inl (nF M)))] (nI (cntK a)) := by
  refine ofWi (cc := cX7_over) (maxL := 4) (rt := .int) (by decide) rfl (Nat.le_of_ble_eq_true rfl) ?_
  intro p e s m args below meth c Q A ls F hK hR hP hD hA hS hl RET
  obtain ⟨hx, hb, hml, hown, hts⟩ := id F
  have hl : lv_has ls 4 [(0, .ref m0), (1, .int (nI 7))] := hl
  refine lv_iconst (v := nI 0) hx hb dX7_over_0 (by decide) ?_
  refine lv_istore_n (lv' := [(2, .int (nI 0)), (0, .ref m0), (1, .int (nI 7))]) hx hb dX7_over_1 rfl hl (by decide) rfl (fun ls hl => ?_)
  refine lv_iconst (v := nI 0) hx hb dX7_over_2 (by decide) ?_
  refine lv_istore_n (lv' := [(3, .int (nI 0)), (2, .int (nI 0)), (0, .ref m0), (1, .int (nI 7))]) hx hb dX7_over_3 rfl hl (by decide) rfl (fun ls hl => ?_)
  have LP_4 : ∀ (k_4 : Nat) (i : Nat) (x : Nat) (H : Heap) (locs : List Loc) (ls : Array Slot), 8 - i = k_4 → (i ≤ 8) → (x = sumN (fun g => b2n (inG a (nI g) && decide (lowA a g = g))) i) → va_P D vwCl [] H → va_D A [] → va_S A s.heap H locs → lv_has ls 4 [(0, .ref m0), (1, .int (nI 7)), (2, .int (nI x)), (3, .int (nI i))] → W p l e rm_X7_over s m args below meth c H locs 0 0 Q (F0 m 4 ls []) := by
    refine sind (fun k_4 ih_4 => ?_)
    intro i x H locs ls hk_4 hi hx_ hP hD hS hl
    refine lv_iload_n hx hb dX7_over_4 rfl (lv_at hl 3 rfl) ?_
    refine lv_bipush (v := nI 8) hx hb dX7_over_5 (by decide) ?_
    refine nv_icmp_ge (tgt := 114) hx hb dX7_over_7 (by decide) (by omega) (by decide) (fun c_7 => ?_) (fun c_7 => ?_)
    · refine lv_iload_n hx hb dX7_over_114 rfl (lv_at hl 2 rfl) ?_
      refine tope (y := nI (cntK a)) (by rw [hx_, show i = 8 by omega]; rfl) ?_
      exact RET _ _ _ _ _ () dX7_over_115 rfl rfl hP hS
    · refine lv_aload_n hx hb dX7_over_10 rfl (lv_at hl 0 rfl) ?_
      refine lv_iload_n hx hb dX7_over_11 rfl (lv_at hl 3 rfl) ?_
      refine call_r (q := (RX7, TX7, 14)) (As := [.int (nI i)]) (rest := []) F (c_X7_isGarland l D cA m0 m1 fs a M (nI i) (hV) (hM)) (cwV 1 hts gX7_over_X7_isGarland rfl rfl rfl ydv_X7_isGarland ⟨Nat.le_of_ble_eq_true rfl, Nat.le_of_ble_eq_true rfl⟩) hK hR hP hD hA hS [0, 1] rfl rfl 0 7 rfl rfl rfl hl.1 rfl (Nat.le_of_ble_eq_true rfl) dX7_over_12 ⟨Nat.zero_le _, Nat.zero_le _⟩ (fun H locs hP hS => ?_)
      refine bv_if_eq (tgt := 108) hx hb dX7_over_15 (by decide) (fun c_15 => ?_) (fun c_15 => ?_)
      · have h0_ : ln a i = 0 := by rw [inG_nI c_7, decide_eq_false_iff_not] at c_15; omega
        refine lv_iinc (v := nI (i + 1)) (lv' := [(3, .int (nI (i + 1))), (0, .ref m0), (1, .int (nI 7)), (2, .int (nI x))]) hx hb dX7_over_108 hl (k := 3) rfl (nI_add _ _) (by decide) rfl (fun ls hl => ?_)
        refine lv_goto (tgt := 4) hx hb dX7_over_111 (by decide) ?_
        exact ih_4 _ (by omega) (i + 1) x _ _ _ rfl (by omega) (by rw [hx_]; simp only [sumN]; simp [b2n, c_15, h0_, mirIn, meet, sumN]) hP hD hS (lv_sub hl [1, 2, 3, 0] rfl)
      · have hl32 := hV.l c_7
        have hf_ := lst_le (P := fun o => same a i o || mird a i o) i 0
        have hf2_ : lowA a i ≤ i := (by unfold lowA; omega)
        refine lv_iload_n hx hb dX7_over_18 rfl (lv_at hl 2 rfl) ?_
        refine lv_iload_n hx hb dX7_over_19 rfl (lv_at hl 1 rfl) ?_
        refine nv_if_ne (tgt := 27) hx hb dX7_over_20 (by decide) (by decide) (fun c_20 => ?_) (fun c_20 => absurd c_20 (by decide))
        refine lv_iload_n hx hb dX7_over_27 rfl (lv_at hl 1 rfl) ?_
        refine lv_iconst (v := nI 1) hx hb dX7_over_28 (by decide) ?_
        refine nv_icmp_ne (tgt := 44) hx hb dX7_over_29 (by decide) (by decide) (by decide) (fun c_29 => ?_) (fun c_29 => absurd c_29 (by decide))
        refine lv_iload_n hx hb dX7_over_44 rfl (lv_at hl 1 rfl) ?_
        refine lv_iconst (v := nI 2) hx hb dX7_over_45 (by decide) ?_
        refine nv_icmp_ne (tgt := 57) hx hb dX7_over_46 (by decide) (by decide) (by decide) (fun c_46 => ?_) (fun c_46 => absurd c_46 (by decide))
        refine lv_iload_n hx hb dX7_over_57 rfl (lv_at hl 1 rfl) ?_
        refine lv_iconst (v := nI 3) hx hb dX7_over_58 (by decide) ?_
        refine nv_icmp_ne (tgt := 78) hx hb dX7_over_59 (by decide) (by decide) (by decide) (fun c_59 => ?_) (fun c_59 => absurd c_59 (by decide))
        refine lv_iload_n hx hb dX7_over_78 rfl (lv_at hl 1 rfl) ?_
        refine lv_bipush (v := nI 6) hx hb dX7_over_79 (by decide) ?_
        refine nv_icmp_ne (tgt := 92) hx hb dX7_over_81 (by decide) (by decide) (by decide) (fun c_81 => ?_) (fun c_81 => absurd c_81 (by decide))
        refine lv_aload_n hx hb dX7_over_92 rfl (lv_at hl 0 rfl) ?_
        refine lv_iload_n hx hb dX7_over_93 rfl (lv_at hl 3 rfl) ?_
        refine call_r (q := (RX7, TX7, 14)) (As := [.int (nI i)]) (rest := [.int (nI x)]) F (c_X7_firstLike l D cA m0 m1 fs a M i (hV) (hM) (by omega)) (cwV 1 hts gX7_over_X7_firstLike rfl rfl rfl ydv_X7_firstLike ⟨Nat.le_of_ble_eq_true rfl, Nat.le_of_ble_eq_true rfl⟩) hK hR hP hD hA hS [0, 1] rfl rfl 0 7 rfl rfl rfl hl.1 rfl (Nat.le_of_ble_eq_true rfl) dX7_over_94 ⟨Nat.zero_le _, Nat.zero_le _⟩ (fun H locs hP hS => ?_)
        refine lv_iload_n hx hb dX7_over_97 rfl (lv_at hl 3 rfl) ?_
        refine nv_icmp_ne (tgt := 105) hx hb dX7_over_98 (by decide) (by omega) (by omega) (fun c_98 => ?_) (fun c_98 => ?_)
        · refine lv_iconst (v := nI 0) hx hb dX7_over_105 (by decide) ?_
          refine nv_iadd hx hb dX7_over_106 ?_
          refine lv_istore_n (lv' := [(2, .int (nI (x + 0))), (0, .ref m0), (1, .int (nI 7)), (3, .int (nI i))]) hx hb dX7_over_107 rfl hl (by decide) rfl (fun ls hl => ?_)
          refine lv_iinc (v := nI (i + 1)) (lv' := [(3, .int (nI (i + 1))), (2, .int (nI (x + 0))), (0, .ref m0), (1, .int (nI 7))]) hx hb dX7_over_108 hl (k := 3) rfl (nI_add _ _) (by decide) rfl (fun ls hl => ?_)
          refine lv_goto (tgt := 4) hx hb dX7_over_111 (by decide) ?_
          exact ih_4 _ (by omega) (i + 1) (x + 0) _ _ _ rfl (by omega) (by rw [hx_]; first | rfl | (simp only [sumN]; simp [b2n, c_15, c_98]; done)) hP hD hS (lv_sub hl [2, 3, 1, 0] rfl)
        · refine lv_iconst (v := nI 1) hx hb dX7_over_101 (by decide) ?_
          refine lv_goto (tgt := 106) hx hb dX7_over_102 (by decide) ?_
          refine nv_iadd hx hb dX7_over_106 ?_
          refine lv_istore_n (lv' := [(2, .int (nI (x + 1))), (0, .ref m0), (1, .int (nI 7)), (3, .int (nI i))]) hx hb dX7_over_107 rfl hl (by decide) rfl (fun ls hl => ?_)
          refine lv_iinc (v := nI (i + 1)) (lv' := [(3, .int (nI (i + 1))), (2, .int (nI (x + 1))), (0, .ref m0), (1, .int (nI 7))]) hx hb dX7_over_108 hl (k := 3) rfl (nI_add _ _) (by decide) rfl (fun ls hl => ?_)
          refine lv_goto (tgt := 4) hx hb dX7_over_111 (by decide) ?_
          exact ih_4 _ (by omega) (i + 1) (x + 1) _ _ _ rfl (by omega) (by rw [hx_]; first | rfl | (simp only [sumN]; simp [b2n, c_15, eq_true c_98]; done)) hP hD hS (lv_sub hl [2, 3, 1, 0] rfl)
  exact LP_4 _ 0 0 _ _ _ rfl (by omega) (rfl) hP hD hS (lv_sub hl [2, 3, 1, 0] rfl)
