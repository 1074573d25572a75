/-! laid by a program: contracts of X6_isBelow, X6_oneIf, X6_dollOf, X6_kindOf, X6_isMirrored, X6_mirrorOf, X3_at, X3_put, X3_copyFrom, X3_copyFromS, X4_ruleNow, X4_kindsNow, X4_putRule, X4_putKinds, X4_dollsToCut, X4_hasKind, X4_leftHand, X4_rightHand, X4_putHands, X4_leftOf, X4_rightOf, X4_lengthOf, X4_putLength, X4_hasGarland, X4_cellOf, X4_dollAt, X4_firstDoll, X4_lastDoll, X4_putDoll -/
abbrev rm_X6_isBelow : Room := { frames := 0, cells := 0, slots := 0, locals := 0 }
theorem yd_X6_isBelow : yX6_isBelow.cls ≠ "java/lang/invoke/MethodHandle" ∧ yX6_isBelow.cls ≠ "java/lang/invoke/VarHandle" ∧ (parseMethodDescriptor yX6_isBelow.desc).map (fun d => d.parameters.length) = some 2 := by decide +kernel
set_option maxHeartbeats 4000000 in
set_option maxRecDepth 100000 in
theorem c_X6_isBelow (l : Launch) (D : va_G) (cA : ClassId) (x : Int32) (n : Nat) (hn : n < 2 ^ 31) : RO l D cA yX6_isBelow wsX6_isBelow rm_X6_isBelow [.int x, .int (nI n)] [] (bI (isB x n)) := by
  refine ofWi (cc := cX6_isBelow) (maxL := 2) (rt := .boolean) (by decide) rfl (Nat.le_of_ble_eq_true rfl) ?_
  intro p e s m args below meth c Q A ls F hK hR hP hD hA hS hl RET
  obtain ⟨hx, hb, hml, hown, hts⟩ := id F
  have hl : lv_has ls 2 [(0, .int x), (1, .int (nI n))] := hl
  refine lv_iload_n hx hb dX6_isBelow_0 rfl (lv_at hl 0 rfl) ?_
  refine lv_if_lt (tgt := 13) hx hb dX6_isBelow_1 (by decide) (fun c_1 => ?_) (fun c_1 => ?_)
  · refine lv_iconst (v := nI 0) hx hb dX6_isBelow_13 (by decide) ?_
    refine tope (y := bI (isB x n)) (by first | exact bI_t (isB_3 hn c_1 c_6) | exact bI_f (isB_1 c_1) | exact bI_f (isB_2 hn c_6)) ?_
    exact RET _ _ _ _ _ () dX6_isBelow_14 (nbI _) rfl hP hS
  · refine lv_iload_n hx hb dX6_isBelow_4 rfl (lv_at hl 0 rfl) ?_
    refine lv_iload_n hx hb dX6_isBelow_5 rfl (lv_at hl 1 rfl) ?_
    refine lv_icmp_ge (tgt := 13) hx hb dX6_isBelow_6 (by decide) (fun c_6 => ?_) (fun c_6 => ?_)
    · refine lv_iconst (v := nI 0) hx hb dX6_isBelow_13 (by decide) ?_
      refine tope (y := bI (isB x n)) (by first | exact bI_t (isB_3 hn c_1 c_6) | exact bI_f (isB_1 c_1) | exact bI_f (isB_2 hn c_6)) ?_
      exact RET _ _ _ _ _ () dX6_isBelow_14 (nbI _) rfl hP hS
    · refine lv_iconst (v := nI 1) hx hb dX6_isBelow_9 (by decide) ?_
      refine lv_goto (tgt := 14) hx hb dX6_isBelow_10 (by decide) ?_
      refine tope (y := bI (isB x n)) (by first | exact bI_t (isB_3 hn c_1 c_6) | exact bI_f (isB_1 c_1) | exact bI_f (isB_2 hn c_6)) ?_
      exact RET _ _ _ _ _ () dX6_isBelow_14 (nbI _) rfl hP hS
abbrev rm_X6_oneIf : Room := { frames := 0, cells := 0, slots := 0, locals := 0 }
theorem yd_X6_oneIf : yX6_oneIf.cls ≠ "java/lang/invoke/MethodHandle" ∧ yX6_oneIf.cls ≠ "java/lang/invoke/VarHandle" ∧ (parseMethodDescriptor yX6_oneIf.desc).map (fun d => d.parameters.length) = some 1 := by decide +kernel
set_option maxHeartbeats 4000000 in
set_option maxRecDepth 100000 in
theorem c_X6_oneIf (l : Launch) (D : va_G) (cA : ClassId) (b : Bool)  : RO l D cA yX6_oneIf wsX6_oneIf rm_X6_oneIf [.int (bI b)] [] (nI (b2n b)) := by
  refine ofWi (cc := cX6_oneIf) (maxL := 1) (rt := .int) (by decide) rfl (Nat.le_of_ble_eq_true rfl) ?_
  intro p e s m args below meth c Q A ls F hK hR hP hD hA hS hl RET
  obtain ⟨hx, hb, hml, hown, hts⟩ := id F
  have hl : lv_has ls 1 [(0, .int (bI b))] := hl
  refine lv_iload_n hx hb dX6_oneIf_0 rfl (lv_at hl 0 rfl) ?_
  refine bv_if_eq (tgt := 8) hx hb dX6_oneIf_1 (by decide) (fun c_1 => ?_) (fun c_1 => ?_)
  · refine lv_iconst (v := nI 0) hx hb dX6_oneIf_8 (by decide) ?_
    refine tope (y := nI (b2n b)) (by rw [c_1]; rfl) ?_
    exact RET _ _ _ _ _ () dX6_oneIf_9 rfl rfl hP hS
  · refine lv_iconst (v := nI 1) hx hb dX6_oneIf_4 (by decide) ?_
    refine lv_goto (tgt := 9) hx hb dX6_oneIf_5 (by decide) ?_
    refine tope (y := nI (b2n b)) (by rw [c_1]; rfl) ?_
    exact RET _ _ _ _ _ () dX6_oneIf_9 rfl rfl hP hS
abbrev rm_X6_dollOf : Room := { frames := 1, cells := 0, slots := 0, locals := 20 }
theorem yd_X6_dollOf : yX6_dollOf.cls ≠ "java/lang/invoke/MethodHandle" ∧ yX6_dollOf.cls ≠ "java/lang/invoke/VarHandle" ∧ (parseMethodDescriptor yX6_dollOf.desc).map (fun d => d.parameters.length) = some 2 := by decide +kernel
set_option maxHeartbeats 4000000 in
set_option maxRecDepth 100000 in
theorem c_X6_dollOf (l : Launch) (D : va_G) (cA : ClassId) (k : Nat) (b : Bool)  : RO l D cA yX6_dollOf wsX6_dollOf rm_X6_dollOf [.int (nI k), .int (bI b)] [] (nI (2 * k + b2n b)) := by
  refine ofWi (cc := cX6_dollOf) (maxL := 2) (rt := .int) (by decide) rfl (Nat.le_of_ble_eq_true rfl) ?_
  intro p e s m args below meth c Q A ls F hK hR hP hD hA hS hl RET
  obtain ⟨hx, hb, hml, hown, hts⟩ := id F
  have hl : lv_has ls 2 [(0, .int (nI k)), (1, .int (bI b))] := hl
  refine lv_iconst (v := nI 2) hx hb dX6_dollOf_0 (by decide) ?_
  refine lv_iload_n hx hb dX6_dollOf_1 rfl (lv_at hl 0 rfl) ?_
  refine nv_imul hx hb dX6_dollOf_2 ?_
  refine lv_iload_n hx hb dX6_dollOf_3 rfl (lv_at hl 1 rfl) ?_
  refine call_s (As := [.int (bI b)]) (rest := [.int (nI (2 * k))]) F (c_X6_oneIf l D cA b) (va_cwS 1 hts gX6_dollOf_X6_oneIf rfl rfl rfl yd_X6_oneIf ⟨Nat.le_of_ble_eq_true rfl, Nat.le_of_ble_eq_true rfl⟩) hK hR hP hD hA hS rfl hl.1 rfl (Nat.le_of_ble_eq_true rfl) dX6_dollOf_4 ⟨Nat.zero_le _, Nat.zero_le _⟩ (fun H locs hP hS => ?_)
  refine nv_iadd hx hb dX6_dollOf_7 ?_
  refine tope (y := nI (2 * k + b2n b)) (by rfl) ?_
  exact RET _ _ _ _ _ () dX6_dollOf_8 rfl rfl hP hS
abbrev rm_X6_kindOf : Room := { frames := 0, cells := 0, slots := 0, locals := 0 }
theorem yd_X6_kindOf : yX6_kindOf.cls ≠ "java/lang/invoke/MethodHandle" ∧ yX6_kindOf.cls ≠ "java/lang/invoke/VarHandle" ∧ (parseMethodDescriptor yX6_kindOf.desc).map (fun d => d.parameters.length) = some 1 := by decide +kernel
set_option maxHeartbeats 4000000 in
set_option maxRecDepth 100000 in
theorem c_X6_kindOf (l : Launch) (D : va_G) (cA : ClassId) (d : Nat) (hd : d < 2 ^ 31) : RO l D cA yX6_kindOf wsX6_kindOf rm_X6_kindOf [.int (nI d)] [] (nI (d / 2)) := by
  refine ofWi (cc := cX6_kindOf) (maxL := 1) (rt := .int) (by decide) rfl (Nat.le_of_ble_eq_true rfl) ?_
  intro p e s m args below meth c Q A ls F hK hR hP hD hA hS hl RET
  obtain ⟨hx, hb, hml, hown, hts⟩ := id F
  have hl : lv_has ls 1 [(0, .int (nI d))] := hl
  refine lv_iload_n hx hb dX6_kindOf_0 rfl (lv_at hl 0 rfl) ?_
  refine lv_iconst (v := nI 1) hx hb dX6_kindOf_1 (by decide) ?_
  refine nv_shr1 hx hb dX6_kindOf_2 (by omega) ?_
  exact RET _ _ _ _ _ () dX6_kindOf_3 rfl rfl hP hS
abbrev rm_X6_isMirrored : Room := { frames := 0, cells := 0, slots := 0, locals := 0 }
theorem yd_X6_isMirrored : yX6_isMirrored.cls ≠ "java/lang/invoke/MethodHandle" ∧ yX6_isMirrored.cls ≠ "java/lang/invoke/VarHandle" ∧ (parseMethodDescriptor yX6_isMirrored.desc).map (fun d => d.parameters.length) = some 1 := by decide +kernel
set_option maxHeartbeats 4000000 in
set_option maxRecDepth 100000 in
theorem c_X6_isMirrored (l : Launch) (D : va_G) (cA : ClassId) (d : Nat) (hd : d < 2 ^ 31) : RO l D cA yX6_isMirrored wsX6_isMirrored rm_X6_isMirrored [.int (nI d)] [] (bI (mr d)) := by
  refine ofWi (cc := cX6_isMirrored) (maxL := 1) (rt := .boolean) (by decide) rfl (Nat.le_of_ble_eq_true rfl) ?_
  intro p e s m args below meth c Q A ls F hK hR hP hD hA hS hl RET
  obtain ⟨hx, hb, hml, hown, hts⟩ := id F
  have hl : lv_has ls 1 [(0, .int (nI d))] := hl
  refine lv_iload_n hx hb dX6_isMirrored_0 rfl (lv_at hl 0 rfl) ?_
  refine lv_iconst (v := nI 1) hx hb dX6_isMirrored_1 (by decide) ?_
  refine nv_and1 hx hb dX6_isMirrored_2 (by omega) ?_
  refine lv_iconst (v := nI 1) hx hb dX6_isMirrored_3 (by decide) ?_
  refine nv_icmp_ne (tgt := 11) hx hb dX6_isMirrored_4 (by decide) (by omega) (by decide) (fun c_4 => ?_) (fun c_4 => ?_)
  · refine lv_iconst (v := nI 0) hx hb dX6_isMirrored_11 (by decide) ?_
    refine tope (y := bI (mr d)) (by first | exact bI_f (by simp [mr, c_4]) | exact bI_t (by simp [mr, c_4])) ?_
    exact RET _ _ _ _ _ () dX6_isMirrored_12 (nbI _) rfl hP hS
  · refine lv_iconst (v := nI 1) hx hb dX6_isMirrored_7 (by decide) ?_
    refine lv_goto (tgt := 12) hx hb dX6_isMirrored_8 (by decide) ?_
    refine tope (y := bI (mr d)) (by first | exact bI_f (by simp [mr, c_4]) | exact bI_t (by simp [mr, c_4])) ?_
    exact RET _ _ _ _ _ () dX6_isMirrored_12 (nbI _) rfl hP hS
abbrev rm_X6_mirrorOf : Room := { frames := 0, cells := 0, slots := 0, locals := 0 }
theorem yd_X6_mirrorOf : yX6_mirrorOf.cls ≠ "java/lang/invoke/MethodHandle" ∧ yX6_mirrorOf.cls ≠ "java/lang/invoke/VarHandle" ∧ (parseMethodDescriptor yX6_mirrorOf.desc).map (fun d => d.parameters.length) = some 1 := by decide +kernel
set_option maxHeartbeats 4000000 in
set_option maxRecDepth 100000 in
theorem c_X6_mirrorOf (l : Launch) (D : va_G) (cA : ClassId) (d : Nat)  : RO l D cA yX6_mirrorOf wsX6_mirrorOf rm_X6_mirrorOf [.int (nI d)] [] (nI (mir d)) := by
  refine ofWi (cc := cX6_mirrorOf) (maxL := 1) (rt := .int) (by decide) rfl (Nat.le_of_ble_eq_true rfl) ?_
  intro p e s m args below meth c Q A ls F hK hR hP hD hA hS hl RET
  obtain ⟨hx, hb, hml, hown, hts⟩ := id F
  have hl : lv_has ls 1 [(0, .int (nI d))] := hl
  refine lv_iload_n hx hb dX6_mirrorOf_0 rfl (lv_at hl 0 rfl) ?_
  refine lv_iconst (v := nI 1) hx hb dX6_mirrorOf_1 (by decide) ?_
  refine nv_xor1 hx hb dX6_mirrorOf_2 ?_
  exact RET _ _ _ _ _ () dX6_mirrorOf_3 rfl rfl hP hS
abbrev rm_X3_at : Room := { frames := 0, cells := 0, slots := 0, locals := 0 }
theorem ydv_X3_at : yX3_at.cls = RX3 ∧ yX3_at.cls ≠ "java/lang/invoke/MethodHandle" ∧ yX3_at.cls ≠ "java/lang/invoke/VarHandle" ∧ (parseMethodDescriptor yX3_at.desc).map (fun d => d.parameters.length) = some 1 := by decide +kernel
theorem inf_X3_at_X3 : ∀ w ∈ wsX30, w ∈ wsX3_at := fun w h => List.mem_cons_of_mem _ (List.mem_append_right _ (h))
set_option maxHeartbeats 4000000 in
set_option maxRecDepth 100000 in
theorem c_X3_at (l : Launch) (D : va_G) (cA : ClassId) (h0 h1 n : Nat) (a : Nat → Nat) (i : Nat) (hi : i < n) (hn : n < 2 ^ 31) : RO l D cA yX3_at wsX3_at rm_X3_at [.ref h0, .int (nI i)] [(h0, .inr (3, [.ref h1])), (h1, .inl (cA, n, .inl (nF a)))] (nI (a i)) := by
  refine ofWi (cc := cX3_at) (maxL := 2) (rt := .int) (by decide) rfl (Nat.le_of_ble_eq_true rfl) ?_
  intro p e s m args below meth c Q A ls F hK hR hP hD hA hS hl RET
  obtain ⟨hx, hb, hml, hown, hts⟩ := id F
  have hl : lv_has ls 2 [(0, .ref h0), (1, .int (nI i))] := hl
  refine lv_iload_n hx hb dX3_at_0 rfl (lv_at hl 1 rfl) ?_
  refine nv_if_lt (tgt := 22) hx hb dX3_at_1 (by decide) (by omega) (fun _ => ?_)
  refine lv_iload_n hx hb dX3_at_4 rfl (lv_at hl 1 rfl) ?_
  refine lv_aload_n hx hb dX3_at_5 rfl (lv_at hl 0 rfl) ?_
  refine va_get (D := D) (cl := vwCl) (ci := 3) (v := .ref h1) (C := RX3) (T := TX3) (N := 1) hx hb hts inf_X3_at_X3 hown hK.1 (hR.at hS) 0 rfl rfl 0 (by decide) (hts _ (List.mem_of_getElem? (i := 1) rfl)) (fun _ h9 => h9) rfl dX3_at_6 ?_
  refine va_alen (v := nI n) hx hb hK.1 (hR.at hS) 1 0 rfl rfl rfl dX3_at_9 ?_
  refine nv_icmp_ge (tgt := 22) hx hb dX3_at_10 (by decide) (by omega) (by omega) (fun c_10 => absurd c_10 (by omega)) (fun c_10 => ?_)
  refine lv_aload_n hx hb dX3_at_13 rfl (lv_at hl 0 rfl) ?_
  refine va_get (D := D) (cl := vwCl) (ci := 3) (v := .ref h1) (C := RX3) (T := TX3) (N := 1) hx hb hts inf_X3_at_X3 hown hK.1 (hR.at hS) 0 rfl rfl 0 (by decide) (hts _ (List.mem_of_getElem? (i := 1) rfl)) (fun _ h9 => h9) rfl dX3_at_14 ?_
  refine lv_iload_n hx hb dX3_at_17 rfl (lv_at hl 1 rfl) ?_
  refine nv_iald (a := a) hx hb hK (hR.at hS) 1 rfl (by omega) (by omega) dX3_at_18 ?_
  refine lv_goto (tgt := 23) hx hb dX3_at_19 (by decide) ?_
  exact RET _ _ _ _ _ () dX3_at_23 rfl rfl hP hS
abbrev rm_X3_put : Room := { frames := 0, cells := 0, slots := 0, locals := 0 }
theorem ydv_X3_put : yX3_put.cls = RX3 ∧ yX3_put.cls ≠ "java/lang/invoke/MethodHandle" ∧ yX3_put.cls ≠ "java/lang/invoke/VarHandle" ∧ (parseMethodDescriptor yX3_put.desc).map (fun d => d.parameters.length) = some 2 := by decide +kernel
theorem inf_X3_put_X3 : ∀ w ∈ wsX30, w ∈ wsX3_put := fun w h => List.mem_cons_of_mem _ (List.mem_append_right _ (h))
set_option maxHeartbeats 4000000 in
set_option maxRecDepth 100000 in
theorem c_X3_put (l : Launch) (D : va_G) (cA : ClassId) (h0 h1 n : Nat) (a : Nat → Nat) (i v : Nat) (hi : i < n) (hn : n < 2 ^ 31) : MV l D cA yX3_put wsX3_put rm_X3_put [.ref h0, .int (nI i), .int (nI v)] [(h0, .inr (3, [.ref h1]))] [(h1, .inl (cA, n, .inl (nF a)))] (S := Unit) (fun _ => True) (fun _ => [(h1, .inl (cA, n, .inl (nF (updN a i v))))]) := by
  refine ofWv (cc := cX3_put) (maxL := 3) (by decide) rfl (Nat.le_of_ble_eq_true rfl) ?_
  intro p e s m args below meth c Q A ls F hK hR hP hD hA hS hl RET
  obtain ⟨hx, hb, hml, hown, hts⟩ := id F
  have hl : lv_has ls 3 [(0, .ref h0), (1, .int (nI i)), (2, .int (nI v))] := hl
  refine lv_iload_n hx hb dX3_put_0 rfl (lv_at hl 1 rfl) ?_
  refine nv_if_lt (tgt := 20) hx hb dX3_put_1 (by decide) (by omega) (fun _ => ?_)
  refine lv_iload_n hx hb dX3_put_4 rfl (lv_at hl 1 rfl) ?_
  refine lv_aload_n hx hb dX3_put_5 rfl (lv_at hl 0 rfl) ?_
  refine va_get (D := D) (cl := vwCl) (ci := 3) (v := .ref h1) (C := RX3) (T := TX3) (N := 1) hx hb hts inf_X3_put_X3 hown hK.1 (hR.at hS) 0 rfl rfl 0 (by decide) (hts _ (List.mem_of_getElem? (i := 1) rfl)) (fun _ h9 => h9) rfl dX3_put_6 ?_
  refine va_alen (v := nI n) hx hb hK.1 hP 0 0 rfl rfl rfl dX3_put_9 ?_
  refine nv_icmp_ge (tgt := 20) hx hb dX3_put_10 (by decide) (by omega) (by omega) (fun c_10 => absurd c_10 (by omega)) (fun c_10 => ?_)
  refine lv_aload_n hx hb dX3_put_13 rfl (lv_at hl 0 rfl) ?_
  refine va_get (D := D) (cl := vwCl) (ci := 3) (v := .ref h1) (C := RX3) (T := TX3) (N := 1) hx hb hts inf_X3_put_X3 hown hK.1 (hR.at hS) 0 rfl rfl 0 (by decide) (hts _ (List.mem_of_getElem? (i := 1) rfl)) (fun _ h9 => h9) rfl dX3_put_14 ?_
  refine lv_iload_n hx hb dX3_put_17 rfl (lv_at hl 1 rfl) ?_
  refine lv_iload_n hx hb dX3_put_18 rfl (lv_at hl 2 rfl) ?_
  refine nv_iast (a := a) (v := v) hx hb hK hP hD hS 0 rfl (by omega) (by omega) dX3_put_19 (fun H locs hP hD hS => ?_)
  have hP : va_P D vwCl [(h1, .inl (cA, n, .inl (nF (updN a i v))))] H := hP
  have hD : va_D A [(h1, .inl (cA, n, .inl (nF (updN a i v))))] := hD
  exact RET _ _ _ _ () dX3_put_20 trivial hP hS
abbrev rm_X3_copyFrom : Room := { frames := 1, cells := 0, slots := 0, locals := 26 }
theorem ydv_X3_copyFrom : yX3_copyFrom.cls = RX3 ∧ yX3_copyFrom.cls ≠ "java/lang/invoke/MethodHandle" ∧ yX3_copyFrom.cls ≠ "java/lang/invoke/VarHandle" ∧ (parseMethodDescriptor yX3_copyFrom.desc).map (fun d => d.parameters.length) = some 4 := by decide +kernel
theorem inf_X3_copyFrom_X3 : ∀ w ∈ wsX30, w ∈ wsX3_copyFrom := fun w h => List.mem_cons_of_mem _ (List.mem_append_right _ (h))
set_option maxHeartbeats 4000000 in
set_option maxRecDepth 100000 in
theorem c_X3_copyFrom (l : Launch) (D : va_G) (cA : ClassId) (h0 h1 g0 g1 n k : Nat) (a b : Nat → Nat) (f t z : Nat) (e1 : f + z ≤ k) (e2 : t + z ≤ n) (hn : n < 2 ^ 31) (hk : k < 2 ^ 31) : MV l D cA yX3_copyFrom wsX3_copyFrom rm_X3_copyFrom [.ref h0, .ref g0, .int (nI f), .int (nI t), .int (nI z)] [(h0, .inr (3, [.ref h1])), (g0, .inr (3, [.ref g1]))] [(g1, .inl (cA, k, .inl (nF b))), (h1, .inl (cA, n, .inl (nF a)))] (S := Unit) (fun _ => True) (fun _ => [(g1, .inl (cA, k, .inl (nF b))), (h1, .inl (cA, n, .inl (nF (cpyN b a f t z))))]) := by
  refine ofWv (cc := cX3_copyFrom) (maxL := 5) (by decide) rfl (Nat.le_of_ble_eq_true rfl) ?_
  intro p e s m args below meth c Q A ls F hK hR hP hD hA hS hl RET
  obtain ⟨hx, hb, hml, hown, hts⟩ := id F
  have hl : lv_has ls 5 [(0, .ref h0), (1, .ref g0), (2, .int (nI f)), (3, .int (nI t)), (4, .int (nI z))] := hl
  refine lv_aload_n hx hb dX3_copyFrom_0 rfl (lv_at hl 1 rfl) ?_
  refine lv_ifnull hx hb dX3_copyFrom_1 ?_
  refine lv_iload hx hb dX3_copyFrom_4 (lv_at hl 4 rfl) ?_
  refine nv_if_lt (tgt := 17) hx hb dX3_copyFrom_6 (by decide) (by omega) (fun _ => ?_)
  refine lv_iload_n hx hb dX3_copyFrom_9 rfl (lv_at hl 2 rfl) ?_
  refine nv_if_lt (tgt := 17) hx hb dX3_copyFrom_10 (by decide) (by omega) (fun _ => ?_)
  refine lv_iload_n hx hb dX3_copyFrom_13 rfl (lv_at hl 3 rfl) ?_
  refine nv_if_ge (tgt := 18) hx hb dX3_copyFrom_14 (by decide) (by omega) (fun _ => ?_)
  refine lv_iload_n hx hb dX3_copyFrom_18 rfl (lv_at hl 2 rfl) ?_
  refine lv_aload_n hx hb dX3_copyFrom_19 rfl (lv_at hl 1 rfl) ?_
  refine va_get (D := D) (cl := vwCl) (ci := 3) (v := .ref g1) (C := RX3) (T := TX3) (N := 1) hx hb hts inf_X3_copyFrom_X3 hown hK.1 (hR.at hS) 1 rfl rfl 0 (by decide) (hts _ (List.mem_of_getElem? (i := 1) rfl)) (fun _ h9 => h9) rfl dX3_copyFrom_20 ?_
  refine va_alen (v := nI k) hx hb hK.1 hP 0 0 rfl rfl rfl dX3_copyFrom_23 ?_
  refine lv_iload hx hb dX3_copyFrom_24 (lv_at hl 4 rfl) ?_
  refine nv_isub hx hb dX3_copyFrom_26 (by omega) ?_
  refine nv_icmp_gt (tgt := 57) hx hb dX3_copyFrom_27 (by decide) (by omega) (by omega) (fun c_27 => absurd c_27 (by omega)) (fun c_27 => ?_)
  refine lv_iload_n hx hb dX3_copyFrom_30 rfl (lv_at hl 3 rfl) ?_
  refine lv_aload_n hx hb dX3_copyFrom_31 rfl (lv_at hl 0 rfl) ?_
  refine va_get (D := D) (cl := vwCl) (ci := 3) (v := .ref h1) (C := RX3) (T := TX3) (N := 1) hx hb hts inf_X3_copyFrom_X3 hown hK.1 (hR.at hS) 0 rfl rfl 0 (by decide) (hts _ (List.mem_of_getElem? (i := 1) rfl)) (fun _ h9 => h9) rfl dX3_copyFrom_32 ?_
  refine va_alen (v := nI n) hx hb hK.1 hP 1 0 rfl rfl rfl dX3_copyFrom_35 ?_
  refine lv_iload hx hb dX3_copyFrom_36 (lv_at hl 4 rfl) ?_
  refine nv_isub hx hb dX3_copyFrom_38 (by omega) ?_
  refine nv_icmp_gt (tgt := 57) hx hb dX3_copyFrom_39 (by decide) (by omega) (by omega) (fun c_39 => absurd c_39 (by omega)) (fun c_39 => ?_)
  refine lv_aload_n hx hb dX3_copyFrom_42 rfl (lv_at hl 1 rfl) ?_
  refine va_get (D := D) (cl := vwCl) (ci := 3) (v := .ref g1) (C := RX3) (T := TX3) (N := 1) hx hb hts inf_X3_copyFrom_X3 hown hK.1 (hR.at hS) 1 rfl rfl 0 (by decide) (hts _ (List.mem_of_getElem? (i := 1) rfl)) (fun _ h9 => h9) rfl dX3_copyFrom_43 ?_
  refine lv_iload_n hx hb dX3_copyFrom_46 rfl (lv_at hl 2 rfl) ?_
  refine lv_aload_n hx hb dX3_copyFrom_47 rfl (lv_at hl 0 rfl) ?_
  refine va_get (D := D) (cl := vwCl) (ci := 3) (v := .ref h1) (C := RX3) (T := TX3) (N := 1) hx hb hts inf_X3_copyFrom_X3 hown hK.1 (hR.at hS) 0 rfl rfl 0 (by decide) (hts _ (List.mem_of_getElem? (i := 1) rfl)) (fun _ h9 => h9) rfl dX3_copyFrom_48 ?_
  refine lv_iload_n hx hb dX3_copyFrom_51 rfl (lv_at hl 3 rfl) ?_
  refine lv_iload hx hb dX3_copyFrom_52 (lv_at hl 4 rfl) ?_
  refine nv_copy hx hb (by rw [hml]; exact hl.1.symm) hown (hts _ (List.mem_of_getElem? (i := 2) rfl)) (hts _ (List.mem_of_getElem? (i := 3) rfl)) (hts _ (List.mem_of_getElem? (i := 4) rfl)) (hts _ (List.mem_of_getElem? (i := 5) rfl)) hK hP hD hS 0 1 rfl rfl (by omega) (by omega) (by omega) (by omega) (Nat.le_of_ble_eq_true rfl) (Nat.le_of_ble_eq_true rfl) dX3_copyFrom_54 (fun H locs hP hD hS => ?_)
  have hP : va_P D vwCl [(g1, .inl (cA, k, .inl (nF b))), (h1, .inl (cA, n, .inl (nF (cpyN b a f t z))))] H := hP
  have hD : va_D A [(g1, .inl (cA, k, .inl (nF b))), (h1, .inl (cA, n, .inl (nF (cpyN b a f t z))))] := hD
  exact RET _ _ _ _ () dX3_copyFrom_57 trivial hP hS
set_option maxHeartbeats 4000000 in
set_option maxRecDepth 100000 in
theorem c_X3_copyFromS (l : Launch) (D : va_G) (cA : ClassId) (h0 h1 n : Nat) (a : Nat → Nat) (f t z : Nat) (e1 : f + z ≤ n) (e2 : t + z ≤ n) (hn : n < 2 ^ 31) : MV l D cA yX3_copyFrom wsX3_copyFrom rm_X3_copyFrom [.ref h0, .ref h0, .int (nI f), .int (nI t), .int (nI z)] [(h0, .inr (3, [.ref h1]))] [(h1, .inl (cA, n, .inl (nF a)))] (S := Unit) (fun _ => True) (fun _ => [(h1, .inl (cA, n, .inl (nF (cpyN a a f t z))))]) := by
  refine ofWv (cc := cX3_copyFrom) (maxL := 5) (by decide) rfl (Nat.le_of_ble_eq_true rfl) ?_
  intro p e s m args below meth c Q A ls F hK hR hP hD hA hS hl RET
  obtain ⟨hx, hb, hml, hown, hts⟩ := id F
  have hl : lv_has ls 5 [(0, .ref h0), (1, .ref h0), (2, .int (nI f)), (3, .int (nI t)), (4, .int (nI z))] := hl
  refine lv_aload_n hx hb dX3_copyFrom_0 rfl (lv_at hl 1 rfl) ?_
  refine lv_ifnull hx hb dX3_copyFrom_1 ?_
  refine lv_iload hx hb dX3_copyFrom_4 (lv_at hl 4 rfl) ?_
  refine nv_if_lt (tgt := 17) hx hb dX3_copyFrom_6 (by decide) (by omega) (fun _ => ?_)
  refine lv_iload_n hx hb dX3_copyFrom_9 rfl (lv_at hl 2 rfl) ?_
  refine nv_if_lt (tgt := 17) hx hb dX3_copyFrom_10 (by decide) (by omega) (fun _ => ?_)
  refine lv_iload_n hx hb dX3_copyFrom_13 rfl (lv_at hl 3 rfl) ?_
  refine nv_if_ge (tgt := 18) hx hb dX3_copyFrom_14 (by decide) (by omega) (fun _ => ?_)
  refine lv_iload_n hx hb dX3_copyFrom_18 rfl (lv_at hl 2 rfl) ?_
  refine lv_aload_n hx hb dX3_copyFrom_19 rfl (lv_at hl 1 rfl) ?_
  refine va_get (D := D) (cl := vwCl) (ci := 3) (v := .ref h1) (C := RX3) (T := TX3) (N := 1) hx hb hts inf_X3_copyFrom_X3 hown hK.1 (hR.at hS) 0 rfl rfl 0 (by decide) (hts _ (List.mem_of_getElem? (i := 1) rfl)) (fun _ h9 => h9) rfl dX3_copyFrom_20 ?_
  refine va_alen (v := nI n) hx hb hK.1 hP 0 0 rfl rfl rfl dX3_copyFrom_23 ?_
  refine lv_iload hx hb dX3_copyFrom_24 (lv_at hl 4 rfl) ?_
  refine nv_isub hx hb dX3_copyFrom_26 (by omega) ?_
  refine nv_icmp_gt (tgt := 57) hx hb dX3_copyFrom_27 (by decide) (by omega) (by omega) (fun c_27 => absurd c_27 (by omega)) (fun c_27 => ?_)
  refine lv_iload_n hx hb dX3_copyFrom_30 rfl (lv_at hl 3 rfl) ?_
  refine lv_aload_n hx hb dX3_copyFrom_31 rfl (lv_at hl 0 rfl) ?_
  refine va_get (D := D) (cl := vwCl) (ci := 3) (v := .ref h1) (C := RX3) (T := TX3) (N := 1) hx hb hts inf_X3_copyFrom_X3 hown hK.1 (hR.at hS) 0 rfl rfl 0 (by decide) (hts _ (List.mem_of_getElem? (i := 1) rfl)) (fun _ h9 => h9) rfl dX3_copyFrom_32 ?_
  refine va_alen (v := nI n) hx hb hK.1 hP 0 0 rfl rfl rfl dX3_copyFrom_35 ?_
  refine lv_iload hx hb dX3_copyFrom_36 (lv_at hl 4 rfl) ?_
  refine nv_isub hx hb dX3_copyFrom_38 (by omega) ?_
  refine nv_icmp_gt (tgt := 57) hx hb dX3_copyFrom_39 (by decide) (by omega) (by omega) (fun c_39 => absurd c_39 (by omega)) (fun c_39 => ?_)
  refine lv_aload_n hx hb dX3_copyFrom_42 rfl (lv_at hl 1 rfl) ?_
  refine va_get (D := D) (cl := vwCl) (ci := 3) (v := .ref h1) (C := RX3) (T := TX3) (N := 1) hx hb hts inf_X3_copyFrom_X3 hown hK.1 (hR.at hS) 0 rfl rfl 0 (by decide) (hts _ (List.mem_of_getElem? (i := 1) rfl)) (fun _ h9 => h9) rfl dX3_copyFrom_43 ?_
  refine lv_iload_n hx hb dX3_copyFrom_46 rfl (lv_at hl 2 rfl) ?_
  refine lv_aload_n hx hb dX3_copyFrom_47 rfl (lv_at hl 0 rfl) ?_
  refine va_get (D := D) (cl := vwCl) (ci := 3) (v := .ref h1) (C := RX3) (T := TX3) (N := 1) hx hb hts inf_X3_copyFrom_X3 hown hK.1 (hR.at hS) 0 rfl rfl 0 (by decide) (hts _ (List.mem_of_getElem? (i := 1) rfl)) (fun _ h9 => h9) rfl dX3_copyFrom_48 ?_
  refine lv_iload_n hx hb dX3_copyFrom_51 rfl (lv_at hl 3 rfl) ?_
  refine lv_iload hx hb dX3_copyFrom_52 (lv_at hl 4 rfl) ?_
  refine nv_copy hx hb (by rw [hml]; exact hl.1.symm) hown (hts _ (List.mem_of_getElem? (i := 2) rfl)) (hts _ (List.mem_of_getElem? (i := 3) rfl)) (hts _ (List.mem_of_getElem? (i := 4) rfl)) (hts _ (List.mem_of_getElem? (i := 5) rfl)) hK hP hD hS 0 0 rfl rfl (by omega) (by omega) (by omega) (by omega) (Nat.le_of_ble_eq_true rfl) (Nat.le_of_ble_eq_true rfl) dX3_copyFrom_54 (fun H locs hP hD hS => ?_)
  have hP : va_P D vwCl [(h1, .inl (cA, n, .inl (nF (cpyN a a f t z))))] H := hP
  have hD : va_D A [(h1, .inl (cA, n, .inl (nF (cpyN a a f t z))))] := hD
  exact RET _ _ _ _ () dX3_copyFrom_57 trivial hP hS
abbrev rm_X4_ruleNow : Room := { frames := 1, cells := 0, slots := 0, locals := 21 }
theorem ydv_X4_ruleNow : yX4_ruleNow.cls = RX4 ∧ yX4_ruleNow.cls ≠ "java/lang/invoke/MethodHandle" ∧ yX4_ruleNow.cls ≠ "java/lang/invoke/VarHandle" ∧ (parseMethodDescriptor yX4_ruleNow.desc).map (fun d => d.parameters.length) = some 0 := by decide +kernel
theorem inf_X4_ruleNow_X4 : ∀ w ∈ wsX40, w ∈ wsX4_ruleNow := fun w h => List.mem_cons_of_mem _ (List.mem_append_left _ (List.mem_append_right _ (h)))
set_option maxHeartbeats 4000000 in
set_option maxRecDepth 100000 in
theorem c_X4_ruleNow (l : Launch) (D : va_G) (cA : ClassId) (h0 h1 h2 : Nat) (a : Nat → Nat)   : RO l D cA yX4_ruleNow wsX4_ruleNow rm_X4_ruleNow [.ref h0] [(h0, .inr (4, [.ref h1])), (h1, .inr (3, [.ref h2])), (h2, .inl (cA, 286, .inl (nF a)))] (nI (a 0)) := by
  refine ofWi (cc := cX4_ruleNow) (maxL := 1) (rt := .int) (by decide) rfl (Nat.le_of_ble_eq_true rfl) ?_
  intro p e s m args below meth c Q A ls F hK hR hP hD hA hS hl RET
  obtain ⟨hx, hb, hml, hown, hts⟩ := id F
  have hl : lv_has ls 1 [(0, .ref h0)] := hl
  refine lv_aload_n hx hb dX4_ruleNow_0 rfl (lv_at hl 0 rfl) ?_
  refine va_get (D := D) (cl := vwCl) (ci := 4) (v := .ref h1) (C := RX4) (T := TX4) (N := 1) hx hb hts inf_X4_ruleNow_X4 hown hK.1 (hR.at hS) 0 rfl rfl 0 (by decide) (hts _ (List.mem_of_getElem? (i := 1) rfl)) (fun _ h9 => h9) rfl dX4_ruleNow_1 ?_
  refine lv_iconst (v := nI 0) hx hb dX4_ruleNow_4 (by decide) ?_
  refine call_r (q := (RX3, TX3, 1)) (As := [.int (nI 0)]) (rest := []) F (c_X3_at l D cA h1 h2 286 a 0 (by omega) (by decide)) (cwV 1 hts gX4_ruleNow_X3_at rfl rfl rfl ydv_X3_at ⟨Nat.le_of_ble_eq_true rfl, Nat.le_of_ble_eq_true rfl⟩) hK hR hP hD hA hS [1, 2] rfl rfl 1 3 rfl rfl rfl hl.1 rfl (Nat.le_of_ble_eq_true rfl) dX4_ruleNow_5 ⟨Nat.zero_le _, Nat.zero_le _⟩ (fun H locs hP hS => ?_)
  exact RET _ _ _ _ _ () dX4_ruleNow_8 rfl rfl hP hS
abbrev rm_X4_kindsNow : Room := { frames := 1, cells := 0, slots := 0, locals := 21 }
theorem ydv_X4_kindsNow : yX4_kindsNow.cls = RX4 ∧ yX4_kindsNow.cls ≠ "java/lang/invoke/MethodHandle" ∧ yX4_kindsNow.cls ≠ "java/lang/invoke/VarHandle" ∧ (parseMethodDescriptor yX4_kindsNow.desc).map (fun d => d.parameters.length) = some 0 := by decide +kernel
theorem inf_X4_kindsNow_X4 : ∀ w ∈ wsX40, w ∈ wsX4_kindsNow := fun w h => List.mem_cons_of_mem _ (List.mem_append_left _ (List.mem_append_right _ (h)))
set_option maxHeartbeats 4000000 in
set_option maxRecDepth 100000 in
theorem c_X4_kindsNow (l : Launch) (D : va_G) (cA : ClassId) (h0 h1 h2 : Nat) (a : Nat → Nat)   : RO l D cA yX4_kindsNow wsX4_kindsNow rm_X4_kindsNow [.ref h0] [(h0, .inr (4, [.ref h1])), (h1, .inr (3, [.ref h2])), (h2, .inl (cA, 286, .inl (nF a)))] (nI (a 1)) := by
  refine ofWi (cc := cX4_kindsNow) (maxL := 1) (rt := .int) (by decide) rfl (Nat.le_of_ble_eq_true rfl) ?_
  intro p e s m args below meth c Q A ls F hK hR hP hD hA hS hl RET
  obtain ⟨hx, hb, hml, hown, hts⟩ := id F
  have hl : lv_has ls 1 [(0, .ref h0)] := hl
  refine lv_aload_n hx hb dX4_kindsNow_0 rfl (lv_at hl 0 rfl) ?_
  refine va_get (D := D) (cl := vwCl) (ci := 4) (v := .ref h1) (C := RX4) (T := TX4) (N := 1) hx hb hts inf_X4_kindsNow_X4 hown hK.1 (hR.at hS) 0 rfl rfl 0 (by decide) (hts _ (List.mem_of_getElem? (i := 1) rfl)) (fun _ h9 => h9) rfl dX4_kindsNow_1 ?_
  refine lv_iconst (v := nI 1) hx hb dX4_kindsNow_4 (by decide) ?_
  refine call_r (q := (RX3, TX3, 1)) (As := [.int (nI 1)]) (rest := []) F (c_X3_at l D cA h1 h2 286 a 1 (by omega) (by decide)) (cwV 1 hts gX4_kindsNow_X3_at rfl rfl rfl ydv_X3_at ⟨Nat.le_of_ble_eq_true rfl, Nat.le_of_ble_eq_true rfl⟩) hK hR hP hD hA hS [1, 2] rfl rfl 1 3 rfl rfl rfl hl.1 rfl (Nat.le_of_ble_eq_true rfl) dX4_kindsNow_5 ⟨Nat.zero_le _, Nat.zero_le _⟩ (fun H locs hP hS => ?_)
  exact RET _ _ _ _ _ () dX4_kindsNow_8 rfl rfl hP hS
abbrev rm_X4_putRule : Room := { frames := 1, cells := 0, slots := 0, locals := 22 }
theorem ydv_X4_putRule : yX4_putRule.cls = RX4 ∧ yX4_putRule.cls ≠ "java/lang/invoke/MethodHandle" ∧ yX4_putRule.cls ≠ "java/lang/invoke/VarHandle" ∧ (parseMethodDescriptor yX4_putRule.desc).map (fun d => d.parameters.length) = some 1 := by decide +kernel
theorem inf_X4_putRule_X4 : ∀ w ∈ wsX40, w ∈ wsX4_putRule := fun w h => List.mem_cons_of_mem _ (List.mem_append_left _ (List.mem_append_right _ (h)))
set_option maxHeartbeats 4000000 in
set_option maxRecDepth 100000 in
theorem c_X4_putRule (l : Launch) (D : va_G) (cA : ClassId) (h0 h1 h2 : Nat) (a : Nat → Nat) (v : Nat)  : MV l D cA yX4_putRule wsX4_putRule rm_X4_putRule [.ref h0, .int (nI v)] [(h0, .inr (4, [.ref h1])), (h1, .inr (3, [.ref h2]))] [(h2, .inl (cA, 286, .inl (nF a)))] (S := Unit) (fun _ => True) (fun _ => [(h2, .inl (cA, 286, .inl (nF (updN a 0 v))))]) := by
  refine ofWv (cc := cX4_putRule) (maxL := 2) (by decide) rfl (Nat.le_of_ble_eq_true rfl) ?_
  intro p e s m args below meth c Q A ls F hK hR hP hD hA hS hl RET
  obtain ⟨hx, hb, hml, hown, hts⟩ := id F
  have hl : lv_has ls 2 [(0, .ref h0), (1, .int (nI v))] := hl
  refine lv_aload_n hx hb dX4_putRule_0 rfl (lv_at hl 0 rfl) ?_
  refine va_get (D := D) (cl := vwCl) (ci := 4) (v := .ref h1) (C := RX4) (T := TX4) (N := 1) hx hb hts inf_X4_putRule_X4 hown hK.1 (hR.at hS) 0 rfl rfl 0 (by decide) (hts _ (List.mem_of_getElem? (i := 1) rfl)) (fun _ h9 => h9) rfl dX4_putRule_1 ?_
  refine lv_iconst (v := nI 0) hx hb dX4_putRule_4 (by decide) ?_
  refine lv_iload_n hx hb dX4_putRule_5 rfl (lv_at hl 1 rfl) ?_
  refine call_v (q := (RX3, TX3, 1)) (As := [.int (nI 0), .int (nI v)]) (rest := []) F (c_X3_put l D cA h1 h2 286 a 0 v (by omega) (by decide)) (cwV 2 hts gX4_putRule_X3_put rfl rfl rfl ydv_X3_put ⟨Nat.le_of_ble_eq_true rfl, Nat.le_of_ble_eq_true rfl⟩) hK hR hP hD hA hS [1, 2] [0] rfl rfl rfl 1 3 rfl rfl (fun _ => rfl) rfl hl.1 rfl (Nat.le_of_ble_eq_true rfl) dX4_putRule_6 ⟨Nat.zero_le _, Nat.zero_le _⟩ (fun u_6 H locs hw hP hD hS => ?_)
  have hP : va_P D vwCl [(h2, .inl (cA, 286, .inl (nF (updN a 0 v))))] H := hP
  have hD : va_D A [(h2, .inl (cA, 286, .inl (nF (updN a 0 v))))] := hD
  exact RET _ _ _ _ () dX4_putRule_9 trivial hP hS
abbrev rm_X4_putKinds : Room := { frames := 1, cells := 0, slots := 0, locals := 22 }
theorem ydv_X4_putKinds : yX4_putKinds.cls = RX4 ∧ yX4_putKinds.cls ≠ "java/lang/invoke/MethodHandle" ∧ yX4_putKinds.cls ≠ "java/lang/invoke/VarHandle" ∧ (parseMethodDescriptor yX4_putKinds.desc).map (fun d => d.parameters.length) = some 1 := by decide +kernel
theorem inf_X4_putKinds_X4 : ∀ w ∈ wsX40, w ∈ wsX4_putKinds := fun w h => List.mem_cons_of_mem _ (List.mem_append_left _ (List.mem_append_right _ (h)))
set_option maxHeartbeats 4000000 in
set_option maxRecDepth 100000 in
theorem c_X4_putKinds (l : Launch) (D : va_G) (cA : ClassId) (h0 h1 h2 : Nat) (a : Nat → Nat) (v : Nat)  : MV l D cA yX4_putKinds wsX4_putKinds rm_X4_putKinds [.ref h0, .int (nI v)] [(h0, .inr (4, [.ref h1])), (h1, .inr (3, [.ref h2]))] [(h2, .inl (cA, 286, .inl (nF a)))] (S := Unit) (fun _ => True) (fun _ => [(h2, .inl (cA, 286, .inl (nF (updN a 1 v))))]) := by
  refine ofWv (cc := cX4_putKinds) (maxL := 2) (by decide) rfl (Nat.le_of_ble_eq_true rfl) ?_
  intro p e s m args below meth c Q A ls F hK hR hP hD hA hS hl RET
  obtain ⟨hx, hb, hml, hown, hts⟩ := id F
  have hl : lv_has ls 2 [(0, .ref h0), (1, .int (nI v))] := hl
  refine lv_aload_n hx hb dX4_putKinds_0 rfl (lv_at hl 0 rfl) ?_
  refine va_get (D := D) (cl := vwCl) (ci := 4) (v := .ref h1) (C := RX4) (T := TX4) (N := 1) hx hb hts inf_X4_putKinds_X4 hown hK.1 (hR.at hS) 0 rfl rfl 0 (by decide) (hts _ (List.mem_of_getElem? (i := 1) rfl)) (fun _ h9 => h9) rfl dX4_putKinds_1 ?_
  refine lv_iconst (v := nI 1) hx hb dX4_putKinds_4 (by decide) ?_
  refine lv_iload_n hx hb dX4_putKinds_5 rfl (lv_at hl 1 rfl) ?_
  refine call_v (q := (RX3, TX3, 1)) (As := [.int (nI 1), .int (nI v)]) (rest := []) F (c_X3_put l D cA h1 h2 286 a 1 v (by omega) (by decide)) (cwV 2 hts gX4_putKinds_X3_put rfl rfl rfl ydv_X3_put ⟨Nat.le_of_ble_eq_true rfl, Nat.le_of_ble_eq_true rfl⟩) hK hR hP hD hA hS [1, 2] [0] rfl rfl rfl 1 3 rfl rfl (fun _ => rfl) rfl hl.1 rfl (Nat.le_of_ble_eq_true rfl) dX4_putKinds_6 ⟨Nat.zero_le _, Nat.zero_le _⟩ (fun u_6 H locs hw hP hD hS => ?_)
  have hP : va_P D vwCl [(h2, .inl (cA, 286, .inl (nF (updN a 1 v))))] H := hP
  have hD : va_D A [(h2, .inl (cA, 286, .inl (nF (updN a 1 v))))] := hD
  exact RET _ _ _ _ () dX4_putKinds_9 trivial hP hS
abbrev rm_X4_dollsToCut : Room := { frames := 2, cells := 0, slots := 0, locals := 41 }
theorem ydv_X4_dollsToCut : yX4_dollsToCut.cls = RX4 ∧ yX4_dollsToCut.cls ≠ "java/lang/invoke/MethodHandle" ∧ yX4_dollsToCut.cls ≠ "java/lang/invoke/VarHandle" ∧ (parseMethodDescriptor yX4_dollsToCut.desc).map (fun d => d.parameters.length) = some 0 := by decide +kernel
set_option maxHeartbeats 4000000 in
set_option maxRecDepth 100000 in
theorem c_X4_dollsToCut (l : Launch) (D : va_G) (cA : ClassId) (h0 h1 h2 : Nat) (a : Nat → Nat)   : RO l D cA yX4_dollsToCut wsX4_dollsToCut rm_X4_dollsToCut [.ref h0] [(h0, .inr (4, [.ref h1])), (h1, .inr (3, [.ref h2])), (h2, .inl (cA, 286, .inl (nF a)))] (nI (2 * a 1)) := by
  refine ofWi (cc := cX4_dollsToCut) (maxL := 1) (rt := .int) (by decide) rfl (Nat.le_of_ble_eq_true rfl) ?_
  intro p e s m args below meth c Q A ls F hK hR hP hD hA hS hl RET
  obtain ⟨hx, hb, hml, hown, hts⟩ := id F
  have hl : lv_has ls 1 [(0, .ref h0)] := hl
  refine lv_iconst (v := nI 2) hx hb dX4_dollsToCut_0 (by decide) ?_
  refine lv_aload_n hx hb dX4_dollsToCut_1 rfl (lv_at hl 0 rfl) ?_
  refine call_r (q := (RX4, TX4, 1)) (As := []) (rest := [.int (nI 2)]) F (c_X4_kindsNow l D cA h0 h1 h2 a) (cwV 0 hts gX4_dollsToCut_X4_kindsNow rfl rfl rfl ydv_X4_kindsNow ⟨Nat.le_of_ble_eq_true rfl, Nat.le_of_ble_eq_true rfl⟩) hK hR hP hD hA hS [0, 1, 2] rfl rfl 0 4 rfl rfl rfl hl.1 rfl (Nat.le_of_ble_eq_true rfl) dX4_dollsToCut_2 ⟨Nat.zero_le _, Nat.zero_le _⟩ (fun H locs hP hS => ?_)
  refine nv_imul hx hb dX4_dollsToCut_5 ?_
  refine tope (y := nI (2 * a 1)) (by rfl) ?_
  exact RET _ _ _ _ _ () dX4_dollsToCut_6 rfl rfl hP hS
abbrev rm_X4_hasKind : Room := { frames := 2, cells := 0, slots := 0, locals := 41 }
theorem ydv_X4_hasKind : yX4_hasKind.cls = RX4 ∧ yX4_hasKind.cls ≠ "java/lang/invoke/MethodHandle" ∧ yX4_hasKind.cls ≠ "java/lang/invoke/VarHandle" ∧ (parseMethodDescriptor yX4_hasKind.desc).map (fun d => d.parameters.length) = some 1 := by decide +kernel
set_option maxHeartbeats 4000000 in
set_option maxRecDepth 100000 in
theorem c_X4_hasKind (l : Launch) (D : va_G) (cA : ClassId) (h0 h1 h2 : Nat) (a : Nat → Nat) (x : Int32) (hk : a 1 < 2 ^ 31) : RO l D cA yX4_hasKind wsX4_hasKind rm_X4_hasKind [.ref h0, .int x] [(h0, .inr (4, [.ref h1])), (h1, .inr (3, [.ref h2])), (h2, .inl (cA, 286, .inl (nF a)))] (bI (isB x (a 1))) := by
  refine ofWi (cc := cX4_hasKind) (maxL := 2) (rt := .boolean) (by decide) rfl (Nat.le_of_ble_eq_true rfl) ?_
  intro p e s m args below meth c Q A ls F hK hR hP hD hA hS hl RET
  obtain ⟨hx, hb, hml, hown, hts⟩ := id F
  have hl : lv_has ls 2 [(0, .ref h0), (1, .int x)] := hl
  refine lv_iload_n hx hb dX4_hasKind_0 rfl (lv_at hl 1 rfl) ?_
  refine lv_aload_n hx hb dX4_hasKind_1 rfl (lv_at hl 0 rfl) ?_
  refine call_r (q := (RX4, TX4, 1)) (As := []) (rest := [.int x]) F (c_X4_kindsNow l D cA h0 h1 h2 a) (cwV 0 hts gX4_hasKind_X4_kindsNow rfl rfl rfl ydv_X4_kindsNow ⟨Nat.le_of_ble_eq_true rfl, Nat.le_of_ble_eq_true rfl⟩) hK hR hP hD hA hS [0, 1, 2] rfl rfl 0 4 rfl rfl rfl hl.1 rfl (Nat.le_of_ble_eq_true rfl) dX4_hasKind_2 ⟨Nat.zero_le _, Nat.zero_le _⟩ (fun H locs hP hS => ?_)
  refine call_n (As := [.int x, .int (nI (a 1))]) (rest := []) F (c_X6_isBelow l D cA x (a 1) (by omega)) ⟨va_cnB 2 hts gX4_hasKind_X6_isBelow_n36 rfl rfl rfl (hK.2 _ (List.mem_of_getElem? (i := 0) rfl)) (hts _ (List.mem_of_getElem? (i := 14) rfl)) yd_X6_isBelow ⟨Nat.le_of_ble_eq_true rfl, Nat.le_of_ble_eq_true rfl⟩, (hts _ (List.mem_of_getElem? (i := 13) rfl)), trivial⟩ hK hR hP hD hA hS rfl hl.1 rfl (Nat.le_of_ble_eq_true rfl) dX4_hasKind_5 ⟨Nat.zero_le _, Nat.zero_le _⟩ (fun H locs hP hS => ?_)
  exact RET _ _ _ _ _ () dX4_hasKind_8 (nbI _) rfl hP hS
abbrev rm_X4_leftHand : Room := { frames := 1, cells := 0, slots := 0, locals := 21 }
theorem ydv_X4_leftHand : yX4_leftHand.cls = RX4 ∧ yX4_leftHand.cls ≠ "java/lang/invoke/MethodHandle" ∧ yX4_leftHand.cls ≠ "java/lang/invoke/VarHandle" ∧ (parseMethodDescriptor yX4_leftHand.desc).map (fun d => d.parameters.length) = some 1 := by decide +kernel
theorem inf_X4_leftHand_X4 : ∀ w ∈ wsX40, w ∈ wsX4_leftHand := fun w h => List.mem_cons_of_mem _ (List.mem_append_left _ (List.mem_append_right _ (h)))
set_option maxHeartbeats 4000000 in
set_option maxRecDepth 100000 in
theorem c_X4_leftHand (l : Launch) (D : va_G) (cA : ClassId) (h0 h1 h2 : Nat) (a : Nat → Nat) (k : Nat) (hk : k < 10) : RO l D cA yX4_leftHand wsX4_leftHand rm_X4_leftHand [.ref h0, .int (nI k)] [(h0, .inr (4, [.ref h1])), (h1, .inr (3, [.ref h2])), (h2, .inl (cA, 286, .inl (nF a)))] (nI (a (2 + k))) := by
  refine ofWi (cc := cX4_leftHand) (maxL := 2) (rt := .int) (by decide) rfl (Nat.le_of_ble_eq_true rfl) ?_
  intro p e s m args below meth c Q A ls F hK hR hP hD hA hS hl RET
  obtain ⟨hx, hb, hml, hown, hts⟩ := id F
  have hl : lv_has ls 2 [(0, .ref h0), (1, .int (nI k))] := hl
  refine lv_aload_n hx hb dX4_leftHand_0 rfl (lv_at hl 0 rfl) ?_
  refine va_get (D := D) (cl := vwCl) (ci := 4) (v := .ref h1) (C := RX4) (T := TX4) (N := 1) hx hb hts inf_X4_leftHand_X4 hown hK.1 (hR.at hS) 0 rfl rfl 0 (by decide) (hts _ (List.mem_of_getElem? (i := 1) rfl)) (fun _ h9 => h9) rfl dX4_leftHand_1 ?_
  refine lv_iconst (v := nI 2) hx hb dX4_leftHand_4 (by decide) ?_
  refine lv_iload_n hx hb dX4_leftHand_5 rfl (lv_at hl 1 rfl) ?_
  refine nv_iadd hx hb dX4_leftHand_6 ?_
  refine call_r (q := (RX3, TX3, 1)) (As := [.int (nI (2 + k))]) (rest := []) F (c_X3_at l D cA h1 h2 286 a (2 + k) (by omega) (by decide)) (cwV 1 hts gX4_leftHand_X3_at rfl rfl rfl ydv_X3_at ⟨Nat.le_of_ble_eq_true rfl, Nat.le_of_ble_eq_true rfl⟩) hK hR hP hD hA hS [1, 2] rfl rfl 1 3 rfl rfl rfl hl.1 rfl (Nat.le_of_ble_eq_true rfl) dX4_leftHand_7 ⟨Nat.zero_le _, Nat.zero_le _⟩ (fun H locs hP hS => ?_)
  exact RET _ _ _ _ _ () dX4_leftHand_10 rfl rfl hP hS
abbrev rm_X4_rightHand : Room := { frames := 1, cells := 0, slots := 0, locals := 21 }
theorem ydv_X4_rightHand : yX4_rightHand.cls = RX4 ∧ yX4_rightHand.cls ≠ "java/lang/invoke/MethodHandle" ∧ yX4_rightHand.cls ≠ "java/lang/invoke/VarHandle" ∧ (parseMethodDescriptor yX4_rightHand.desc).map (fun d => d.parameters.length) = some 1 := by decide +kernel
theorem inf_X4_rightHand_X4 : ∀ w ∈ wsX40, w ∈ wsX4_rightHand := fun w h => List.mem_cons_of_mem _ (List.mem_append_left _ (List.mem_append_right _ (h)))
set_option maxHeartbeats 4000000 in
set_option maxRecDepth 100000 in
theorem c_X4_rightHand (l : Launch) (D : va_G) (cA : ClassId) (h0 h1 h2 : Nat) (a : Nat → Nat) (k : Nat) (hk : k < 10) : RO l D cA yX4_rightHand wsX4_rightHand rm_X4_rightHand [.ref h0, .int (nI k)] [(h0, .inr (4, [.ref h1])), (h1, .inr (3, [.ref h2])), (h2, .inl (cA, 286, .inl (nF a)))] (nI (a (12 + k))) := by
  refine ofWi (cc := cX4_rightHand) (maxL := 2) (rt := .int) (by decide) rfl (Nat.le_of_ble_eq_true rfl) ?_
  intro p e s m args below meth c Q A ls F hK hR hP hD hA hS hl RET
  obtain ⟨hx, hb, hml, hown, hts⟩ := id F
  have hl : lv_has ls 2 [(0, .ref h0), (1, .int (nI k))] := hl
  refine lv_aload_n hx hb dX4_rightHand_0 rfl (lv_at hl 0 rfl) ?_
  refine va_get (D := D) (cl := vwCl) (ci := 4) (v := .ref h1) (C := RX4) (T := TX4) (N := 1) hx hb hts inf_X4_rightHand_X4 hown hK.1 (hR.at hS) 0 rfl rfl 0 (by decide) (hts _ (List.mem_of_getElem? (i := 1) rfl)) (fun _ h9 => h9) rfl dX4_rightHand_1 ?_
  refine lv_bipush (v := nI 12) hx hb dX4_rightHand_4 (by decide) ?_
  refine lv_iload_n hx hb dX4_rightHand_6 rfl (lv_at hl 1 rfl) ?_
  refine nv_iadd hx hb dX4_rightHand_7 ?_
  refine call_r (q := (RX3, TX3, 1)) (As := [.int (nI (12 + k))]) (rest := []) F (c_X3_at l D cA h1 h2 286 a (12 + k) (by omega) (by decide)) (cwV 1 hts gX4_rightHand_X3_at rfl rfl rfl ydv_X3_at ⟨Nat.le_of_ble_eq_true rfl, Nat.le_of_ble_eq_true rfl⟩) hK hR hP hD hA hS [1, 2] rfl rfl 1 3 rfl rfl rfl hl.1 rfl (Nat.le_of_ble_eq_true rfl) dX4_rightHand_8 ⟨Nat.zero_le _, Nat.zero_le _⟩ (fun H locs hP hS => ?_)
  exact RET _ _ _ _ _ () dX4_rightHand_11 rfl rfl hP hS
abbrev rm_X4_putHands : Room := { frames := 1, cells := 0, slots := 0, locals := 22 }
theorem ydv_X4_putHands : yX4_putHands.cls = RX4 ∧ yX4_putHands.cls ≠ "java/lang/invoke/MethodHandle" ∧ yX4_putHands.cls ≠ "java/lang/invoke/VarHandle" ∧ (parseMethodDescriptor yX4_putHands.desc).map (fun d => d.parameters.length) = some 3 := by decide +kernel
theorem inf_X4_putHands_X4 : ∀ w ∈ wsX40, w ∈ wsX4_putHands := fun w h => List.mem_cons_of_mem _ (List.mem_append_left _ (List.mem_append_right _ (h)))
set_option maxHeartbeats 4000000 in
set_option maxRecDepth 100000 in
theorem c_X4_putHands (l : Launch) (D : va_G) (cA : ClassId) (h0 h1 h2 : Nat) (a : Nat → Nat) (k u v : Nat) (hk : k < 10) : MV l D cA yX4_putHands wsX4_putHands rm_X4_putHands [.ref h0, .int (nI k), .int (nI u), .int (nI v)] [(h0, .inr (4, [.ref h1])), (h1, .inr (3, [.ref h2]))] [(h2, .inl (cA, 286, .inl (nF a)))] (S := Unit) (fun _ => True) (fun _ => [(h2, .inl (cA, 286, .inl (nF (updN (updN a (2 + k) u) (12 + k) v))))]) := by
  refine ofWv (cc := cX4_putHands) (maxL := 4) (by decide) rfl (Nat.le_of_ble_eq_true rfl) ?_
  intro p e s m args below meth c Q A ls F hK hR hP hD hA hS hl RET
  obtain ⟨hx, hb, hml, hown, hts⟩ := id F
  have hl : lv_has ls 4 [(0, .ref h0), (1, .int (nI k)), (2, .int (nI u)), (3, .int (nI v))] := hl
  refine lv_aload_n hx hb dX4_putHands_0 rfl (lv_at hl 0 rfl) ?_
  refine va_get (D := D) (cl := vwCl) (ci := 4) (v := .ref h1) (C := RX4) (T := TX4) (N := 1) hx hb hts inf_X4_putHands_X4 hown hK.1 (hR.at hS) 0 rfl rfl 0 (by decide) (hts _ (List.mem_of_getElem? (i := 1) rfl)) (fun _ h9 => h9) rfl dX4_putHands_1 ?_
  refine lv_iconst (v := nI 2) hx hb dX4_putHands_4 (by decide) ?_
  refine lv_iload_n hx hb dX4_putHands_5 rfl (lv_at hl 1 rfl) ?_
  refine nv_iadd hx hb dX4_putHands_6 ?_
  refine lv_iload_n hx hb dX4_putHands_7 rfl (lv_at hl 2 rfl) ?_
  refine call_v (q := (RX3, TX3, 1)) (As := [.int (nI (2 + k)), .int (nI u)]) (rest := []) F (c_X3_put l D cA h1 h2 286 a (2 + k) u (by omega) (by decide)) (cwV 2 hts gX4_putHands_X3_put rfl rfl rfl ydv_X3_put ⟨Nat.le_of_ble_eq_true rfl, Nat.le_of_ble_eq_true rfl⟩) hK hR hP hD hA hS [1, 2] [0] rfl rfl rfl 1 3 rfl rfl (fun _ => rfl) rfl hl.1 rfl (Nat.le_of_ble_eq_true rfl) dX4_putHands_8 ⟨Nat.zero_le _, Nat.zero_le _⟩ (fun u_8 H locs hw hP hD hS => ?_)
  have hP : va_P D vwCl [(h2, .inl (cA, 286, .inl (nF (updN a (2 + k) u))))] H := hP
  have hD : va_D A [(h2, .inl (cA, 286, .inl (nF (updN a (2 + k) u))))] := hD
  refine lv_aload_n hx hb dX4_putHands_11 rfl (lv_at hl 0 rfl) ?_
  refine va_get (D := D) (cl := vwCl) (ci := 4) (v := .ref h1) (C := RX4) (T := TX4) (N := 1) hx hb hts inf_X4_putHands_X4 hown hK.1 (hR.at hS) 0 rfl rfl 0 (by decide) (hts _ (List.mem_of_getElem? (i := 1) rfl)) (fun _ h9 => h9) rfl dX4_putHands_12 ?_
  refine lv_bipush (v := nI 12) hx hb dX4_putHands_15 (by decide) ?_
  refine lv_iload_n hx hb dX4_putHands_17 rfl (lv_at hl 1 rfl) ?_
  refine nv_iadd hx hb dX4_putHands_18 ?_
  refine lv_iload_n hx hb dX4_putHands_19 rfl (lv_at hl 3 rfl) ?_
  refine call_v (q := (RX3, TX3, 1)) (As := [.int (nI (12 + k)), .int (nI v)]) (rest := []) F (c_X3_put l D cA h1 h2 286 (updN a (2 + k) u) (12 + k) v (by omega) (by decide)) (cwV 2 hts gX4_putHands_X3_put rfl rfl rfl ydv_X3_put ⟨Nat.le_of_ble_eq_true rfl, Nat.le_of_ble_eq_true rfl⟩) hK hR hP hD hA hS [1, 2] [0] rfl rfl rfl 1 3 rfl rfl (fun _ => rfl) rfl hl.1 rfl (Nat.le_of_ble_eq_true rfl) dX4_putHands_20 ⟨Nat.zero_le _, Nat.zero_le _⟩ (fun u_20 H locs hw hP hD hS => ?_)
  have hP : va_P D vwCl [(h2, .inl (cA, 286, .inl (nF (updN (updN a (2 + k) u) (12 + k) v))))] H := hP
  have hD : va_D A [(h2, .inl (cA, 286, .inl (nF (updN (updN a (2 + k) u) (12 + k) v))))] := hD
  exact RET _ _ _ _ () dX4_putHands_23 trivial hP hS
abbrev rm_X4_leftOf : Room := { frames := 1, cells := 0, slots := 0, locals := 21 }
theorem ydv_X4_leftOf : yX4_leftOf.cls = RX4 ∧ yX4_leftOf.cls ≠ "java/lang/invoke/MethodHandle" ∧ yX4_leftOf.cls ≠ "java/lang/invoke/VarHandle" ∧ (parseMethodDescriptor yX4_leftOf.desc).map (fun d => d.parameters.length) = some 1 := by decide +kernel
theorem inf_X4_leftOf_X4 : ∀ w ∈ wsX40, w ∈ wsX4_leftOf := fun w h => List.mem_cons_of_mem _ (List.mem_append_left _ (List.mem_append_right _ (h)))
set_option maxHeartbeats 4000000 in
set_option maxRecDepth 100000 in
theorem c_X4_leftOf (l : Launch) (D : va_G) (cA : ClassId) (h0 h1 h2 : Nat) (a : Nat → Nat) (d : Nat) (hd : d < 20) : RO l D cA yX4_leftOf wsX4_leftOf rm_X4_leftOf [.ref h0, .int (nI d)] [(h0, .inr (4, [.ref h1])), (h1, .inr (3, [.ref h2])), (h2, .inl (cA, 286, .inl (nF a)))] (nI (hdL a d)) := by
  refine ofWi (cc := cX4_leftOf) (maxL := 2) (rt := .int) (by decide) rfl (Nat.le_of_ble_eq_true rfl) ?_
  intro p e s m args below meth c Q A ls F hK hR hP hD hA hS hl RET
  obtain ⟨hx, hb, hml, hown, hts⟩ := id F
  have hl : lv_has ls 2 [(0, .ref h0), (1, .int (nI d))] := hl
  refine lv_aload_n hx hb dX4_leftOf_0 rfl (lv_at hl 0 rfl) ?_
  refine va_get (D := D) (cl := vwCl) (ci := 4) (v := .ref h1) (C := RX4) (T := TX4) (N := 1) hx hb hts inf_X4_leftOf_X4 hown hK.1 (hR.at hS) 0 rfl rfl 0 (by decide) (hts _ (List.mem_of_getElem? (i := 1) rfl)) (fun _ h9 => h9) rfl dX4_leftOf_1 ?_
  refine lv_iload_n hx hb dX4_leftOf_4 rfl (lv_at hl 1 rfl) ?_
  refine call_n (As := [.int (nI d)]) (rest := [.ref h1]) F (c_X6_isMirrored l D cA d (by omega)) ⟨va_cnB 1 hts gX4_leftOf_X6_isMirrored_n40 rfl rfl rfl (hK.2 _ (List.mem_of_getElem? (i := 1) rfl)) (hts _ (List.mem_of_getElem? (i := 3) rfl)) yd_X6_isMirrored ⟨Nat.le_of_ble_eq_true rfl, Nat.le_of_ble_eq_true rfl⟩, (hts _ (List.mem_of_getElem? (i := 2) rfl)), trivial⟩ hK hR hP hD hA hS rfl hl.1 rfl (Nat.le_of_ble_eq_true rfl) dX4_leftOf_5 ⟨Nat.zero_le _, Nat.zero_le _⟩ (fun H locs hP hS => ?_)
  refine bv_if_eq (tgt := 16) hx hb dX4_leftOf_8 (by decide) (fun c_8 => ?_) (fun c_8 => ?_)
  · refine lv_iconst (v := nI 2) hx hb dX4_leftOf_16 (by decide) ?_
    refine lv_iload_n hx hb dX4_leftOf_17 rfl (lv_at hl 1 rfl) ?_
    refine call_n (As := [.int (nI d)]) (rest := [.int (nI 2), .ref h1]) F (c_X6_kindOf l D cA d (by omega)) ⟨va_cnB 1 hts gX4_leftOf_X6_kindOf_n44 rfl rfl rfl (hK.2 _ (List.mem_of_getElem? (i := 2) rfl)) (hts _ (List.mem_of_getElem? (i := 3) rfl)) yd_X6_kindOf ⟨Nat.le_of_ble_eq_true rfl, Nat.le_of_ble_eq_true rfl⟩, (hts _ (List.mem_of_getElem? (i := 5) rfl)), trivial⟩ hK hR hP hD hA hS rfl hl.1 rfl (Nat.le_of_ble_eq_true rfl) dX4_leftOf_18 ⟨Nat.zero_le _, Nat.zero_le _⟩ (fun H locs hP hS => ?_)
    refine nv_iadd hx hb dX4_leftOf_21 ?_
    refine call_r (q := (RX3, TX3, 1)) (As := [.int (nI (2 + (d / 2)))]) (rest := []) F (c_X3_at l D cA h1 h2 286 a (2 + (d / 2)) (by omega) (by decide)) (cwV 1 hts gX4_leftOf_X3_at rfl rfl rfl ydv_X3_at ⟨Nat.le_of_ble_eq_true rfl, Nat.le_of_ble_eq_true rfl⟩) hK hR hP hD hA hS [1, 2] rfl rfl 1 3 rfl rfl rfl hl.1 rfl (Nat.le_of_ble_eq_true rfl) dX4_leftOf_22 ⟨Nat.zero_le _, Nat.zero_le _⟩ (fun H locs hP hS => ?_)
    refine tope (y := nI (hdL a d)) (by simp [hdL, c_8]) ?_
    exact RET _ _ _ _ _ () dX4_leftOf_25 rfl rfl hP hS
  · refine lv_bipush (v := nI 12) hx hb dX4_leftOf_11 (by decide) ?_
    refine lv_goto (tgt := 17) hx hb dX4_leftOf_13 (by decide) ?_
    refine lv_iload_n hx hb dX4_leftOf_17 rfl (lv_at hl 1 rfl) ?_
    refine call_n (As := [.int (nI d)]) (rest := [.int (nI 12), .ref h1]) F (c_X6_kindOf l D cA d (by omega)) ⟨va_cnB 1 hts gX4_leftOf_X6_kindOf_n44 rfl rfl rfl (hK.2 _ (List.mem_of_getElem? (i := 2) rfl)) (hts _ (List.mem_of_getElem? (i := 3) rfl)) yd_X6_kindOf ⟨Nat.le_of_ble_eq_true rfl, Nat.le_of_ble_eq_true rfl⟩, (hts _ (List.mem_of_getElem? (i := 5) rfl)), trivial⟩ hK hR hP hD hA hS rfl hl.1 rfl (Nat.le_of_ble_eq_true rfl) dX4_leftOf_18 ⟨Nat.zero_le _, Nat.zero_le _⟩ (fun H locs hP hS => ?_)
    refine nv_iadd hx hb dX4_leftOf_21 ?_
    refine call_r (q := (RX3, TX3, 1)) (As := [.int (nI (12 + (d / 2)))]) (rest := []) F (c_X3_at l D cA h1 h2 286 a (12 + (d / 2)) (by omega) (by decide)) (cwV 1 hts gX4_leftOf_X3_at rfl rfl rfl ydv_X3_at ⟨Nat.le_of_ble_eq_true rfl, Nat.le_of_ble_eq_true rfl⟩) hK hR hP hD hA hS [1, 2] rfl rfl 1 3 rfl rfl rfl hl.1 rfl (Nat.le_of_ble_eq_true rfl) dX4_leftOf_22 ⟨Nat.zero_le _, Nat.zero_le _⟩ (fun H locs hP hS => ?_)
    refine tope (y := nI (hdL a d)) (by simp [hdL, c_8]) ?_
    exact RET _ _ _ _ _ () dX4_leftOf_25 rfl rfl hP hS
abbrev rm_X4_rightOf : Room := { frames := 1, cells := 0, slots := 0, locals := 21 }
theorem ydv_X4_rightOf : yX4_rightOf.cls = RX4 ∧ yX4_rightOf.cls ≠ "java/lang/invoke/MethodHandle" ∧ yX4_rightOf.cls ≠ "java/lang/invoke/VarHandle" ∧ (parseMethodDescriptor yX4_rightOf.desc).map (fun d => d.parameters.length) = some 1 := by decide +kernel
theorem inf_X4_rightOf_X4 : ∀ w ∈ wsX40, w ∈ wsX4_rightOf := fun w h => List.mem_cons_of_mem _ (List.mem_append_left _ (List.mem_append_right _ (h)))
set_option maxHeartbeats 4000000 in
set_option maxRecDepth 100000 in
theorem c_X4_rightOf (l : Launch) (D : va_G) (cA : ClassId) (h0 h1 h2 : Nat) (a : Nat → Nat) (d : Nat) (hd : d < 20) : RO l D cA yX4_rightOf wsX4_rightOf rm_X4_rightOf [.ref h0, .int (nI d)] [(h0, .inr (4, [.ref h1])), (h1, .inr (3, [.ref h2])), (h2, .inl (cA, 286, .inl (nF a)))] (nI (hdR a d)) := by
  refine ofWi (cc := cX4_rightOf) (maxL := 2) (rt := .int) (by decide) rfl (Nat.le_of_ble_eq_true rfl) ?_
  intro p e s m args below meth c Q A ls F hK hR hP hD hA hS hl RET
  obtain ⟨hx, hb, hml, hown, hts⟩ := id F
  have hl : lv_has ls 2 [(0, .ref h0), (1, .int (nI d))] := hl
  refine lv_aload_n hx hb dX4_rightOf_0 rfl (lv_at hl 0 rfl) ?_
  refine va_get (D := D) (cl := vwCl) (ci := 4) (v := .ref h1) (C := RX4) (T := TX4) (N := 1) hx hb hts inf_X4_rightOf_X4 hown hK.1 (hR.at hS) 0 rfl rfl 0 (by decide) (hts _ (List.mem_of_getElem? (i := 1) rfl)) (fun _ h9 => h9) rfl dX4_rightOf_1 ?_
  refine lv_iload_n hx hb dX4_rightOf_4 rfl (lv_at hl 1 rfl) ?_
  refine call_n (As := [.int (nI d)]) (rest := [.ref h1]) F (c_X6_isMirrored l D cA d (by omega)) ⟨va_cnB 1 hts gX4_rightOf_X6_isMirrored_n40 rfl rfl rfl (hK.2 _ (List.mem_of_getElem? (i := 1) rfl)) (hts _ (List.mem_of_getElem? (i := 3) rfl)) yd_X6_isMirrored ⟨Nat.le_of_ble_eq_true rfl, Nat.le_of_ble_eq_true rfl⟩, (hts _ (List.mem_of_getElem? (i := 2) rfl)), trivial⟩ hK hR hP hD hA hS rfl hl.1 rfl (Nat.le_of_ble_eq_true rfl) dX4_rightOf_5 ⟨Nat.zero_le _, Nat.zero_le _⟩ (fun H locs hP hS => ?_)
  refine bv_if_eq (tgt := 15) hx hb dX4_rightOf_8 (by decide) (fun c_8 => ?_) (fun c_8 => ?_)
  · refine lv_bipush (v := nI 12) hx hb dX4_rightOf_15 (by decide) ?_
    refine lv_iload_n hx hb dX4_rightOf_17 rfl (lv_at hl 1 rfl) ?_
    refine call_n (As := [.int (nI d)]) (rest := [.int (nI 12), .ref h1]) F (c_X6_kindOf l D cA d (by omega)) ⟨va_cnB 1 hts gX4_rightOf_X6_kindOf_n44 rfl rfl rfl (hK.2 _ (List.mem_of_getElem? (i := 2) rfl)) (hts _ (List.mem_of_getElem? (i := 3) rfl)) yd_X6_kindOf ⟨Nat.le_of_ble_eq_true rfl, Nat.le_of_ble_eq_true rfl⟩, (hts _ (List.mem_of_getElem? (i := 5) rfl)), trivial⟩ hK hR hP hD hA hS rfl hl.1 rfl (Nat.le_of_ble_eq_true rfl) dX4_rightOf_18 ⟨Nat.zero_le _, Nat.zero_le _⟩ (fun H locs hP hS => ?_)
    refine nv_iadd hx hb dX4_rightOf_21 ?_
    refine call_r (q := (RX3, TX3, 1)) (As := [.int (nI (12 + (d / 2)))]) (rest := []) F (c_X3_at l D cA h1 h2 286 a (12 + (d / 2)) (by omega) (by decide)) (cwV 1 hts gX4_rightOf_X3_at rfl rfl rfl ydv_X3_at ⟨Nat.le_of_ble_eq_true rfl, Nat.le_of_ble_eq_true rfl⟩) hK hR hP hD hA hS [1, 2] rfl rfl 1 3 rfl rfl rfl hl.1 rfl (Nat.le_of_ble_eq_true rfl) dX4_rightOf_22 ⟨Nat.zero_le _, Nat.zero_le _⟩ (fun H locs hP hS => ?_)
    refine tope (y := nI (hdR a d)) (by simp [hdR, c_8]) ?_
    exact RET _ _ _ _ _ () dX4_rightOf_25 rfl rfl hP hS
  · refine lv_iconst (v := nI 2) hx hb dX4_rightOf_11 (by decide) ?_
    refine lv_goto (tgt := 17) hx hb dX4_rightOf_12 (by decide) ?_
    refine lv_iload_n hx hb dX4_rightOf_17 rfl (lv_at hl 1 rfl) ?_
    refine call_n (As := [.int (nI d)]) (rest := [.int (nI 2), .ref h1]) F (c_X6_kindOf l D cA d (by omega)) ⟨va_cnB 1 hts gX4_rightOf_X6_kindOf_n44 rfl rfl rfl (hK.2 _ (List.mem_of_getElem? (i := 2) rfl)) (hts _ (List.mem_of_getElem? (i := 3) rfl)) yd_X6_kindOf ⟨Nat.le_of_ble_eq_true rfl, Nat.le_of_ble_eq_true rfl⟩, (hts _ (List.mem_of_getElem? (i := 5) rfl)), trivial⟩ hK hR hP hD hA hS rfl hl.1 rfl (Nat.le_of_ble_eq_true rfl) dX4_rightOf_18 ⟨Nat.zero_le _, Nat.zero_le _⟩ (fun H locs hP hS => ?_)
    refine nv_iadd hx hb dX4_rightOf_21 ?_
    refine call_r (q := (RX3, TX3, 1)) (As := [.int (nI (2 + (d / 2)))]) (rest := []) F (c_X3_at l D cA h1 h2 286 a (2 + (d / 2)) (by omega) (by decide)) (cwV 1 hts gX4_rightOf_X3_at rfl rfl rfl ydv_X3_at ⟨Nat.le_of_ble_eq_true rfl, Nat.le_of_ble_eq_true rfl⟩) hK hR hP hD hA hS [1, 2] rfl rfl 1 3 rfl rfl rfl hl.1 rfl (Nat.le_of_ble_eq_true rfl) dX4_rightOf_22 ⟨Nat.zero_le _, Nat.zero_le _⟩ (fun H locs hP hS => ?_)
    refine tope (y := nI (hdR a d)) (by simp [hdR, c_8]) ?_
    exact RET _ _ _ _ _ () dX4_rightOf_25 rfl rfl hP hS
abbrev rm_X4_lengthOf : Room := { frames := 1, cells := 0, slots := 0, locals := 21 }
theorem ydv_X4_lengthOf : yX4_lengthOf.cls = RX4 ∧ yX4_lengthOf.cls ≠ "java/lang/invoke/MethodHandle" ∧ yX4_lengthOf.cls ≠ "java/lang/invoke/VarHandle" ∧ (parseMethodDescriptor yX4_lengthOf.desc).map (fun d => d.parameters.length) = some 1 := by decide +kernel
theorem inf_X4_lengthOf_X4 : ∀ w ∈ wsX40, w ∈ wsX4_lengthOf := fun w h => List.mem_cons_of_mem _ (List.mem_append_left _ (List.mem_append_right _ (h)))
set_option maxHeartbeats 4000000 in
set_option maxRecDepth 100000 in
theorem c_X4_lengthOf (l : Launch) (D : va_G) (cA : ClassId) (h0 h1 h2 : Nat) (a : Nat → Nat) (g : Nat) (hg : g < 8) : RO l D cA yX4_lengthOf wsX4_lengthOf rm_X4_lengthOf [.ref h0, .int (nI g)] [(h0, .inr (4, [.ref h1])), (h1, .inr (3, [.ref h2])), (h2, .inl (cA, 286, .inl (nF a)))] (nI (ln a g)) := by
  refine ofWi (cc := cX4_lengthOf) (maxL := 2) (rt := .int) (by decide) rfl (Nat.le_of_ble_eq_true rfl) ?_
  intro p e s m args below meth c Q A ls F hK hR hP hD hA hS hl RET
  obtain ⟨hx, hb, hml, hown, hts⟩ := id F
  have hl : lv_has ls 2 [(0, .ref h0), (1, .int (nI g))] := hl
  refine lv_aload_n hx hb dX4_lengthOf_0 rfl (lv_at hl 0 rfl) ?_
  refine va_get (D := D) (cl := vwCl) (ci := 4) (v := .ref h1) (C := RX4) (T := TX4) (N := 1) hx hb hts inf_X4_lengthOf_X4 hown hK.1 (hR.at hS) 0 rfl rfl 0 (by decide) (hts _ (List.mem_of_getElem? (i := 1) rfl)) (fun _ h9 => h9) rfl dX4_lengthOf_1 ?_
  refine lv_bipush (v := nI 22) hx hb dX4_lengthOf_4 (by decide) ?_
  refine lv_iload_n hx hb dX4_lengthOf_6 rfl (lv_at hl 1 rfl) ?_
  refine nv_iadd hx hb dX4_lengthOf_7 ?_
  refine call_r (q := (RX3, TX3, 1)) (As := [.int (nI (22 + g))]) (rest := []) F (c_X3_at l D cA h1 h2 286 a (22 + g) (by omega) (by decide)) (cwV 1 hts gX4_lengthOf_X3_at rfl rfl rfl ydv_X3_at ⟨Nat.le_of_ble_eq_true rfl, Nat.le_of_ble_eq_true rfl⟩) hK hR hP hD hA hS [1, 2] rfl rfl 1 3 rfl rfl rfl hl.1 rfl (Nat.le_of_ble_eq_true rfl) dX4_lengthOf_8 ⟨Nat.zero_le _, Nat.zero_le _⟩ (fun H locs hP hS => ?_)
  refine tope (y := nI (ln a g)) (by rfl) ?_
  exact RET _ _ _ _ _ () dX4_lengthOf_11 rfl rfl hP hS
abbrev rm_X4_putLength : Room := { frames := 1, cells := 0, slots := 0, locals := 22 }
theorem ydv_X4_putLength : yX4_putLength.cls = RX4 ∧ yX4_putLength.cls ≠ "java/lang/invoke/MethodHandle" ∧ yX4_putLength.cls ≠ "java/lang/invoke/VarHandle" ∧ (parseMethodDescriptor yX4_putLength.desc).map (fun d => d.parameters.length) = some 2 := by decide +kernel
theorem inf_X4_putLength_X4 : ∀ w ∈ wsX40, w ∈ wsX4_putLength := fun w h => List.mem_cons_of_mem _ (List.mem_append_left _ (List.mem_append_right _ (h)))
set_option maxHeartbeats 4000000 in
set_option maxRecDepth 100000 in
theorem c_X4_putLength (l : Launch) (D : va_G) (cA : ClassId) (h0 h1 h2 : Nat) (a : Nat → Nat) (g v : Nat) (hg : g < 8) : MV l D cA yX4_putLength wsX4_putLength rm_X4_putLength [.ref h0, .int (nI g), .int (nI v)] [(h0, .inr (4, [.ref h1])), (h1, .inr (3, [.ref h2]))] [(h2, .inl (cA, 286, .inl (nF a)))] (S := Unit) (fun _ => True) (fun _ => [(h2, .inl (cA, 286, .inl (nF (updN a (22 + g) v))))]) := by
  refine ofWv (cc := cX4_putLength) (maxL := 3) (by decide) rfl (Nat.le_of_ble_eq_true rfl) ?_
  intro p e s m args below meth c Q A ls F hK hR hP hD hA hS hl RET
  obtain ⟨hx, hb, hml, hown, hts⟩ := id F
  have hl : lv_has ls 3 [(0, .ref h0), (1, .int (nI g)), (2, .int (nI v))] := hl
  refine lv_aload_n hx hb dX4_putLength_0 rfl (lv_at hl 0 rfl) ?_
  refine va_get (D := D) (cl := vwCl) (ci := 4) (v := .ref h1) (C := RX4) (T := TX4) (N := 1) hx hb hts inf_X4_putLength_X4 hown hK.1 (hR.at hS) 0 rfl rfl 0 (by decide) (hts _ (List.mem_of_getElem? (i := 1) rfl)) (fun _ h9 => h9) rfl dX4_putLength_1 ?_
  refine lv_bipush (v := nI 22) hx hb dX4_putLength_4 (by decide) ?_
  refine lv_iload_n hx hb dX4_putLength_6 rfl (lv_at hl 1 rfl) ?_
  refine nv_iadd hx hb dX4_putLength_7 ?_
  refine lv_iload_n hx hb dX4_putLength_8 rfl (lv_at hl 2 rfl) ?_
  refine call_v (q := (RX3, TX3, 1)) (As := [.int (nI (22 + g)), .int (nI v)]) (rest := []) F (c_X3_put l D cA h1 h2 286 a (22 + g) v (by omega) (by decide)) (cwV 2 hts gX4_putLength_X3_put rfl rfl rfl ydv_X3_put ⟨Nat.le_of_ble_eq_true rfl, Nat.le_of_ble_eq_true rfl⟩) hK hR hP hD hA hS [1, 2] [0] rfl rfl rfl 1 3 rfl rfl (fun _ => rfl) rfl hl.1 rfl (Nat.le_of_ble_eq_true rfl) dX4_putLength_9 ⟨Nat.zero_le _, Nat.zero_le _⟩ (fun u_9 H locs hw hP hD hS => ?_)
  have hP : va_P D vwCl [(h2, .inl (cA, 286, .inl (nF (updN a (22 + g) v))))] H := hP
  have hD : va_D A [(h2, .inl (cA, 286, .inl (nF (updN a (22 + g) v))))] := hD
  exact RET _ _ _ _ () dX4_putLength_12 trivial hP hS
abbrev rm_X4_hasGarland : Room := { frames := 2, cells := 0, slots := 0, locals := 42 }
theorem ydv_X4_hasGarland : yX4_hasGarland.cls = RX4 ∧ yX4_hasGarland.cls ≠ "java/lang/invoke/MethodHandle" ∧ yX4_hasGarland.cls ≠ "java/lang/invoke/VarHandle" ∧ (parseMethodDescriptor yX4_hasGarland.desc).map (fun d => d.parameters.length) = some 1 := by decide +kernel
set_option maxHeartbeats 4000000 in
set_option maxRecDepth 100000 in
theorem c_X4_hasGarland (l : Launch) (D : va_G) (cA : ClassId) (h0 h1 h2 : Nat) (a : Nat → Nat) (x : Int32) (hv : ∀ g, g < 8 → ln a g < 2 ^ 31) : RO l D cA yX4_hasGarland wsX4_hasGarland rm_X4_hasGarland [.ref h0, .int x] [(h0, .inr (4, [.ref h1])), (h1, .inr (3, [.ref h2])), (h2, .inl (cA, 286, .inl (nF a)))] (bI (inG a x)) := by
  refine ofWi (cc := cX4_hasGarland) (maxL := 2) (rt := .boolean) (by decide) rfl (Nat.le_of_ble_eq_true rfl) ?_
  intro p e s m args below meth c Q A ls F hK hR hP hD hA hS hl RET
  obtain ⟨hx, hb, hml, hown, hts⟩ := id F
  have hl : lv_has ls 2 [(0, .ref h0), (1, .int x)] := hl
  refine lv_iload_n hx hb dX4_hasGarland_0 rfl (lv_at hl 1 rfl) ?_
  refine lv_bipush (v := nI 8) hx hb dX4_hasGarland_1 (by decide) ?_
  refine call_n (As := [.int x, .int (nI 8)]) (rest := []) F (c_X6_isBelow l D cA x 8 (by omega)) ⟨va_cnB 2 hts gX4_hasGarland_X6_isBelow_n36 rfl rfl rfl (hK.2 _ (List.mem_of_getElem? (i := 0) rfl)) (hts _ (List.mem_of_getElem? (i := 2) rfl)) yd_X6_isBelow ⟨Nat.le_of_ble_eq_true rfl, Nat.le_of_ble_eq_true rfl⟩, (hts _ (List.mem_of_getElem? (i := 1) rfl)), trivial⟩ hK hR hP hD hA hS rfl hl.1 rfl (Nat.le_of_ble_eq_true rfl) dX4_hasGarland_3 ⟨Nat.zero_le _, Nat.zero_le _⟩ (fun H locs hP hS => ?_)
  refine bv_if_eq (tgt := 21) hx hb dX4_hasGarland_6 (by decide) (fun c_6 => ?_) (fun c_6 => ?_)
  · refine lv_iconst (v := nI 0) hx hb dX4_hasGarland_21 (by decide) ?_
    refine tope (y := bI (inG a x)) (by first | exact bI_t (by rw [inG_nI hg]; simp [c_14]) | exact bI_f (by rw [inG_nI hg]; simp [c_14]) | exact bI_f (by simp [inG, c_6])) ?_
    exact RET _ _ _ _ _ () dX4_hasGarland_22 (nbI _) rfl hP hS
  · obtain ⟨g, hg, rfl⟩ := isB_t (by decide) c_6
    refine lv_aload_n hx hb dX4_hasGarland_9 rfl (lv_at hl 0 rfl) ?_
    refine lv_iload_n hx hb dX4_hasGarland_10 rfl (lv_at hl 1 rfl) ?_
    refine call_r (q := (RX4, TX4, 1)) (As := [.int (nI g)]) (rest := []) F (c_X4_lengthOf l D cA h0 h1 h2 a g (by omega)) (cwV 1 hts gX4_hasGarland_X4_lengthOf rfl rfl rfl ydv_X4_lengthOf ⟨Nat.le_of_ble_eq_true rfl, Nat.le_of_ble_eq_true rfl⟩) hK hR hP hD hA hS [0, 1, 2] rfl rfl 0 4 rfl rfl rfl hl.1 rfl (Nat.le_of_ble_eq_true rfl) dX4_hasGarland_11 ⟨Nat.zero_le _, Nat.zero_le _⟩ (fun H locs hP hS => ?_)
    refine nv_if_le (tgt := 21) hx hb dX4_hasGarland_14 (by decide) (hv g hg) (fun c_14 => ?_) (fun c_14 => ?_)
    · refine lv_iconst (v := nI 0) hx hb dX4_hasGarland_21 (by decide) ?_
      refine tope (y := bI (inG a (nI g))) (by first | exact bI_t (by rw [inG_nI hg]; simp [c_14]) | exact bI_f (by rw [inG_nI hg]; simp [c_14]) | exact bI_f (by simp [inG, c_6])) ?_
      exact RET _ _ _ _ _ () dX4_hasGarland_22 (nbI _) rfl hP hS
    · refine lv_iconst (v := nI 1) hx hb dX4_hasGarland_17 (by decide) ?_
      refine lv_goto (tgt := 22) hx hb dX4_hasGarland_18 (by decide) ?_
      refine tope (y := bI (inG a (nI g))) (by first | exact bI_t (by rw [inG_nI hg]; simp [c_14]) | exact bI_f (by rw [inG_nI hg]; simp [c_14]) | exact bI_f (by simp [inG, c_6])) ?_
      exact RET _ _ _ _ _ () dX4_hasGarland_22 (nbI _) rfl hP hS
abbrev rm_X4_cellOf : Room := { frames := 0, cells := 0, slots := 0, locals := 0 }
theorem ydv_X4_cellOf : yX4_cellOf.cls = RX4 ∧ yX4_cellOf.cls ≠ "java/lang/invoke/MethodHandle" ∧ yX4_cellOf.cls ≠ "java/lang/invoke/VarHandle" ∧ (parseMethodDescriptor yX4_cellOf.desc).map (fun d => d.parameters.length) = some 2 := by decide +kernel
set_option maxHeartbeats 4000000 in
set_option maxRecDepth 100000 in
theorem c_X4_cellOf (l : Launch) (D : va_G) (cA : ClassId) (h0 : Nat) (fs : List Value) (g q : Nat)  : RO l D cA yX4_cellOf wsX4_cellOf rm_X4_cellOf [.ref h0, .int (nI g), .int (nI q)] [(h0, .inr (4, fs))] (nI (30 + g * 32 + q)) := by
  refine ofWi (cc := cX4_cellOf) (maxL := 3) (rt := .int) (by decide) rfl (Nat.le_of_ble_eq_true rfl) ?_
  intro p e s m args below meth c Q A ls F hK hR hP hD hA hS hl RET
  obtain ⟨hx, hb, hml, hown, hts⟩ := id F
  have hl : lv_has ls 3 [(0, .ref h0), (1, .int (nI g)), (2, .int (nI q))] := hl
  refine lv_bipush (v := nI 30) hx hb dX4_cellOf_0 (by decide) ?_
  refine lv_iload_n hx hb dX4_cellOf_2 rfl (lv_at hl 1 rfl) ?_
  refine lv_bipush (v := nI 32) hx hb dX4_cellOf_3 (by decide) ?_
  refine nv_imul hx hb dX4_cellOf_5 ?_
  refine nv_iadd hx hb dX4_cellOf_6 ?_
  refine lv_iload_n hx hb dX4_cellOf_7 rfl (lv_at hl 2 rfl) ?_
  refine nv_iadd hx hb dX4_cellOf_8 ?_
  refine tope (y := nI (30 + g * 32 + q)) (by rfl) ?_
  exact RET _ _ _ _ _ () dX4_cellOf_9 rfl rfl hP hS
abbrev rm_X4_dollAt : Room := { frames := 1, cells := 0, slots := 0, locals := 22 }
theorem ydv_X4_dollAt : yX4_dollAt.cls = RX4 ∧ yX4_dollAt.cls ≠ "java/lang/invoke/MethodHandle" ∧ yX4_dollAt.cls ≠ "java/lang/invoke/VarHandle" ∧ (parseMethodDescriptor yX4_dollAt.desc).map (fun d => d.parameters.length) = some 2 := by decide +kernel
theorem inf_X4_dollAt_X4 : ∀ w ∈ wsX40, w ∈ wsX4_dollAt := fun w h => List.mem_cons_of_mem _ (List.mem_append_left _ (List.mem_append_right _ (h)))
set_option maxHeartbeats 4000000 in
set_option maxRecDepth 100000 in
theorem c_X4_dollAt (l : Launch) (D : va_G) (cA : ClassId) (h0 h1 h2 : Nat) (a : Nat → Nat) (g q : Nat) (hg : g < 8) (hp : q < 32) : RO l D cA yX4_dollAt wsX4_dollAt rm_X4_dollAt [.ref h0, .int (nI g), .int (nI q)] [(h0, .inr (4, [.ref h1])), (h1, .inr (3, [.ref h2])), (h2, .inl (cA, 286, .inl (nF a)))] (nI (dl a g q)) := by
  refine ofWi (cc := cX4_dollAt) (maxL := 3) (rt := .int) (by decide) rfl (Nat.le_of_ble_eq_true rfl) ?_
  intro p e s m args below meth c Q A ls F hK hR hP hD hA hS hl RET
  obtain ⟨hx, hb, hml, hown, hts⟩ := id F
  have hl : lv_has ls 3 [(0, .ref h0), (1, .int (nI g)), (2, .int (nI q))] := hl
  refine lv_aload_n hx hb dX4_dollAt_0 rfl (lv_at hl 0 rfl) ?_
  refine va_get (D := D) (cl := vwCl) (ci := 4) (v := .ref h1) (C := RX4) (T := TX4) (N := 1) hx hb hts inf_X4_dollAt_X4 hown hK.1 (hR.at hS) 0 rfl rfl 0 (by decide) (hts _ (List.mem_of_getElem? (i := 1) rfl)) (fun _ h9 => h9) rfl dX4_dollAt_1 ?_
  refine lv_aload_n hx hb dX4_dollAt_4 rfl (lv_at hl 0 rfl) ?_
  refine lv_iload_n hx hb dX4_dollAt_5 rfl (lv_at hl 1 rfl) ?_
  refine lv_iload_n hx hb dX4_dollAt_6 rfl (lv_at hl 2 rfl) ?_
  refine call_r (q := (RX4, TX4, 1)) (As := [.int (nI g), .int (nI q)]) (rest := [.ref h1]) F (c_X4_cellOf l D cA h0 ([.ref h1]) g q) (cwV 2 hts gX4_dollAt_X4_cellOf rfl rfl rfl ydv_X4_cellOf ⟨Nat.le_of_ble_eq_true rfl, Nat.le_of_ble_eq_true rfl⟩) hK hR hP hD hA hS [0] rfl rfl 0 4 rfl rfl rfl hl.1 rfl (Nat.le_of_ble_eq_true rfl) dX4_dollAt_7 ⟨Nat.zero_le _, Nat.zero_le _⟩ (fun H locs hP hS => ?_)
  refine call_r (q := (RX3, TX3, 1)) (As := [.int (nI (30 + g * 32 + q))]) (rest := []) F (c_X3_at l D cA h1 h2 286 a (30 + g * 32 + q) (by omega) (by decide)) (cwV 1 hts gX4_dollAt_X3_at rfl rfl rfl ydv_X3_at ⟨Nat.le_of_ble_eq_true rfl, Nat.le_of_ble_eq_true rfl⟩) hK hR hP hD hA hS [1, 2] rfl rfl 1 3 rfl rfl rfl hl.1 rfl (Nat.le_of_ble_eq_true rfl) dX4_dollAt_10 ⟨Nat.zero_le _, Nat.zero_le _⟩ (fun H locs hP hS => ?_)
  refine tope (y := nI (dl a g q)) (by rfl) ?_
  exact RET _ _ _ _ _ () dX4_dollAt_13 rfl rfl hP hS
abbrev rm_X4_firstDoll : Room := { frames := 2, cells := 0, slots := 0, locals := 44 }
theorem ydv_X4_firstDoll : yX4_firstDoll.cls = RX4 ∧ yX4_firstDoll.cls ≠ "java/lang/invoke/MethodHandle" ∧ yX4_firstDoll.cls ≠ "java/lang/invoke/VarHandle" ∧ (parseMethodDescriptor yX4_firstDoll.desc).map (fun d => d.parameters.length) = some 1 := by decide +kernel
set_option maxHeartbeats 4000000 in
set_option maxRecDepth 100000 in
theorem c_X4_firstDoll (l : Launch) (D : va_G) (cA : ClassId) (h0 h1 h2 : Nat) (a : Nat → Nat) (g : Nat) (hg : g < 8) : RO l D cA yX4_firstDoll wsX4_firstDoll rm_X4_firstDoll [.ref h0, .int (nI g)] [(h0, .inr (4, [.ref h1])), (h1, .inr (3, [.ref h2])), (h2, .inl (cA, 286, .inl (nF a)))] (nI (dl a g 0)) := by
  refine ofWi (cc := cX4_firstDoll) (maxL := 2) (rt := .int) (by decide) rfl (Nat.le_of_ble_eq_true rfl) ?_
  intro p e s m args below meth c Q A ls F hK hR hP hD hA hS hl RET
  obtain ⟨hx, hb, hml, hown, hts⟩ := id F
  have hl : lv_has ls 2 [(0, .ref h0), (1, .int (nI g))] := hl
  refine lv_aload_n hx hb dX4_firstDoll_0 rfl (lv_at hl 0 rfl) ?_
  refine lv_iload_n hx hb dX4_firstDoll_1 rfl (lv_at hl 1 rfl) ?_
  refine lv_iconst (v := nI 0) hx hb dX4_firstDoll_2 (by decide) ?_
  refine call_r (q := (RX4, TX4, 1)) (As := [.int (nI g), .int (nI 0)]) (rest := []) F (c_X4_dollAt l D cA h0 h1 h2 a g 0 (by omega) (by omega)) (cwV 2 hts gX4_firstDoll_X4_dollAt rfl rfl rfl ydv_X4_dollAt ⟨Nat.le_of_ble_eq_true rfl, Nat.le_of_ble_eq_true rfl⟩) hK hR hP hD hA hS [0, 1, 2] rfl rfl 0 4 rfl rfl rfl hl.1 rfl (Nat.le_of_ble_eq_true rfl) dX4_firstDoll_3 ⟨Nat.zero_le _, Nat.zero_le _⟩ (fun H locs hP hS => ?_)
  exact RET _ _ _ _ _ () dX4_firstDoll_6 rfl rfl hP hS
abbrev rm_X4_lastDoll : Room := { frames := 2, cells := 0, slots := 0, locals := 44 }
theorem ydv_X4_lastDoll : yX4_lastDoll.cls = RX4 ∧ yX4_lastDoll.cls ≠ "java/lang/invoke/MethodHandle" ∧ yX4_lastDoll.cls ≠ "java/lang/invoke/VarHandle" ∧ (parseMethodDescriptor yX4_lastDoll.desc).map (fun d => d.parameters.length) = some 1 := by decide +kernel
set_option maxHeartbeats 4000000 in
set_option maxRecDepth 100000 in
theorem c_X4_lastDoll (l : Launch) (D : va_G) (cA : ClassId) (h0 h1 h2 : Nat) (a : Nat → Nat) (g : Nat) (hg : g < 8) (e0 : 0 < ln a g) (e1 : ln a g ≤ 32) : RO l D cA yX4_lastDoll wsX4_lastDoll rm_X4_lastDoll [.ref h0, .int (nI g)] [(h0, .inr (4, [.ref h1])), (h1, .inr (3, [.ref h2])), (h2, .inl (cA, 286, .inl (nF a)))] (nI (dl a g (ln a g - 1))) := by
  refine ofWi (cc := cX4_lastDoll) (maxL := 2) (rt := .int) (by decide) rfl (Nat.le_of_ble_eq_true rfl) ?_
  intro p e s m args below meth c Q A ls F hK hR hP hD hA hS hl RET
  obtain ⟨hx, hb, hml, hown, hts⟩ := id F
  have hl : lv_has ls 2 [(0, .ref h0), (1, .int (nI g))] := hl
  refine lv_aload_n hx hb dX4_lastDoll_0 rfl (lv_at hl 0 rfl) ?_
  refine lv_iload_n hx hb dX4_lastDoll_1 rfl (lv_at hl 1 rfl) ?_
  refine lv_aload_n hx hb dX4_lastDoll_2 rfl (lv_at hl 0 rfl) ?_
  refine lv_iload_n hx hb dX4_lastDoll_3 rfl (lv_at hl 1 rfl) ?_
  refine call_r (q := (RX4, TX4, 1)) (As := [.int (nI g)]) (rest := [.int (nI g), .ref h0]) F (c_X4_lengthOf l D cA h0 h1 h2 a g (by omega)) (cwV 1 hts gX4_lastDoll_X4_lengthOf rfl rfl rfl ydv_X4_lengthOf ⟨Nat.le_of_ble_eq_true rfl, Nat.le_of_ble_eq_true rfl⟩) hK hR hP hD hA hS [0, 1, 2] rfl rfl 0 4 rfl rfl rfl hl.1 rfl (Nat.le_of_ble_eq_true rfl) dX4_lastDoll_4 ⟨Nat.zero_le _, Nat.zero_le _⟩ (fun H locs hP hS => ?_)
  refine lv_iconst (v := nI 1) hx hb dX4_lastDoll_7 (by decide) ?_
  refine nv_isub hx hb dX4_lastDoll_8 (by omega) ?_
  refine call_r (q := (RX4, TX4, 1)) (As := [.int (nI g), .int (nI ((ln a g) - 1))]) (rest := []) F (c_X4_dollAt l D cA h0 h1 h2 a g ((ln a g) - 1) (by omega) (by omega)) (cwV 2 hts gX4_lastDoll_X4_dollAt rfl rfl rfl ydv_X4_dollAt ⟨Nat.le_of_ble_eq_true rfl, Nat.le_of_ble_eq_true rfl⟩) hK hR hP hD hA hS [0, 1, 2] rfl rfl 0 4 rfl rfl rfl hl.1 rfl (Nat.le_of_ble_eq_true rfl) dX4_lastDoll_9 ⟨Nat.zero_le _, Nat.zero_le _⟩ (fun H locs hP hS => ?_)
  refine tope (y := nI (dl a g (ln a g - 1))) (by rfl) ?_
  exact RET _ _ _ _ _ () dX4_lastDoll_12 rfl rfl hP hS
abbrev rm_X4_putDoll : Room := { frames := 1, cells := 0, slots := 0, locals := 22 }
theorem ydv_X4_putDoll : yX4_putDoll.cls = RX4 ∧ yX4_putDoll.cls ≠ "java/lang/invoke/MethodHandle" ∧ yX4_putDoll.cls ≠ "java/lang/invoke/VarHandle" ∧ (parseMethodDescriptor yX4_putDoll.desc).map (fun d => d.parameters.length) = some 3 := by decide +kernel
theorem inf_X4_putDoll_X4 : ∀ w ∈ wsX40, w ∈ wsX4_putDoll := fun w h => List.mem_cons_of_mem _ (List.mem_append_left _ (List.mem_append_right _ (h)))
set_option maxHeartbeats 4000000 in
set_option maxRecDepth 100000 in
theorem c_X4_putDoll (l : Launch) (D : va_G) (cA : ClassId) (h0 h1 h2 : Nat) (a : Nat → Nat) (g q v : Nat) (hg : g < 8) (hp : q < 32) : MV l D cA yX4_putDoll wsX4_putDoll rm_X4_putDoll [.ref h0, .int (nI g), .int (nI q), .int (nI v)] [(h0, .inr (4, [.ref h1])), (h1, .inr (3, [.ref h2]))] [(h2, .inl (cA, 286, .inl (nF a)))] (S := Unit) (fun _ => True) (fun _ => [(h2, .inl (cA, 286, .inl (nF (updN a (30 + g * 32 + q) v))))]) := by
  refine ofWv (cc := cX4_putDoll) (maxL := 4) (by decide) rfl (Nat.le_of_ble_eq_true rfl) ?_
  intro p e s m args below meth c Q A ls F hK hR hP hD hA hS hl RET
  obtain ⟨hx, hb, hml, hown, hts⟩ := id F
  have hl : lv_has ls 4 [(0, .ref h0), (1, .int (nI g)), (2, .int (nI q)), (3, .int (nI v))] := hl
  refine lv_aload_n hx hb dX4_putDoll_0 rfl (lv_at hl 0 rfl) ?_
  refine va_get (D := D) (cl := vwCl) (ci := 4) (v := .ref h1) (C := RX4) (T := TX4) (N := 1) hx hb hts inf_X4_putDoll_X4 hown hK.1 (hR.at hS) 0 rfl rfl 0 (by decide) (hts _ (List.mem_of_getElem? (i := 1) rfl)) (fun _ h9 => h9) rfl dX4_putDoll_1 ?_
  refine lv_aload_n hx hb dX4_putDoll_4 rfl (lv_at hl 0 rfl) ?_
  refine lv_iload_n hx hb dX4_putDoll_5 rfl (lv_at hl 1 rfl) ?_
  refine lv_iload_n hx hb dX4_putDoll_6 rfl (lv_at hl 2 rfl) ?_
  refine call_r (q := (RX4, TX4, 1)) (As := [.int (nI g), .int (nI q)]) (rest := [.ref h1]) F (c_X4_cellOf l D cA h0 ([.ref h1]) g q) (cwV 2 hts gX4_putDoll_X4_cellOf rfl rfl rfl ydv_X4_cellOf ⟨Nat.le_of_ble_eq_true rfl, Nat.le_of_ble_eq_true rfl⟩) hK hR hP hD hA hS [0] rfl rfl 0 4 rfl rfl rfl hl.1 rfl (Nat.le_of_ble_eq_true rfl) dX4_putDoll_7 ⟨Nat.zero_le _, Nat.zero_le _⟩ (fun H locs hP hS => ?_)
  refine lv_iload_n hx hb dX4_putDoll_10 rfl (lv_at hl 3 rfl) ?_
  refine call_v (q := (RX3, TX3, 1)) (As := [.int (nI (30 + g * 32 + q)), .int (nI v)]) (rest := []) F (c_X3_put l D cA h1 h2 286 a (30 + g * 32 + q) v (by omega) (by decide)) (cwV 2 hts gX4_putDoll_X3_put rfl rfl rfl ydv_X3_put ⟨Nat.le_of_ble_eq_true rfl, Nat.le_of_ble_eq_true rfl⟩) hK hR hP hD hA hS [1, 2] [0] rfl rfl rfl 1 3 rfl rfl (fun _ => rfl) rfl hl.1 rfl (Nat.le_of_ble_eq_true rfl) dX4_putDoll_11 ⟨Nat.zero_le _, Nat.zero_le _⟩ (fun u_11 H locs hw hP hD hS => ?_)
  have hP : va_P D vwCl [(h2, .inl (cA, 286, .inl (nF (updN a (30 + g * 32 + q) v))))] H := hP
  have hD : va_D A [(h2, .inl (cA, 286, .inl (nF (updN a (30 + g * 32 + q) v))))] := hD
  exact RET _ _ _ _ () dX4_putDoll_14 trivial hP hS
