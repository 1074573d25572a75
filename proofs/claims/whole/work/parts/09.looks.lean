/-! laid by a program: contracts of X2_mirroredIn, X2_kindsIn, X2_isSame, X2_isMirror, X2_isOwnMirror, X2_repeatsAfter, X2_repeatOf, X2_lowestAlike, X2_highestKind, X2_dollsLike, X2_garlands, X2_dolls, X2_mirroredDolls, X2_ownMirrors, X2_handsThatMeet, X2_differentGarlands -/
abbrev rm_X2_mirroredIn : Room := { frames := 2, cells := 0, slots := 0, locals := 44 }
theorem ydv_X2_mirroredIn : yX2_mirroredIn.cls = RX2 ∧ yX2_mirroredIn.cls ≠ "java/lang/invoke/MethodHandle" ∧ yX2_mirroredIn.cls ≠ "java/lang/invoke/VarHandle" ∧ (parseMethodDescriptor yX2_mirroredIn.desc).map (fun d => d.parameters.length) = some 1 := by decide +kernel
theorem inf_X2_mirroredIn_X2 : ∀ w ∈ wsX20, w ∈ wsX2_mirroredIn := fun w h => List.mem_cons_of_mem _ (List.mem_append_left _ (List.mem_append_left _ (List.mem_append_right _ (h))))
set_option maxHeartbeats 4000000 in
set_option maxRecDepth 100000 in
theorem c_X2_mirroredIn (l : Launch) (D : va_G) (cA : ClassId) (k0 h0 h1 h2 : Nat) (a : Nat → Nat) (g : Nat) (hV : Vd a) (hg : g < 8) : RO l D cA yX2_mirroredIn wsX2_mirroredIn rm_X2_mirroredIn [.ref k0, .int (nI g)] [(k0, .inr (2, [.ref h0])), (h0, .inr (4, [.ref h1])), (h1, .inr (3, [.ref h2])), (h2, .inl (cA, 286, .inl (nF a)))] (nI (mirIn a g)) := by
  refine ofWi (cc := cX2_mirroredIn) (maxL := 5) (rt := .int) (by decide) rfl (Nat.le_of_ble_eq_true rfl) ?_
  intro p e s m args below meth c Q A ls F hK hR hP hD hA hS hl RET
  obtain ⟨hx, hb, hml, hown, hts⟩ := id F
  have hl : lv_has ls 5 [(0, .ref k0), (1, .int (nI g))] := hl
  have hl32 := hV.l hg
  refine lv_aload_n hx hb dX2_mirroredIn_0 rfl (lv_at hl 0 rfl) ?_
  refine va_get (D := D) (cl := vwCl) (ci := 2) (v := .ref h0) (C := RX2) (T := TX2) (N := 1) hx hb hts inf_X2_mirroredIn_X2 hown hK.1 (hR.at hS) 0 rfl rfl 0 (by decide) (hts _ (List.mem_of_getElem? (i := 1) rfl)) (fun _ h9 => h9) rfl dX2_mirroredIn_1 ?_
  refine lv_iload_n hx hb dX2_mirroredIn_4 rfl (lv_at hl 1 rfl) ?_
  refine call_r (q := (RX4, TX4, 1)) (As := [.int (nI g)]) (rest := []) F (c_X4_lengthOf l D cA h0 h1 h2 a g (by omega)) (cwV 1 hts gX2_mirroredIn_X4_lengthOf rfl rfl rfl ydv_X4_lengthOf ⟨Nat.le_of_ble_eq_true rfl, Nat.le_of_ble_eq_true rfl⟩) hK hR hP hD hA hS [1, 2, 3] rfl rfl 1 4 rfl rfl rfl hl.1 rfl (Nat.le_of_ble_eq_true rfl) dX2_mirroredIn_5 ⟨Nat.zero_le _, Nat.zero_le _⟩ (fun H locs hP hS => ?_)
  refine lv_istore_n (lv' := [(2, .int (nI (ln a g))), (0, .ref k0), (1, .int (nI g))]) hx hb dX2_mirroredIn_8 rfl hl (by decide) rfl (fun ls hl => ?_)
  refine lv_iconst (v := nI 0) hx hb dX2_mirroredIn_9 (by decide) ?_
  refine lv_istore_n (lv' := [(3, .int (nI 0)), (2, .int (nI (ln a g))), (0, .ref k0), (1, .int (nI g))]) hx hb dX2_mirroredIn_10 rfl hl (by decide) rfl (fun ls hl => ?_)
  refine lv_iconst (v := nI 0) hx hb dX2_mirroredIn_11 (by decide) ?_
  refine lv_istore (lv' := [(4, .int (nI 0)), (3, .int (nI 0)), (2, .int (nI (ln a g))), (0, .ref k0), (1, .int (nI g))]) hx hb dX2_mirroredIn_12 hl (by decide) rfl (fun ls hl => ?_)
  have LP_14 : ∀ (k_14 : Nat) (i : Nat) (x : Nat) (H : Heap) (locs : List Loc) (ls : Array Slot), ln a g - i = k_14 → (i ≤ ln a g) → (x = sumN (fun j => b2n (mr (dl a g j))) i) → va_P D vwCl [] H → va_D A [] → va_S A s.heap H locs → lv_has ls 5 [(0, .ref k0), (1, .int (nI g)), (2, .int (nI (ln a g))), (3, .int (nI x)), (4, .int (nI i))] → W p l e rm_X2_mirroredIn s m args below meth c H locs 0 0 Q (F0 m 14 ls []) := by
    refine sind (fun k_14 ih_14 => ?_)
    intro i x H locs ls hk_14 hi hs_ hP hD hS hl
    refine lv_iload hx hb dX2_mirroredIn_14 (lv_at hl 4 rfl) ?_
    refine lv_iload_n hx hb dX2_mirroredIn_16 rfl (lv_at hl 2 rfl) ?_
    refine nv_icmp_ge (tgt := 45) hx hb dX2_mirroredIn_17 (by decide) (by omega) (by omega) (fun c_17 => ?_) (fun c_17 => ?_)
    · refine lv_iload_n hx hb dX2_mirroredIn_45 rfl (lv_at hl 3 rfl) ?_
      refine tope (y := nI (mirIn a g)) (by rw [hs_, show i = ln a g by omega]; rfl) ?_
      exact RET _ _ _ _ _ () dX2_mirroredIn_46 rfl rfl hP hS
    · have hd_ := hV.d (q := i) hg (by omega)
      refine lv_iload_n hx hb dX2_mirroredIn_20 rfl (lv_at hl 3 rfl) ?_
      refine lv_aload_n hx hb dX2_mirroredIn_21 rfl (lv_at hl 0 rfl) ?_
      refine va_get (D := D) (cl := vwCl) (ci := 2) (v := .ref h0) (C := RX2) (T := TX2) (N := 1) hx hb hts inf_X2_mirroredIn_X2 hown hK.1 (hR.at hS) 0 rfl rfl 0 (by decide) (hts _ (List.mem_of_getElem? (i := 1) rfl)) (fun _ h9 => h9) rfl dX2_mirroredIn_22 ?_
      refine lv_iload_n hx hb dX2_mirroredIn_25 rfl (lv_at hl 1 rfl) ?_
      refine lv_iload hx hb dX2_mirroredIn_26 (lv_at hl 4 rfl) ?_
      refine call_r (q := (RX4, TX4, 1)) (As := [.int (nI g), .int (nI i)]) (rest := [.int (nI x)]) F (c_X4_dollAt l D cA h0 h1 h2 a g i (by omega) (by omega)) (cwV 2 hts gX2_mirroredIn_X4_dollAt rfl rfl rfl ydv_X4_dollAt ⟨Nat.le_of_ble_eq_true rfl, Nat.le_of_ble_eq_true rfl⟩) hK hR hP hD hA hS [1, 2, 3] rfl rfl 1 4 rfl rfl rfl hl.1 rfl (Nat.le_of_ble_eq_true rfl) dX2_mirroredIn_28 ⟨Nat.zero_le _, Nat.zero_le _⟩ (fun H locs hP hS => ?_)
      refine call_n (As := [.int (nI (dl a g i))]) (rest := [.int (nI x)]) F (c_X6_isMirrored l D cA (dl a g i) (by omega)) ⟨va_cnB 1 hts gX2_mirroredIn_X6_isMirrored_n25 rfl rfl rfl (hK.2 _ (List.mem_of_getElem? (i := 6) rfl)) (hts _ (List.mem_of_getElem? (i := 23) rfl)) yd_X6_isMirrored ⟨Nat.le_of_ble_eq_true rfl, Nat.le_of_ble_eq_true rfl⟩, (hts _ (List.mem_of_getElem? (i := 22) rfl)), trivial⟩ hK hR hP hD hA hS rfl hl.1 rfl (Nat.le_of_ble_eq_true rfl) dX2_mirroredIn_31 ⟨Nat.zero_le _, Nat.zero_le _⟩ (fun H locs hP hS => ?_)
      refine call_n (As := [.int (bI (mr (dl a g i)))]) (rest := [.int (nI x)]) F (c_X6_oneIf l D cA (mr (dl a g i))) ⟨va_cnB 1 hts gX2_mirroredIn_X6_oneIf_n29 rfl rfl rfl (hK.2 _ (List.mem_of_getElem? (i := 7) rfl)) (hts _ (List.mem_of_getElem? (i := 23) rfl)) yd_X6_oneIf ⟨Nat.le_of_ble_eq_true rfl, Nat.le_of_ble_eq_true rfl⟩, (hts _ (List.mem_of_getElem? (i := 25) rfl)), trivial⟩ hK hR hP hD hA hS rfl hl.1 rfl (Nat.le_of_ble_eq_true rfl) dX2_mirroredIn_34 ⟨Nat.zero_le _, Nat.zero_le _⟩ (fun H locs hP hS => ?_)
      refine nv_iadd hx hb dX2_mirroredIn_37 ?_
      refine lv_istore_n (lv' := [(3, .int (nI (x + (b2n (mr (dl a g i)))))), (0, .ref k0), (1, .int (nI g)), (2, .int (nI (ln a g))), (4, .int (nI i))]) hx hb dX2_mirroredIn_38 rfl hl (by decide) rfl (fun ls hl => ?_)
      refine lv_iinc (v := nI (i + 1)) (lv' := [(4, .int (nI (i + 1))), (3, .int (nI (x + (b2n (mr (dl a g i)))))), (0, .ref k0), (1, .int (nI g)), (2, .int (nI (ln a g)))]) hx hb dX2_mirroredIn_39 hl (k := 4) rfl (nI_add _ _) (by decide) rfl (fun ls hl => ?_)
      refine lv_goto (tgt := 14) hx hb dX2_mirroredIn_42 (by decide) ?_
      exact ih_14 _ (by omega) (i + 1) (x + (b2n (mr (dl a g i)))) _ _ _ rfl (by omega) (by rw [hs_]; rfl) hP hD hS (lv_sub hl [2, 3, 4, 1, 0] rfl)
  exact LP_14 _ 0 0 _ _ _ rfl (by omega) (rfl) hP hD hS (lv_sub hl [3, 4, 2, 1, 0] rfl)
abbrev rm_X2_kindsIn : Room := { frames := 2, cells := 0, slots := 0, locals := 44 }
theorem ydv_X2_kindsIn : yX2_kindsIn.cls = RX2 ∧ yX2_kindsIn.cls ≠ "java/lang/invoke/MethodHandle" ∧ yX2_kindsIn.cls ≠ "java/lang/invoke/VarHandle" ∧ (parseMethodDescriptor yX2_kindsIn.desc).map (fun d => d.parameters.length) = some 1 := by decide +kernel
theorem inf_X2_kindsIn_X2 : ∀ w ∈ wsX20, w ∈ wsX2_kindsIn := fun w h => List.mem_cons_of_mem _ (List.mem_append_left _ (List.mem_append_left _ (List.mem_append_right _ (h))))
set_option maxHeartbeats 4000000 in
set_option maxRecDepth 100000 in
theorem c_X2_kindsIn (l : Launch) (D : va_G) (cA : ClassId) (k0 h0 h1 h2 : Nat) (a : Nat → Nat) (g : Nat) (hV : Vd a) (hg : g < 8) : RO l D cA yX2_kindsIn wsX2_kindsIn rm_X2_kindsIn [.ref k0, .int (nI g)] [(k0, .inr (2, [.ref h0])), (h0, .inr (4, [.ref h1])), (h1, .inr (3, [.ref h2])), (h2, .inl (cA, 286, .inl (nF a)))] (nI (kdsIn a g)) := by
  refine ofWi (cc := cX2_kindsIn) (maxL := 5) (rt := .int) (by decide) rfl (Nat.le_of_ble_eq_true rfl) ?_
  intro p e s m args below meth c Q A ls F hK hR hP hD hA hS hl RET
  obtain ⟨hx, hb, hml, hown, hts⟩ := id F
  have hl : lv_has ls 5 [(0, .ref k0), (1, .int (nI g))] := hl
  have hl32 := hV.l hg
  refine lv_aload_n hx hb dX2_kindsIn_0 rfl (lv_at hl 0 rfl) ?_
  refine va_get (D := D) (cl := vwCl) (ci := 2) (v := .ref h0) (C := RX2) (T := TX2) (N := 1) hx hb hts inf_X2_kindsIn_X2 hown hK.1 (hR.at hS) 0 rfl rfl 0 (by decide) (hts _ (List.mem_of_getElem? (i := 1) rfl)) (fun _ h9 => h9) rfl dX2_kindsIn_1 ?_
  refine lv_iload_n hx hb dX2_kindsIn_4 rfl (lv_at hl 1 rfl) ?_
  refine call_r (q := (RX4, TX4, 1)) (As := [.int (nI g)]) (rest := []) F (c_X4_lengthOf l D cA h0 h1 h2 a g (by omega)) (cwV 1 hts gX2_kindsIn_X4_lengthOf rfl rfl rfl ydv_X4_lengthOf ⟨Nat.le_of_ble_eq_true rfl, Nat.le_of_ble_eq_true rfl⟩) hK hR hP hD hA hS [1, 2, 3] rfl rfl 1 4 rfl rfl rfl hl.1 rfl (Nat.le_of_ble_eq_true rfl) dX2_kindsIn_5 ⟨Nat.zero_le _, Nat.zero_le _⟩ (fun H locs hP hS => ?_)
  refine lv_istore_n (lv' := [(2, .int (nI (ln a g))), (0, .ref k0), (1, .int (nI g))]) hx hb dX2_kindsIn_8 rfl hl (by decide) rfl (fun ls hl => ?_)
  refine lv_iconst (v := nI 0) hx hb dX2_kindsIn_9 (by decide) ?_
  refine lv_istore_n (lv' := [(3, .int (nI 0)), (2, .int (nI (ln a g))), (0, .ref k0), (1, .int (nI g))]) hx hb dX2_kindsIn_10 rfl hl (by decide) rfl (fun ls hl => ?_)
  refine lv_iconst (v := nI 0) hx hb dX2_kindsIn_11 (by decide) ?_
  refine lv_istore (lv' := [(4, .int (nI 0)), (3, .int (nI 0)), (2, .int (nI (ln a g))), (0, .ref k0), (1, .int (nI g))]) hx hb dX2_kindsIn_12 hl (by decide) rfl (fun ls hl => ?_)
  have LP_14 : ∀ (k_14 : Nat) (i : Nat) (x : Nat) (H : Heap) (locs : List Loc) (ls : Array Slot), ln a g - i = k_14 → (i ≤ ln a g) → (x = orN (fun j => 2 ^ (dl a g j / 2)) i) → va_P D vwCl [] H → va_D A [] → va_S A s.heap H locs → lv_has ls 5 [(0, .ref k0), (1, .int (nI g)), (2, .int (nI (ln a g))), (3, .int (nI x)), (4, .int (nI i))] → W p l e rm_X2_kindsIn s m args below meth c H locs 0 0 Q (F0 m 14 ls []) := by
    refine sind (fun k_14 ih_14 => ?_)
    intro i x H locs ls hk_14 hi hs_ hP hD hS hl
    refine lv_iload hx hb dX2_kindsIn_14 (lv_at hl 4 rfl) ?_
    refine lv_iload_n hx hb dX2_kindsIn_16 rfl (lv_at hl 2 rfl) ?_
    refine nv_icmp_ge (tgt := 44) hx hb dX2_kindsIn_17 (by decide) (by omega) (by omega) (fun c_17 => ?_) (fun c_17 => ?_)
    · refine lv_iload_n hx hb dX2_kindsIn_44 rfl (lv_at hl 3 rfl) ?_
      refine tope (y := nI (kdsIn a g)) (by rw [hs_, show i = ln a g by omega]; rfl) ?_
      exact RET _ _ _ _ _ () dX2_kindsIn_45 rfl rfl hP hS
    · have hd_ := hV.d (q := i) hg (by omega)
      refine lv_iload_n hx hb dX2_kindsIn_20 rfl (lv_at hl 3 rfl) ?_
      refine lv_iconst (v := nI 1) hx hb dX2_kindsIn_21 (by decide) ?_
      refine lv_aload_n hx hb dX2_kindsIn_22 rfl (lv_at hl 0 rfl) ?_
      refine va_get (D := D) (cl := vwCl) (ci := 2) (v := .ref h0) (C := RX2) (T := TX2) (N := 1) hx hb hts inf_X2_kindsIn_X2 hown hK.1 (hR.at hS) 0 rfl rfl 0 (by decide) (hts _ (List.mem_of_getElem? (i := 1) rfl)) (fun _ h9 => h9) rfl dX2_kindsIn_23 ?_
      refine lv_iload_n hx hb dX2_kindsIn_26 rfl (lv_at hl 1 rfl) ?_
      refine lv_iload hx hb dX2_kindsIn_27 (lv_at hl 4 rfl) ?_
      refine call_r (q := (RX4, TX4, 1)) (As := [.int (nI g), .int (nI i)]) (rest := [.int (nI 1), .int (nI x)]) F (c_X4_dollAt l D cA h0 h1 h2 a g i (by omega) (by omega)) (cwV 2 hts gX2_kindsIn_X4_dollAt rfl rfl rfl ydv_X4_dollAt ⟨Nat.le_of_ble_eq_true rfl, Nat.le_of_ble_eq_true rfl⟩) hK hR hP hD hA hS [1, 2, 3] rfl rfl 1 4 rfl rfl rfl hl.1 rfl (Nat.le_of_ble_eq_true rfl) dX2_kindsIn_29 ⟨Nat.zero_le _, Nat.zero_le _⟩ (fun H locs hP hS => ?_)
      refine call_n (As := [.int (nI (dl a g i))]) (rest := [.int (nI 1), .int (nI x)]) F (c_X6_kindOf l D cA (dl a g i) (by omega)) ⟨va_cnB 1 hts gX2_kindsIn_X6_kindOf_n33 rfl rfl rfl (hK.2 _ (List.mem_of_getElem? (i := 3) rfl)) (hts _ (List.mem_of_getElem? (i := 23) rfl)) yd_X6_kindOf ⟨Nat.le_of_ble_eq_true rfl, Nat.le_of_ble_eq_true rfl⟩, (hts _ (List.mem_of_getElem? (i := 22) rfl)), trivial⟩ hK hR hP hD hA hS rfl hl.1 rfl (Nat.le_of_ble_eq_true rfl) dX2_kindsIn_32 ⟨Nat.zero_le _, Nat.zero_le _⟩ (fun H locs hP hS => ?_)
      refine nv_ishl1 hx hb dX2_kindsIn_35 (by omega) ?_
      refine nv_ior hx hb dX2_kindsIn_36 ?_
      refine lv_istore_n (lv' := [(3, .int (nI (x ||| (2 ^ ((dl a g i) / 2))))), (0, .ref k0), (1, .int (nI g)), (2, .int (nI (ln a g))), (4, .int (nI i))]) hx hb dX2_kindsIn_37 rfl hl (by decide) rfl (fun ls hl => ?_)
      refine lv_iinc (v := nI (i + 1)) (lv' := [(4, .int (nI (i + 1))), (3, .int (nI (x ||| (2 ^ ((dl a g i) / 2))))), (0, .ref k0), (1, .int (nI g)), (2, .int (nI (ln a g)))]) hx hb dX2_kindsIn_38 hl (k := 4) rfl (nI_add _ _) (by decide) rfl (fun ls hl => ?_)
      refine lv_goto (tgt := 14) hx hb dX2_kindsIn_41 (by decide) ?_
      exact ih_14 _ (by omega) (i + 1) (x ||| (2 ^ ((dl a g i) / 2))) _ _ _ rfl (by omega) (by rw [hs_]; rfl) hP hD hS (lv_sub hl [2, 3, 4, 1, 0] rfl)
  exact LP_14 _ 0 0 _ _ _ rfl (by omega) (rfl) hP hD hS (lv_sub hl [3, 4, 2, 1, 0] rfl)
abbrev rm_X2_isSame : Room := { frames := 2, cells := 0, slots := 0, locals := 44 }
theorem ydv_X2_isSame : yX2_isSame.cls = RX2 ∧ yX2_isSame.cls ≠ "java/lang/invoke/MethodHandle" ∧ yX2_isSame.cls ≠ "java/lang/invoke/VarHandle" ∧ (parseMethodDescriptor yX2_isSame.desc).map (fun d => d.parameters.length) = some 2 := by decide +kernel
theorem inf_X2_isSame_X2 : ∀ w ∈ wsX20, w ∈ wsX2_isSame := fun w h => List.mem_cons_of_mem _ (List.mem_append_left _ (List.mem_append_left _ (List.mem_append_right _ (h))))
set_option maxHeartbeats 4000000 in
set_option maxRecDepth 100000 in
theorem c_X2_isSame (l : Launch) (D : va_G) (cA : ClassId) (k0 h0 h1 h2 : Nat) (a : Nat → Nat) (g o : Nat) (hV : Vd a) (hg : g < 8) (ho : o < 8) : RO l D cA yX2_isSame wsX2_isSame rm_X2_isSame [.ref k0, .int (nI g), .int (nI o)] [(k0, .inr (2, [.ref h0])), (h0, .inr (4, [.ref h1])), (h1, .inr (3, [.ref h2])), (h2, .inl (cA, 286, .inl (nF a)))] (bI (same a g o)) := by
  refine ofWi (cc := cX2_isSame) (maxL := 5) (rt := .boolean) (by decide) rfl (Nat.le_of_ble_eq_true rfl) ?_
  intro p e s m args below meth c Q A ls F hK hR hP hD hA hS hl RET
  obtain ⟨hx, hb, hml, hown, hts⟩ := id F
  have hl : lv_has ls 5 [(0, .ref k0), (1, .int (nI g)), (2, .int (nI o))] := hl
  have hl32 := hV.l hg
  have ho32 := hV.l ho
  refine lv_aload_n hx hb dX2_isSame_0 rfl (lv_at hl 0 rfl) ?_
  refine va_get (D := D) (cl := vwCl) (ci := 2) (v := .ref h0) (C := RX2) (T := TX2) (N := 1) hx hb hts inf_X2_isSame_X2 hown hK.1 (hR.at hS) 0 rfl rfl 0 (by decide) (hts _ (List.mem_of_getElem? (i := 1) rfl)) (fun _ h9 => h9) rfl dX2_isSame_1 ?_
  refine lv_iload_n hx hb dX2_isSame_4 rfl (lv_at hl 1 rfl) ?_
  refine call_r (q := (RX4, TX4, 1)) (As := [.int (nI g)]) (rest := []) F (c_X4_lengthOf l D cA h0 h1 h2 a g (by omega)) (cwV 1 hts gX2_isSame_X4_lengthOf rfl rfl rfl ydv_X4_lengthOf ⟨Nat.le_of_ble_eq_true rfl, Nat.le_of_ble_eq_true rfl⟩) hK hR hP hD hA hS [1, 2, 3] rfl rfl 1 4 rfl rfl rfl hl.1 rfl (Nat.le_of_ble_eq_true rfl) dX2_isSame_5 ⟨Nat.zero_le _, Nat.zero_le _⟩ (fun H locs hP hS => ?_)
  refine lv_istore_n (lv' := [(3, .int (nI (ln a g))), (0, .ref k0), (1, .int (nI g)), (2, .int (nI o))]) hx hb dX2_isSame_8 rfl hl (by decide) rfl (fun ls hl => ?_)
  refine lv_iload_n hx hb dX2_isSame_9 rfl (lv_at hl 0 rfl) ?_
  refine lv_aload_n hx hb dX2_isSame_10 rfl (lv_at hl 1 rfl) ?_
  refine va_get (D := D) (cl := vwCl) (ci := 2) (v := .ref h0) (C := RX2) (T := TX2) (N := 1) hx hb hts inf_X2_isSame_X2 hown hK.1 (hR.at hS) 0 rfl rfl 0 (by decide) (hts _ (List.mem_of_getElem? (i := 1) rfl)) (fun _ h9 => h9) rfl dX2_isSame_11 ?_
  refine lv_iload_n hx hb dX2_isSame_14 rfl (lv_at hl 3 rfl) ?_
  refine call_r (q := (RX4, TX4, 1)) (As := [.int (nI o)]) (rest := [.int (nI (ln a g))]) F (c_X4_lengthOf l D cA h0 h1 h2 a o (by omega)) (cwV 1 hts gX2_isSame_X4_lengthOf rfl rfl rfl ydv_X4_lengthOf ⟨Nat.le_of_ble_eq_true rfl, Nat.le_of_ble_eq_true rfl⟩) hK hR hP hD hA hS [1, 2, 3] rfl rfl 1 4 rfl rfl rfl hl.1 rfl (Nat.le_of_ble_eq_true rfl) dX2_isSame_15 ⟨Nat.zero_le _, Nat.zero_le _⟩ (fun H locs hP hS => ?_)
  refine nv_icmp_eq (tgt := 23) hx hb dX2_isSame_18 (by decide) (by omega) (by omega) (fun c_18 => ?_) (fun c_18 => ?_)
  · refine lv_iconst (v := nI 0) hx hb dX2_isSame_23 (by decide) ?_
    refine lv_istore (lv' := [(4, .int (nI 0)), (3, .int (nI (ln a g))), (0, .ref k0), (1, .int (nI g)), (2, .int (nI o))]) hx hb dX2_isSame_24 hl (by decide) rfl (fun ls hl => ?_)
    have LP_26 : ∀ (k_26 : Nat) (i : Nat) (H : Heap) (locs : List Loc) (ls : Array Slot), ln a g - i = k_26 → (i ≤ ln a g) → (∀ j, j < i → decide (dl a g j = dl a o j) = true) → va_P D vwCl [] H → va_D A [] → va_S A s.heap H locs → lv_has ls 5 [(0, .ref k0), (1, .int (nI g)), (2, .int (nI o)), (3, .int (nI (ln a g))), (4, .int (nI i))] → W p l e rm_X2_isSame s m args below meth c H locs 0 0 Q (F0 m 26 ls []) := by
      refine sind (fun k_26 ih_26 => ?_)
      intro i H locs ls hk_26 hi hf hP hD hS hl
      refine lv_iload hx hb dX2_isSame_26 (lv_at hl 4 rfl) ?_
      refine lv_iload_n hx hb dX2_isSame_28 rfl (lv_at hl 3 rfl) ?_
      refine nv_icmp_ge (tgt := 63) hx hb dX2_isSame_29 (by decide) (by omega) (by omega) (fun c_29 => ?_) (fun c_29 => ?_)
      · refine lv_iconst (v := nI 1) hx hb dX2_isSame_63 (by decide) ?_
        refine tope (y := bI (same a g o)) (bI_t (by simp only [same, Bool.and_eq_true, decide_eq_true_eq]; exact ⟨c_18, allB_t (fun j hj => hf j (by omega))⟩)) ?_
        exact RET _ _ _ _ _ () dX2_isSame_64 (nbI _) rfl hP hS
      · have hd_ := hV.d (q := i) hg (by omega)
        have hd2_ := hV.d (q := i) ho (by omega)
        refine lv_aload_n hx hb dX2_isSame_32 rfl (lv_at hl 0 rfl) ?_
        refine va_get (D := D) (cl := vwCl) (ci := 2) (v := .ref h0) (C := RX2) (T := TX2) (N := 1) hx hb hts inf_X2_isSame_X2 hown hK.1 (hR.at hS) 0 rfl rfl 0 (by decide) (hts _ (List.mem_of_getElem? (i := 1) rfl)) (fun _ h9 => h9) rfl dX2_isSame_33 ?_
        refine lv_iload_n hx hb dX2_isSame_36 rfl (lv_at hl 1 rfl) ?_
        refine lv_iload hx hb dX2_isSame_37 (lv_at hl 4 rfl) ?_
        refine call_r (q := (RX4, TX4, 1)) (As := [.int (nI g), .int (nI i)]) (rest := []) F (c_X4_dollAt l D cA h0 h1 h2 a g i (by omega) (by omega)) (cwV 2 hts gX2_isSame_X4_dollAt rfl rfl rfl ydv_X4_dollAt ⟨Nat.le_of_ble_eq_true rfl, Nat.le_of_ble_eq_true rfl⟩) hK hR hP hD hA hS [1, 2, 3] rfl rfl 1 4 rfl rfl rfl hl.1 rfl (Nat.le_of_ble_eq_true rfl) dX2_isSame_39 ⟨Nat.zero_le _, Nat.zero_le _⟩ (fun H locs hP hS => ?_)
        refine lv_aload_n hx hb dX2_isSame_42 rfl (lv_at hl 0 rfl) ?_
        refine va_get (D := D) (cl := vwCl) (ci := 2) (v := .ref h0) (C := RX2) (T := TX2) (N := 1) hx hb hts inf_X2_isSame_X2 hown hK.1 (hR.at hS) 0 rfl rfl 0 (by decide) (hts _ (List.mem_of_getElem? (i := 1) rfl)) (fun _ h9 => h9) rfl dX2_isSame_43 ?_
        refine lv_iload_n hx hb dX2_isSame_46 rfl (lv_at hl 2 rfl) ?_
        refine lv_iload hx hb dX2_isSame_47 (lv_at hl 4 rfl) ?_
        refine call_r (q := (RX4, TX4, 1)) (As := [.int (nI o), .int (nI i)]) (rest := [.int (nI (dl a g i))]) F (c_X4_dollAt l D cA h0 h1 h2 a o i (by omega) (by omega)) (cwV 2 hts gX2_isSame_X4_dollAt rfl rfl rfl ydv_X4_dollAt ⟨Nat.le_of_ble_eq_true rfl, Nat.le_of_ble_eq_true rfl⟩) hK hR hP hD hA hS [1, 2, 3] rfl rfl 1 4 rfl rfl rfl hl.1 rfl (Nat.le_of_ble_eq_true rfl) dX2_isSame_49 ⟨Nat.zero_le _, Nat.zero_le _⟩ (fun H locs hP hS => ?_)
        refine nv_icmp_eq (tgt := 57) hx hb dX2_isSame_52 (by decide) (by omega) (by omega) (fun c_52 => ?_) (fun c_52 => ?_)
        · refine lv_iinc (v := nI (i + 1)) (lv' := [(4, .int (nI (i + 1))), (0, .ref k0), (1, .int (nI g)), (2, .int (nI o)), (3, .int (nI (ln a g)))]) hx hb dX2_isSame_57 hl (k := 4) rfl (nI_add _ _) (by decide) rfl (fun ls hl => ?_)
          refine lv_goto (tgt := 26) hx hb dX2_isSame_60 (by decide) ?_
          exact ih_26 _ (by omega) (i + 1) _ _ _ rfl (by omega) (fun j hj => by by_cases e_ : j = i; (rw [e_]; exact decide_eq_true c_52); exact hf j (by omega)) hP hD hS (lv_sub hl [1, 2, 3, 4, 0] rfl)
        · refine lv_iconst (v := nI 0) hx hb dX2_isSame_55 (by decide) ?_
          refine tope (y := bI (same a g o)) (bI_f (by simp only [same, Bool.and_eq_false_iff]; exact Or.inr (allB_f i (by omega) (decide_eq_false c_52)))) ?_
          exact RET _ _ _ _ _ () dX2_isSame_56 (nbI _) rfl hP hS
    exact LP_26 _ 0 _ _ _ rfl (by omega) (fun j h_ => absurd h_ (Nat.not_lt_zero j)) hP hD hS (lv_sub hl [2, 3, 4, 1, 0] rfl)
  · refine lv_iconst (v := nI 0) hx hb dX2_isSame_21 (by decide) ?_
    refine tope (y := bI (same a g o)) (bI_f (by simp [same, c_18])) ?_
    exact RET _ _ _ _ _ () dX2_isSame_22 (nbI _) rfl hP hS
abbrev rm_X2_isMirror : Room := { frames := 2, cells := 0, slots := 0, locals := 44 }
theorem ydv_X2_isMirror : yX2_isMirror.cls = RX2 ∧ yX2_isMirror.cls ≠ "java/lang/invoke/MethodHandle" ∧ yX2_isMirror.cls ≠ "java/lang/invoke/VarHandle" ∧ (parseMethodDescriptor yX2_isMirror.desc).map (fun d => d.parameters.length) = some 2 := by decide +kernel
theorem inf_X2_isMirror_X2 : ∀ w ∈ wsX20, w ∈ wsX2_isMirror := fun w h => List.mem_cons_of_mem _ (List.mem_append_left _ (List.mem_append_left _ (List.mem_append_right _ (h))))
set_option maxHeartbeats 4000000 in
set_option maxRecDepth 100000 in
theorem c_X2_isMirror (l : Launch) (D : va_G) (cA : ClassId) (k0 h0 h1 h2 : Nat) (a : Nat → Nat) (g o : Nat) (hV : Vd a) (hg : g < 8) (ho : o < 8) : RO l D cA yX2_isMirror wsX2_isMirror rm_X2_isMirror [.ref k0, .int (nI g), .int (nI o)] [(k0, .inr (2, [.ref h0])), (h0, .inr (4, [.ref h1])), (h1, .inr (3, [.ref h2])), (h2, .inl (cA, 286, .inl (nF a)))] (bI (mird a g o)) := by
  refine ofWi (cc := cX2_isMirror) (maxL := 6) (rt := .boolean) (by decide) rfl (Nat.le_of_ble_eq_true rfl) ?_
  intro p e s m args below meth c Q A ls F hK hR hP hD hA hS hl RET
  obtain ⟨hx, hb, hml, hown, hts⟩ := id F
  have hl : lv_has ls 6 [(0, .ref k0), (1, .int (nI g)), (2, .int (nI o))] := hl
  have hl32 := hV.l hg
  have ho32 := hV.l ho
  refine lv_aload_n hx hb dX2_isMirror_0 rfl (lv_at hl 0 rfl) ?_
  refine va_get (D := D) (cl := vwCl) (ci := 2) (v := .ref h0) (C := RX2) (T := TX2) (N := 1) hx hb hts inf_X2_isMirror_X2 hown hK.1 (hR.at hS) 0 rfl rfl 0 (by decide) (hts _ (List.mem_of_getElem? (i := 1) rfl)) (fun _ h9 => h9) rfl dX2_isMirror_1 ?_
  refine lv_iload_n hx hb dX2_isMirror_4 rfl (lv_at hl 1 rfl) ?_
  refine call_r (q := (RX4, TX4, 1)) (As := [.int (nI g)]) (rest := []) F (c_X4_lengthOf l D cA h0 h1 h2 a g (by omega)) (cwV 1 hts gX2_isMirror_X4_lengthOf rfl rfl rfl ydv_X4_lengthOf ⟨Nat.le_of_ble_eq_true rfl, Nat.le_of_ble_eq_true rfl⟩) hK hR hP hD hA hS [1, 2, 3] rfl rfl 1 4 rfl rfl rfl hl.1 rfl (Nat.le_of_ble_eq_true rfl) dX2_isMirror_5 ⟨Nat.zero_le _, Nat.zero_le _⟩ (fun H locs hP hS => ?_)
  refine lv_istore_n (lv' := [(3, .int (nI (ln a g))), (0, .ref k0), (1, .int (nI g)), (2, .int (nI o))]) hx hb dX2_isMirror_8 rfl hl (by decide) rfl (fun ls hl => ?_)
  refine lv_iload_n hx hb dX2_isMirror_9 rfl (lv_at hl 0 rfl) ?_
  refine lv_aload_n hx hb dX2_isMirror_10 rfl (lv_at hl 1 rfl) ?_
  refine va_get (D := D) (cl := vwCl) (ci := 2) (v := .ref h0) (C := RX2) (T := TX2) (N := 1) hx hb hts inf_X2_isMirror_X2 hown hK.1 (hR.at hS) 0 rfl rfl 0 (by decide) (hts _ (List.mem_of_getElem? (i := 1) rfl)) (fun _ h9 => h9) rfl dX2_isMirror_11 ?_
  refine lv_iload_n hx hb dX2_isMirror_14 rfl (lv_at hl 3 rfl) ?_
  refine call_r (q := (RX4, TX4, 1)) (As := [.int (nI o)]) (rest := [.int (nI (ln a g))]) F (c_X4_lengthOf l D cA h0 h1 h2 a o (by omega)) (cwV 1 hts gX2_isMirror_X4_lengthOf rfl rfl rfl ydv_X4_lengthOf ⟨Nat.le_of_ble_eq_true rfl, Nat.le_of_ble_eq_true rfl⟩) hK hR hP hD hA hS [1, 2, 3] rfl rfl 1 4 rfl rfl rfl hl.1 rfl (Nat.le_of_ble_eq_true rfl) dX2_isMirror_15 ⟨Nat.zero_le _, Nat.zero_le _⟩ (fun H locs hP hS => ?_)
  refine nv_icmp_eq (tgt := 23) hx hb dX2_isMirror_18 (by decide) (by omega) (by omega) (fun c_18 => ?_) (fun c_18 => ?_)
  · refine lv_iconst (v := nI 0) hx hb dX2_isMirror_23 (by decide) ?_
    refine lv_istore (lv' := [(4, .int (nI 0)), (3, .int (nI (ln a g))), (0, .ref k0), (1, .int (nI g)), (2, .int (nI o))]) hx hb dX2_isMirror_24 hl (by decide) rfl (fun ls hl => ?_)
    have LP_26 : ∀ (k_26 : Nat) (i : Nat) (H : Heap) (locs : List Loc) (ls : Array Slot), ln a g - i = k_26 → (i ≤ ln a g) → (∀ j, j < i → decide (dl a g j = mir (dl a o (ln a g - 1 - j))) = true) → va_P D vwCl [] H → va_D A [] → va_S A s.heap H locs → lv_has ls 6 [(0, .ref k0), (1, .int (nI g)), (2, .int (nI o)), (3, .int (nI (ln a g))), (4, .int (nI i))] → W p l e rm_X2_isMirror s m args below meth c H locs 0 0 Q (F0 m 26 ls []) := by
      refine sind (fun k_26 ih_26 => ?_)
      intro i H locs ls hk_26 hi hf hP hD hS hl
      refine lv_iload hx hb dX2_isMirror_26 (lv_at hl 4 rfl) ?_
      refine lv_iload_n hx hb dX2_isMirror_28 rfl (lv_at hl 3 rfl) ?_
      refine nv_icmp_ge (tgt := 74) hx hb dX2_isMirror_29 (by decide) (by omega) (by omega) (fun c_29 => ?_) (fun c_29 => ?_)
      · refine lv_iconst (v := nI 1) hx hb dX2_isMirror_74 (by decide) ?_
        refine tope (y := bI (mird a g o)) (bI_t (by simp only [mird, Bool.and_eq_true, decide_eq_true_eq]; exact ⟨c_18, allB_t (fun j hj => hf j (by omega))⟩)) ?_
        exact RET _ _ _ _ _ () dX2_isMirror_75 (nbI _) rfl hP hS
      · have hd_ := hV.d (q := i) hg (by omega)
        have hd2_ := mir_lt (hV.d (q := ln a g - 1 - i) ho (by omega))
        refine lv_aload_n hx hb dX2_isMirror_32 rfl (lv_at hl 0 rfl) ?_
        refine va_get (D := D) (cl := vwCl) (ci := 2) (v := .ref h0) (C := RX2) (T := TX2) (N := 1) hx hb hts inf_X2_isMirror_X2 hown hK.1 (hR.at hS) 0 rfl rfl 0 (by decide) (hts _ (List.mem_of_getElem? (i := 1) rfl)) (fun _ h9 => h9) rfl dX2_isMirror_33 ?_
        refine lv_iload_n hx hb dX2_isMirror_36 rfl (lv_at hl 2 rfl) ?_
        refine lv_iload_n hx hb dX2_isMirror_37 rfl (lv_at hl 3 rfl) ?_
        refine lv_iconst (v := nI 1) hx hb dX2_isMirror_38 (by decide) ?_
        refine nv_isub hx hb dX2_isMirror_39 (by omega) ?_
        refine lv_iload hx hb dX2_isMirror_40 (lv_at hl 4 rfl) ?_
        refine nv_isub hx hb dX2_isMirror_42 (by omega) ?_
        refine call_r (q := (RX4, TX4, 1)) (As := [.int (nI o), .int (nI (((ln a g) - 1) - i))]) (rest := []) F (c_X4_dollAt l D cA h0 h1 h2 a o (((ln a g) - 1) - i) (by omega) (by omega)) (cwV 2 hts gX2_isMirror_X4_dollAt rfl rfl rfl ydv_X4_dollAt ⟨Nat.le_of_ble_eq_true rfl, Nat.le_of_ble_eq_true rfl⟩) hK hR hP hD hA hS [1, 2, 3] rfl rfl 1 4 rfl rfl rfl hl.1 rfl (Nat.le_of_ble_eq_true rfl) dX2_isMirror_43 ⟨Nat.zero_le _, Nat.zero_le _⟩ (fun H locs hP hS => ?_)
        refine lv_istore (lv' := [(5, .int (nI (dl a o (((ln a g) - 1) - i)))), (0, .ref k0), (1, .int (nI g)), (2, .int (nI o)), (3, .int (nI (ln a g))), (4, .int (nI i))]) hx hb dX2_isMirror_46 hl (by decide) rfl (fun ls hl => ?_)
        refine lv_aload_n hx hb dX2_isMirror_48 rfl (lv_at hl 1 rfl) ?_
        refine va_get (D := D) (cl := vwCl) (ci := 2) (v := .ref h0) (C := RX2) (T := TX2) (N := 1) hx hb hts inf_X2_isMirror_X2 hown hK.1 (hR.at hS) 0 rfl rfl 0 (by decide) (hts _ (List.mem_of_getElem? (i := 1) rfl)) (fun _ h9 => h9) rfl dX2_isMirror_49 ?_
        refine lv_iload_n hx hb dX2_isMirror_52 rfl (lv_at hl 2 rfl) ?_
        refine lv_iload hx hb dX2_isMirror_53 (lv_at hl 5 rfl) ?_
        refine call_r (q := (RX4, TX4, 1)) (As := [.int (nI g), .int (nI i)]) (rest := []) F (c_X4_dollAt l D cA h0 h1 h2 a g i (by omega) (by omega)) (cwV 2 hts gX2_isMirror_X4_dollAt rfl rfl rfl ydv_X4_dollAt ⟨Nat.le_of_ble_eq_true rfl, Nat.le_of_ble_eq_true rfl⟩) hK hR hP hD hA hS [1, 2, 3] rfl rfl 1 4 rfl rfl rfl hl.1 rfl (Nat.le_of_ble_eq_true rfl) dX2_isMirror_55 ⟨Nat.zero_le _, Nat.zero_le _⟩ (fun H locs hP hS => ?_)
        refine lv_iload hx hb dX2_isMirror_58 (lv_at hl 0 rfl) ?_
        refine call_n (As := [.int (nI (dl a o (((ln a g) - 1) - i)))]) (rest := [.int (nI (dl a g i))]) F (c_X6_mirrorOf l D cA (dl a o (((ln a g) - 1) - i))) ⟨va_cnB 1 hts gX2_isMirror_X6_mirrorOf_n36 rfl rfl rfl (hK.2 _ (List.mem_of_getElem? (i := 4) rfl)) (hts _ (List.mem_of_getElem? (i := 23) rfl)) yd_X6_mirrorOf ⟨Nat.le_of_ble_eq_true rfl, Nat.le_of_ble_eq_true rfl⟩, (hts _ (List.mem_of_getElem? (i := 22) rfl)), trivial⟩ hK hR hP hD hA hS rfl hl.1 rfl (Nat.le_of_ble_eq_true rfl) dX2_isMirror_60 ⟨Nat.zero_le _, Nat.zero_le _⟩ (fun H locs hP hS => ?_)
        refine nv_icmp_eq (tgt := 68) hx hb dX2_isMirror_63 (by decide) (by omega) (by omega) (fun c_63 => ?_) (fun c_63 => ?_)
        · refine lv_iinc (v := nI (i + 1)) (lv' := [(4, .int (nI (i + 1))), (5, .int (nI (dl a o (((ln a g) - 1) - i)))), (0, .ref k0), (1, .int (nI g)), (2, .int (nI o)), (3, .int (nI (ln a g)))]) hx hb dX2_isMirror_68 hl (k := 5) rfl (nI_add _ _) (by decide) rfl (fun ls hl => ?_)
          refine lv_goto (tgt := 26) hx hb dX2_isMirror_71 (by decide) ?_
          exact ih_26 _ (by omega) (i + 1) _ _ _ rfl (by omega) (fun j hj => by by_cases e_ : j = i; (rw [e_]; exact decide_eq_true c_63); exact hf j (by omega)) hP hD hS (lv_sub hl [2, 3, 4, 5, 0] rfl)
        · refine lv_iconst (v := nI 0) hx hb dX2_isMirror_66 (by decide) ?_
          refine tope (y := bI (mird a g o)) (bI_f (by simp only [mird, Bool.and_eq_false_iff]; exact Or.inr (allB_f i (by omega) (decide_eq_false c_63)))) ?_
          exact RET _ _ _ _ _ () dX2_isMirror_67 (nbI _) rfl hP hS
    exact LP_26 _ 0 _ _ _ rfl (by omega) (fun j h_ => absurd h_ (Nat.not_lt_zero j)) hP hD hS (lv_sub hl [2, 3, 4, 1, 0] rfl)
  · refine lv_iconst (v := nI 0) hx hb dX2_isMirror_21 (by decide) ?_
    refine tope (y := bI (mird a g o)) (bI_f (by simp [mird, c_18])) ?_
    exact RET _ _ _ _ _ () dX2_isMirror_22 (nbI _) rfl hP hS
abbrev rm_X2_isOwnMirror : Room := { frames := 3, cells := 0, slots := 0, locals := 69 }
theorem ydv_X2_isOwnMirror : yX2_isOwnMirror.cls = RX2 ∧ yX2_isOwnMirror.cls ≠ "java/lang/invoke/MethodHandle" ∧ yX2_isOwnMirror.cls ≠ "java/lang/invoke/VarHandle" ∧ (parseMethodDescriptor yX2_isOwnMirror.desc).map (fun d => d.parameters.length) = some 1 := by decide +kernel
set_option maxHeartbeats 4000000 in
set_option maxRecDepth 100000 in
theorem c_X2_isOwnMirror (l : Launch) (D : va_G) (cA : ClassId) (k0 h0 h1 h2 : Nat) (a : Nat → Nat) (g : Nat) (hV : Vd a) (hg : g < 8) : RO l D cA yX2_isOwnMirror wsX2_isOwnMirror rm_X2_isOwnMirror [.ref k0, .int (nI g)] [(k0, .inr (2, [.ref h0])), (h0, .inr (4, [.ref h1])), (h1, .inr (3, [.ref h2])), (h2, .inl (cA, 286, .inl (nF a)))] (bI (mird a g g)) := by
  refine ofWi (cc := cX2_isOwnMirror) (maxL := 2) (rt := .boolean) (by decide) rfl (Nat.le_of_ble_eq_true rfl) ?_
  intro p e s m args below meth c Q A ls F hK hR hP hD hA hS hl RET
  obtain ⟨hx, hb, hml, hown, hts⟩ := id F
  have hl : lv_has ls 2 [(0, .ref k0), (1, .int (nI g))] := hl
  refine lv_aload_n hx hb dX2_isOwnMirror_0 rfl (lv_at hl 0 rfl) ?_
  refine lv_iload_n hx hb dX2_isOwnMirror_1 rfl (lv_at hl 1 rfl) ?_
  refine lv_iload_n hx hb dX2_isOwnMirror_2 rfl (lv_at hl 1 rfl) ?_
  refine call_r (q := (RX2, TX2, 1)) (As := [.int (nI g), .int (nI g)]) (rest := []) F (c_X2_isMirror l D cA k0 h0 h1 h2 a g g (hV) (by omega) (by omega)) (cwV 2 hts gX2_isOwnMirror_X2_isMirror rfl rfl rfl ydv_X2_isMirror ⟨Nat.le_of_ble_eq_true rfl, Nat.le_of_ble_eq_true rfl⟩) hK hR hP hD hA hS [0, 1, 2, 3] rfl rfl 0 2 rfl rfl rfl hl.1 rfl (Nat.le_of_ble_eq_true rfl) dX2_isOwnMirror_3 ⟨Nat.zero_le _, Nat.zero_le _⟩ (fun H locs hP hS => ?_)
  exact RET _ _ _ _ _ () dX2_isOwnMirror_6 (nbI _) rfl hP hS
abbrev rm_X2_repeatsAfter : Room := { frames := 2, cells := 0, slots := 0, locals := 44 }
theorem ydv_X2_repeatsAfter : yX2_repeatsAfter.cls = RX2 ∧ yX2_repeatsAfter.cls ≠ "java/lang/invoke/MethodHandle" ∧ yX2_repeatsAfter.cls ≠ "java/lang/invoke/VarHandle" ∧ (parseMethodDescriptor yX2_repeatsAfter.desc).map (fun d => d.parameters.length) = some 2 := by decide +kernel
theorem inf_X2_repeatsAfter_X2 : ∀ w ∈ wsX20, w ∈ wsX2_repeatsAfter := fun w h => List.mem_cons_of_mem _ (List.mem_append_left _ (List.mem_append_left _ (List.mem_append_right _ (h))))
set_option maxHeartbeats 4000000 in
set_option maxRecDepth 100000 in
theorem c_X2_repeatsAfter (l : Launch) (D : va_G) (cA : ClassId) (k0 h0 h1 h2 : Nat) (a : Nat → Nat) (g t : Nat) (hV : Vd a) (hg : g < 8) (ht : t < 33) : RO l D cA yX2_repeatsAfter wsX2_repeatsAfter rm_X2_repeatsAfter [.ref k0, .int (nI g), .int (nI t)] [(k0, .inr (2, [.ref h0])), (h0, .inr (4, [.ref h1])), (h1, .inr (3, [.ref h2])), (h2, .inl (cA, 286, .inl (nF a)))] (bI (repB a g t)) := by
  refine ofWi (cc := cX2_repeatsAfter) (maxL := 5) (rt := .boolean) (by decide) rfl (Nat.le_of_ble_eq_true rfl) ?_
  intro p e s m args below meth c Q A ls F hK hR hP hD hA hS hl RET
  obtain ⟨hx, hb, hml, hown, hts⟩ := id F
  have hl : lv_has ls 5 [(0, .ref k0), (1, .int (nI g)), (2, .int (nI t))] := hl
  have hl32 := hV.l hg
  refine lv_aload_n hx hb dX2_repeatsAfter_0 rfl (lv_at hl 0 rfl) ?_
  refine va_get (D := D) (cl := vwCl) (ci := 2) (v := .ref h0) (C := RX2) (T := TX2) (N := 1) hx hb hts inf_X2_repeatsAfter_X2 hown hK.1 (hR.at hS) 0 rfl rfl 0 (by decide) (hts _ (List.mem_of_getElem? (i := 1) rfl)) (fun _ h9 => h9) rfl dX2_repeatsAfter_1 ?_
  refine lv_iload_n hx hb dX2_repeatsAfter_4 rfl (lv_at hl 1 rfl) ?_
  refine call_r (q := (RX4, TX4, 1)) (As := [.int (nI g)]) (rest := []) F (c_X4_lengthOf l D cA h0 h1 h2 a g (by omega)) (cwV 1 hts gX2_repeatsAfter_X4_lengthOf rfl rfl rfl ydv_X4_lengthOf ⟨Nat.le_of_ble_eq_true rfl, Nat.le_of_ble_eq_true rfl⟩) hK hR hP hD hA hS [1, 2, 3] rfl rfl 1 4 rfl rfl rfl hl.1 rfl (Nat.le_of_ble_eq_true rfl) dX2_repeatsAfter_5 ⟨Nat.zero_le _, Nat.zero_le _⟩ (fun H locs hP hS => ?_)
  refine lv_istore_n (lv' := [(3, .int (nI (ln a g))), (0, .ref k0), (1, .int (nI g)), (2, .int (nI t))]) hx hb dX2_repeatsAfter_8 rfl hl (by decide) rfl (fun ls hl => ?_)
  refine lv_iload_n hx hb dX2_repeatsAfter_9 rfl (lv_at hl 3 rfl) ?_
  refine lv_istore (lv' := [(4, .int (nI t)), (3, .int (nI (ln a g))), (0, .ref k0), (1, .int (nI g)), (2, .int (nI t))]) hx hb dX2_repeatsAfter_10 hl (by decide) rfl (fun ls hl => ?_)
  have LP_12 : ∀ (k_12 : Nat) (i : Nat) (H : Heap) (locs : List Loc) (ls : Array Slot), ln a g - (t + i) = k_12 → (t + i ≤ ln a g ∨ i = 0) → (∀ j, j < i → decide (dl a g (t + j) = dl a g (t + j - t)) = true) → va_P D vwCl [] H → va_D A [] → va_S A s.heap H locs → lv_has ls 5 [(0, .ref k0), (1, .int (nI g)), (2, .int (nI t)), (3, .int (nI (ln a g))), (4, .int (nI (t + i)))] → W p l e rm_X2_repeatsAfter s m args below meth c H locs 0 0 Q (F0 m 12 ls []) := by
    refine sind (fun k_12 ih_12 => ?_)
    intro i H locs ls hk_12 hi hf hP hD hS hl
    refine lv_iload hx hb dX2_repeatsAfter_12 (lv_at hl 4 rfl) ?_
    refine lv_iload_n hx hb dX2_repeatsAfter_14 rfl (lv_at hl 3 rfl) ?_
    refine nv_icmp_ge (tgt := 51) hx hb dX2_repeatsAfter_15 (by decide) (by omega) (by omega) (fun c_15 => ?_) (fun c_15 => ?_)
    · refine lv_iconst (v := nI 1) hx hb dX2_repeatsAfter_51 (by decide) ?_
      refine tope (y := bI (repB a g t)) (bI_t (show repB a g t = true from allB_t (fun j hj => hf j (by omega)))) ?_
      exact RET _ _ _ _ _ () dX2_repeatsAfter_52 (nbI _) rfl hP hS
    · have hd_ := hV.d (q := t + i) hg (by omega)
      have hd2_ := hV.d (q := t + i - t) hg (by omega)
      refine lv_aload_n hx hb dX2_repeatsAfter_18 rfl (lv_at hl 0 rfl) ?_
      refine va_get (D := D) (cl := vwCl) (ci := 2) (v := .ref h0) (C := RX2) (T := TX2) (N := 1) hx hb hts inf_X2_repeatsAfter_X2 hown hK.1 (hR.at hS) 0 rfl rfl 0 (by decide) (hts _ (List.mem_of_getElem? (i := 1) rfl)) (fun _ h9 => h9) rfl dX2_repeatsAfter_19 ?_
      refine lv_iload_n hx hb dX2_repeatsAfter_22 rfl (lv_at hl 1 rfl) ?_
      refine lv_iload hx hb dX2_repeatsAfter_23 (lv_at hl 4 rfl) ?_
      refine call_r (q := (RX4, TX4, 1)) (As := [.int (nI g), .int (nI (t + i))]) (rest := []) F (c_X4_dollAt l D cA h0 h1 h2 a g (t + i) (by omega) (by omega)) (cwV 2 hts gX2_repeatsAfter_X4_dollAt rfl rfl rfl ydv_X4_dollAt ⟨Nat.le_of_ble_eq_true rfl, Nat.le_of_ble_eq_true rfl⟩) hK hR hP hD hA hS [1, 2, 3] rfl rfl 1 4 rfl rfl rfl hl.1 rfl (Nat.le_of_ble_eq_true rfl) dX2_repeatsAfter_25 ⟨Nat.zero_le _, Nat.zero_le _⟩ (fun H locs hP hS => ?_)
      refine lv_aload_n hx hb dX2_repeatsAfter_28 rfl (lv_at hl 0 rfl) ?_
      refine va_get (D := D) (cl := vwCl) (ci := 2) (v := .ref h0) (C := RX2) (T := TX2) (N := 1) hx hb hts inf_X2_repeatsAfter_X2 hown hK.1 (hR.at hS) 0 rfl rfl 0 (by decide) (hts _ (List.mem_of_getElem? (i := 1) rfl)) (fun _ h9 => h9) rfl dX2_repeatsAfter_29 ?_
      refine lv_iload_n hx hb dX2_repeatsAfter_32 rfl (lv_at hl 1 rfl) ?_
      refine lv_iload hx hb dX2_repeatsAfter_33 (lv_at hl 4 rfl) ?_
      refine lv_iload_n hx hb dX2_repeatsAfter_35 rfl (lv_at hl 2 rfl) ?_
      refine nv_isub hx hb dX2_repeatsAfter_36 (by omega) ?_
      refine call_r (q := (RX4, TX4, 1)) (As := [.int (nI g), .int (nI ((t + i) - t))]) (rest := [.int (nI (dl a g (t + i)))]) F (c_X4_dollAt l D cA h0 h1 h2 a g ((t + i) - t) (by omega) (by omega)) (cwV 2 hts gX2_repeatsAfter_X4_dollAt rfl rfl rfl ydv_X4_dollAt ⟨Nat.le_of_ble_eq_true rfl, Nat.le_of_ble_eq_true rfl⟩) hK hR hP hD hA hS [1, 2, 3] rfl rfl 1 4 rfl rfl rfl hl.1 rfl (Nat.le_of_ble_eq_true rfl) dX2_repeatsAfter_37 ⟨Nat.zero_le _, Nat.zero_le _⟩ (fun H locs hP hS => ?_)
      refine nv_icmp_eq (tgt := 45) hx hb dX2_repeatsAfter_40 (by decide) (by omega) (by omega) (fun c_40 => ?_) (fun c_40 => ?_)
      · refine lv_iinc (v := nI ((t + i) + 1)) (lv' := [(4, .int (nI ((t + i) + 1))), (0, .ref k0), (1, .int (nI g)), (2, .int (nI t)), (3, .int (nI (ln a g)))]) hx hb dX2_repeatsAfter_45 hl (k := 4) rfl (nI_add _ _) (by decide) rfl (fun ls hl => ?_)
        refine lv_goto (tgt := 12) hx hb dX2_repeatsAfter_48 (by decide) ?_
        exact ih_12 _ (by omega) (i + 1) _ _ _ rfl (by omega) (fun j hj => by by_cases e_ : j = i; (rw [e_]; exact decide_eq_true c_40); exact hf j (by omega)) hP hD hS (lv_sub hl [1, 2, 3, 4, 0] rfl)
      · refine lv_iconst (v := nI 0) hx hb dX2_repeatsAfter_43 (by decide) ?_
        refine tope (y := bI (repB a g t)) (bI_f (show repB a g t = false from allB_f i (by omega) (decide_eq_false c_40))) ?_
        exact RET _ _ _ _ _ () dX2_repeatsAfter_44 (nbI _) rfl hP hS
  exact LP_12 _ 0 _ _ _ rfl (by omega) (fun j h_ => absurd h_ (Nat.not_lt_zero j)) hP hD hS (lv_sub hl [2, 3, 4, 1, 0] rfl)
abbrev rm_X2_repeatOf : Room := { frames := 3, cells := 0, slots := 0, locals := 68 }
theorem ydv_X2_repeatOf : yX2_repeatOf.cls = RX2 ∧ yX2_repeatOf.cls ≠ "java/lang/invoke/MethodHandle" ∧ yX2_repeatOf.cls ≠ "java/lang/invoke/VarHandle" ∧ (parseMethodDescriptor yX2_repeatOf.desc).map (fun d => d.parameters.length) = some 1 := by decide +kernel
theorem inf_X2_repeatOf_X2 : ∀ w ∈ wsX20, w ∈ wsX2_repeatOf := fun w h => List.mem_cons_of_mem _ (List.mem_append_left _ (List.mem_append_left _ (List.mem_append_right _ (h))))
set_option maxHeartbeats 4000000 in
set_option maxRecDepth 100000 in
theorem c_X2_repeatOf (l : Launch) (D : va_G) (cA : ClassId) (k0 h0 h1 h2 : Nat) (a : Nat → Nat) (g : Nat) (hV : Vd a) (hg : g < 8) (h0_ : 0 < ln a g) : RO l D cA yX2_repeatOf wsX2_repeatOf rm_X2_repeatOf [.ref k0, .int (nI g)] [(k0, .inr (2, [.ref h0])), (h0, .inr (4, [.ref h1])), (h1, .inr (3, [.ref h2])), (h2, .inl (cA, 286, .inl (nF a)))] (nI (repO a g)) := by
  refine ofWi (cc := cX2_repeatOf) (maxL := 4) (rt := .int) (by decide) rfl (Nat.le_of_ble_eq_true rfl) ?_
  intro p e s m args below meth c Q A ls F hK hR hP hD hA hS hl RET
  obtain ⟨hx, hb, hml, hown, hts⟩ := id F
  have hl : lv_has ls 4 [(0, .ref k0), (1, .int (nI g))] := hl
  have hl32 := hV.l hg
  refine lv_aload_n hx hb dX2_repeatOf_0 rfl (lv_at hl 0 rfl) ?_
  refine va_get (D := D) (cl := vwCl) (ci := 2) (v := .ref h0) (C := RX2) (T := TX2) (N := 1) hx hb hts inf_X2_repeatOf_X2 hown hK.1 (hR.at hS) 0 rfl rfl 0 (by decide) (hts _ (List.mem_of_getElem? (i := 1) rfl)) (fun _ h9 => h9) rfl dX2_repeatOf_1 ?_
  refine lv_iload_n hx hb dX2_repeatOf_4 rfl (lv_at hl 1 rfl) ?_
  refine call_r (q := (RX4, TX4, 1)) (As := [.int (nI g)]) (rest := []) F (c_X4_lengthOf l D cA h0 h1 h2 a g (by omega)) (cwV 1 hts gX2_repeatOf_X4_lengthOf rfl rfl rfl ydv_X4_lengthOf ⟨Nat.le_of_ble_eq_true rfl, Nat.le_of_ble_eq_true rfl⟩) hK hR hP hD hA hS [1, 2, 3] rfl rfl 1 4 rfl rfl rfl hl.1 rfl (Nat.le_of_ble_eq_true rfl) dX2_repeatOf_5 ⟨Nat.zero_le _, Nat.zero_le _⟩ (fun H locs hP hS => ?_)
  refine lv_istore_n (lv' := [(2, .int (nI (ln a g))), (0, .ref k0), (1, .int (nI g))]) hx hb dX2_repeatOf_8 rfl hl (by decide) rfl (fun ls hl => ?_)
  refine lv_iconst (v := nI 1) hx hb dX2_repeatOf_9 (by decide) ?_
  refine lv_istore_n (lv' := [(3, .int (nI 1)), (2, .int (nI (ln a g))), (0, .ref k0), (1, .int (nI g))]) hx hb dX2_repeatOf_10 rfl hl (by decide) rfl (fun ls hl => ?_)
  have LP_11 : ∀ (k_11 : Nat) (i : Nat) (H : Heap) (locs : List Loc) (ls : Array Slot), ln a g - i = k_11 → (1 ≤ i ∧ i ≤ ln a g) → (∀ j, 1 ≤ j → j < i → repB a g j = false) → va_P D vwCl [] H → va_D A [] → va_S A s.heap H locs → lv_has ls 4 [(0, .ref k0), (1, .int (nI g)), (2, .int (nI (ln a g))), (3, .int (nI i))] → W p l e rm_X2_repeatOf s m args below meth c H locs 0 0 Q (F0 m 11 ls []) := by
    refine sind (fun k_11 ih_11 => ?_)
    intro i H locs ls hk_11 hi hz hP hD hS hl
    refine lv_iload_n hx hb dX2_repeatOf_11 rfl (lv_at hl 3 rfl) ?_
    refine lv_iload_n hx hb dX2_repeatOf_12 rfl (lv_at hl 2 rfl) ?_
    refine nv_icmp_ge (tgt := 33) hx hb dX2_repeatOf_13 (by decide) (by omega) (by omega) (fun c_13 => ?_) (fun c_13 => ?_)
    · refine lv_iload_n hx hb dX2_repeatOf_33 rfl (lv_at hl 2 rfl) ?_
      refine tope (y := nI (repO a g)) (by rw [show repO a g = ln a g from lst_eq (ln a g - 1) 1 (ln a g) (by omega) (by omega) (fun j h1_ h2_ => hz j h1_ (by omega)) (fun h => absurd h (by omega))]) ?_
      exact RET _ _ _ _ _ () dX2_repeatOf_34 rfl rfl hP hS
    · refine lv_aload_n hx hb dX2_repeatOf_16 rfl (lv_at hl 0 rfl) ?_
      refine lv_iload_n hx hb dX2_repeatOf_17 rfl (lv_at hl 1 rfl) ?_
      refine lv_iload_n hx hb dX2_repeatOf_18 rfl (lv_at hl 3 rfl) ?_
      refine call_r (q := (RX2, TX2, 1)) (As := [.int (nI g), .int (nI i)]) (rest := []) F (c_X2_repeatsAfter l D cA k0 h0 h1 h2 a g i (hV) (by omega) (by omega)) (cwV 2 hts gX2_repeatOf_X2_repeatsAfter rfl rfl rfl ydv_X2_repeatsAfter ⟨Nat.le_of_ble_eq_true rfl, Nat.le_of_ble_eq_true rfl⟩) hK hR hP hD hA hS [0, 1, 2, 3] rfl rfl 0 2 rfl rfl rfl hl.1 rfl (Nat.le_of_ble_eq_true rfl) dX2_repeatOf_19 ⟨Nat.zero_le _, Nat.zero_le _⟩ (fun H locs hP hS => ?_)
      refine bv_if_eq (tgt := 27) hx hb dX2_repeatOf_22 (by decide) (fun c_22 => ?_) (fun c_22 => ?_)
      · refine lv_iinc (v := nI (i + 1)) (lv' := [(3, .int (nI (i + 1))), (0, .ref k0), (1, .int (nI g)), (2, .int (nI (ln a g)))]) hx hb dX2_repeatOf_27 hl (k := 3) rfl (nI_add _ _) (by decide) rfl (fun ls hl => ?_)
        refine lv_goto (tgt := 11) hx hb dX2_repeatOf_30 (by decide) ?_
        exact ih_11 _ (by omega) (i + 1) _ _ _ rfl (by omega) (fun j h1_ hj => by by_cases e_ : j = i; (subst e_; exact c_22); exact hz j h1_ (by omega)) hP hD hS (lv_sub hl [1, 2, 3, 0] rfl)
      · refine lv_iload_n hx hb dX2_repeatOf_25 rfl (lv_at hl 3 rfl) ?_
        refine tope (y := nI (repO a g)) (by rw [show repO a g = i from lst_eq (ln a g - 1) 1 i (by omega) (by omega) hz (fun _ => c_22)]) ?_
        exact RET _ _ _ _ _ () dX2_repeatOf_26 rfl rfl hP hS
  exact LP_11 _ 1 _ _ _ rfl (by omega) (fun j h1_ h2_ => absurd h2_ (by omega)) hP hD hS (lv_sub hl [2, 3, 1, 0] rfl)
abbrev rm_X2_lowestAlike : Room := { frames := 3, cells := 0, slots := 0, locals := 69 }
theorem ydv_X2_lowestAlike : yX2_lowestAlike.cls = RX2 ∧ yX2_lowestAlike.cls ≠ "java/lang/invoke/MethodHandle" ∧ yX2_lowestAlike.cls ≠ "java/lang/invoke/VarHandle" ∧ (parseMethodDescriptor yX2_lowestAlike.desc).map (fun d => d.parameters.length) = some 1 := by decide +kernel
set_option maxHeartbeats 4000000 in
set_option maxRecDepth 100000 in
theorem c_X2_lowestAlike (l : Launch) (D : va_G) (cA : ClassId) (k0 h0 h1 h2 : Nat) (a : Nat → Nat) (g : Nat) (hV : Vd a) (hg : g < 8) : RO l D cA yX2_lowestAlike wsX2_lowestAlike rm_X2_lowestAlike [.ref k0, .int (nI g)] [(k0, .inr (2, [.ref h0])), (h0, .inr (4, [.ref h1])), (h1, .inr (3, [.ref h2])), (h2, .inl (cA, 286, .inl (nF a)))] (nI (lowA a g)) := by
  refine ofWi (cc := cX2_lowestAlike) (maxL := 3) (rt := .int) (by decide) rfl (Nat.le_of_ble_eq_true rfl) ?_
  intro p e s m args below meth c Q A ls F hK hR hP hD hA hS hl RET
  obtain ⟨hx, hb, hml, hown, hts⟩ := id F
  have hl : lv_has ls 3 [(0, .ref k0), (1, .int (nI g))] := hl
  refine lv_iconst (v := nI 0) hx hb dX2_lowestAlike_0 (by decide) ?_
  refine lv_istore_n (lv' := [(2, .int (nI 0)), (0, .ref k0), (1, .int (nI g))]) hx hb dX2_lowestAlike_1 rfl hl (by decide) rfl (fun ls hl => ?_)
  have LP_2 : ∀ (k_2 : Nat) (i : Nat) (H : Heap) (locs : List Loc) (ls : Array Slot), g - i = k_2 → (i ≤ g) → (∀ j, j < i → (same a g j || mird a g j) = false) → va_P D vwCl [] H → va_D A [] → va_S A s.heap H locs → lv_has ls 3 [(0, .ref k0), (1, .int (nI g)), (2, .int (nI i))] → W p l e rm_X2_lowestAlike s m args below meth c H locs 0 0 Q (F0 m 2 ls []) := by
    refine sind (fun k_2 ih_2 => ?_)
    intro i H locs ls hk_2 hi hz hP hD hS hl
    refine lv_iload_n hx hb dX2_lowestAlike_2 rfl (lv_at hl 2 rfl) ?_
    refine lv_iload_n hx hb dX2_lowestAlike_3 rfl (lv_at hl 1 rfl) ?_
    refine nv_icmp_ge (tgt := 33) hx hb dX2_lowestAlike_4 (by decide) (by omega) (by omega) (fun c_4 => ?_) (fun c_4 => ?_)
    · refine lv_iload_n hx hb dX2_lowestAlike_33 rfl (lv_at hl 1 rfl) ?_
      refine tope (y := nI (lowA a g)) (by rw [show lowA a g = g from lst_eq g 0 g (by omega) (by omega) (fun j _ hj => hz j (by omega)) (fun h => absurd h (by omega))]) ?_
      exact RET _ _ _ _ _ () dX2_lowestAlike_34 rfl rfl hP hS
    · refine lv_aload_n hx hb dX2_lowestAlike_7 rfl (lv_at hl 0 rfl) ?_
      refine lv_iload_n hx hb dX2_lowestAlike_8 rfl (lv_at hl 1 rfl) ?_
      refine lv_iload_n hx hb dX2_lowestAlike_9 rfl (lv_at hl 2 rfl) ?_
      refine call_r (q := (RX2, TX2, 1)) (As := [.int (nI g), .int (nI i)]) (rest := []) F (c_X2_isSame l D cA k0 h0 h1 h2 a g i (hV) (by omega) (by omega)) (cwV 2 hts gX2_lowestAlike_X2_isSame rfl rfl rfl ydv_X2_isSame ⟨Nat.le_of_ble_eq_true rfl, Nat.le_of_ble_eq_true rfl⟩) hK hR hP hD hA hS [0, 1, 2, 3] rfl rfl 0 2 rfl rfl rfl hl.1 rfl (Nat.le_of_ble_eq_true rfl) dX2_lowestAlike_10 ⟨Nat.zero_le _, Nat.zero_le _⟩ (fun H locs hP hS => ?_)
      refine bv_if_ne (tgt := 25) hx hb dX2_lowestAlike_13 (by decide) (fun c_13 => ?_) (fun c_13 => ?_)
      · refine lv_iload_n hx hb dX2_lowestAlike_25 rfl (lv_at hl 2 rfl) ?_
        refine tope (y := nI (lowA a g)) (by rw [show lowA a g = i from lst_eq g 0 i (by omega) (by omega) (fun j _ hj => hz j hj) (fun _ => by simp [c_4, c_13])]) ?_
        exact RET _ _ _ _ _ () dX2_lowestAlike_26 rfl rfl hP hS
      · refine lv_aload_n hx hb dX2_lowestAlike_16 rfl (lv_at hl 0 rfl) ?_
        refine lv_iload_n hx hb dX2_lowestAlike_17 rfl (lv_at hl 1 rfl) ?_
        refine lv_iload_n hx hb dX2_lowestAlike_18 rfl (lv_at hl 2 rfl) ?_
        refine call_r (q := (RX2, TX2, 1)) (As := [.int (nI g), .int (nI i)]) (rest := []) F (c_X2_isMirror l D cA k0 h0 h1 h2 a g i (hV) (by omega) (by omega)) (cwV 2 hts gX2_lowestAlike_X2_isMirror rfl rfl rfl ydv_X2_isMirror ⟨Nat.le_of_ble_eq_true rfl, Nat.le_of_ble_eq_true rfl⟩) hK hR hP hD hA hS [0, 1, 2, 3] rfl rfl 0 2 rfl rfl rfl hl.1 rfl (Nat.le_of_ble_eq_true rfl) dX2_lowestAlike_19 ⟨Nat.zero_le _, Nat.zero_le _⟩ (fun H locs hP hS => ?_)
        refine bv_if_eq (tgt := 27) hx hb dX2_lowestAlike_22 (by decide) (fun c_22 => ?_) (fun c_22 => ?_)
        · refine lv_iinc (v := nI (i + 1)) (lv' := [(2, .int (nI (i + 1))), (0, .ref k0), (1, .int (nI g))]) hx hb dX2_lowestAlike_27 hl (k := 2) rfl (nI_add _ _) (by decide) rfl (fun ls hl => ?_)
          refine lv_goto (tgt := 2) hx hb dX2_lowestAlike_30 (by decide) ?_
          exact ih_2 _ (by omega) (i + 1) _ _ _ rfl (by omega) (fun j hj => by by_cases e_ : j = i; (subst e_; exact (by simp [c_13, c_22])); exact hz j (by omega)) hP hD hS (lv_sub hl [1, 2, 0] rfl)
        · refine lv_iload_n hx hb dX2_lowestAlike_25 rfl (lv_at hl 2 rfl) ?_
          refine tope (y := nI (lowA a g)) (by rw [show lowA a g = i from lst_eq g 0 i (by omega) (by omega) (fun j _ hj => hz j hj) (fun _ => by simp [c_4, c_13, c_22])]) ?_
          exact RET _ _ _ _ _ () dX2_lowestAlike_26 rfl rfl hP hS
  exact LP_2 _ 0 _ _ _ rfl (by omega) (fun j h_ => absurd h_ (Nat.not_lt_zero j)) hP hD hS (lv_sub hl [1, 2, 0] rfl)
abbrev rm_X2_highestKind : Room := { frames := 2, cells := 0, slots := 0, locals := 44 }
theorem ydv_X2_highestKind : yX2_highestKind.cls = RX2 ∧ yX2_highestKind.cls ≠ "java/lang/invoke/MethodHandle" ∧ yX2_highestKind.cls ≠ "java/lang/invoke/VarHandle" ∧ (parseMethodDescriptor yX2_highestKind.desc).map (fun d => d.parameters.length) = some 0 := by decide +kernel
theorem inf_X2_highestKind_X2 : ∀ w ∈ wsX20, w ∈ wsX2_highestKind := fun w h => List.mem_cons_of_mem _ (List.mem_append_left _ (List.mem_append_left _ (List.mem_append_right _ (h))))
set_option maxHeartbeats 4000000 in
set_option maxRecDepth 100000 in
theorem c_X2_highestKind (l : Launch) (D : va_G) (cA : ClassId) (k0 h0 h1 h2 : Nat) (a : Nat → Nat)  (hV : Vd a) : RO l D cA yX2_highestKind wsX2_highestKind rm_X2_highestKind [.ref k0] [(k0, .inr (2, [.ref h0])), (h0, .inr (4, [.ref h1])), (h1, .inr (3, [.ref h2])), (h2, .inl (cA, 286, .inl (nF a)))] (nI (hiK a)) := by
  refine ofWi (cc := cX2_highestKind) (maxL := 5) (rt := .int) (by decide) rfl (Nat.le_of_ble_eq_true rfl) ?_
  intro p e s m args below meth c Q A ls F hK hR hP hD hA hS hl RET
  obtain ⟨hx, hb, hml, hown, hts⟩ := id F
  have hl : lv_has ls 5 [(0, .ref k0)] := hl
  refine lv_iconst (v := nI 0) hx hb dX2_highestKind_0 (by decide) ?_
  refine lv_istore_n (lv' := [(1, .int (nI 0)), (0, .ref k0)]) hx hb dX2_highestKind_1 rfl hl (by decide) rfl (fun ls hl => ?_)
  refine lv_iconst (v := nI 0) hx hb dX2_highestKind_2 (by decide) ?_
  refine lv_istore_n (lv' := [(2, .int (nI 0)), (1, .int (nI 0)), (0, .ref k0)]) hx hb dX2_highestKind_3 rfl hl (by decide) rfl (fun ls hl => ?_)
  have LP_4 : ∀ (k_4 : Nat) (i : Nat) (x : Nat) (H : Heap) (locs : List Loc) (ls : Array Slot), 8 - i = k_4 → (i ≤ 8) → (x = foldN (fun g z => foldN (fun j y => max y (dl a g j / 2)) z (ln a g)) 0 i) → (x ≤ 20) → va_P D vwCl [] H → va_D A [] → va_S A s.heap H locs → lv_has ls 5 [(0, .ref k0), (1, .int (nI x)), (2, .int (nI i))] → W p l e rm_X2_highestKind s m args below meth c H locs 0 0 Q (F0 m 4 ls []) := by
    refine sind (fun k_4 ih_4 => ?_)
    intro i x H locs ls hk_4 hi hx_ hx2_ hP hD hS hl
    refine lv_iload_n hx hb dX2_highestKind_4 rfl (lv_at hl 2 rfl) ?_
    refine lv_bipush (v := nI 8) hx hb dX2_highestKind_5 (by decide) ?_
    refine nv_icmp_ge (tgt := 58) hx hb dX2_highestKind_7 (by decide) (by omega) (by decide) (fun c_7 => ?_) (fun c_7 => ?_)
    · refine lv_iload_n hx hb dX2_highestKind_58 rfl (lv_at hl 1 rfl) ?_
      refine tope (y := nI (hiK a)) (by rw [hx_, show i = 8 by omega]; rfl) ?_
      exact RET _ _ _ _ _ () dX2_highestKind_59 rfl rfl hP hS
    · have hl32 := hV.l c_7
      refine lv_aload_n hx hb dX2_highestKind_10 rfl (lv_at hl 0 rfl) ?_
      refine va_get (D := D) (cl := vwCl) (ci := 2) (v := .ref h0) (C := RX2) (T := TX2) (N := 1) hx hb hts inf_X2_highestKind_X2 hown hK.1 (hR.at hS) 0 rfl rfl 0 (by decide) (hts _ (List.mem_of_getElem? (i := 1) rfl)) (fun _ h9 => h9) rfl dX2_highestKind_11 ?_
      refine lv_iload_n hx hb dX2_highestKind_14 rfl (lv_at hl 2 rfl) ?_
      refine call_r (q := (RX4, TX4, 1)) (As := [.int (nI i)]) (rest := []) F (c_X4_lengthOf l D cA h0 h1 h2 a i (by omega)) (cwV 1 hts gX2_highestKind_X4_lengthOf rfl rfl rfl ydv_X4_lengthOf ⟨Nat.le_of_ble_eq_true rfl, Nat.le_of_ble_eq_true rfl⟩) hK hR hP hD hA hS [1, 2, 3] rfl rfl 1 4 rfl rfl rfl hl.1 rfl (Nat.le_of_ble_eq_true rfl) dX2_highestKind_15 ⟨Nat.zero_le _, Nat.zero_le _⟩ (fun H locs hP hS => ?_)
      refine lv_istore_n (lv' := [(3, .int (nI (ln a i))), (0, .ref k0), (1, .int (nI x)), (2, .int (nI i))]) hx hb dX2_highestKind_18 rfl hl (by decide) rfl (fun ls hl => ?_)
      refine lv_iconst (v := nI 0) hx hb dX2_highestKind_19 (by decide) ?_
      refine lv_istore (lv' := [(4, .int (nI 0)), (3, .int (nI (ln a i))), (0, .ref k0), (1, .int (nI x)), (2, .int (nI i))]) hx hb dX2_highestKind_20 hl (by decide) rfl (fun ls hl => ?_)
      have LP_22 : ∀ (k_22 : Nat) (j : Nat) (y : Nat) (H : Heap) (locs : List Loc) (ls : Array Slot), ln a i - j = k_22 → (j ≤ ln a i) → (y = foldN (fun j y => max y (dl a i j / 2)) x j) → (y ≤ 20) → va_P D vwCl [] H → va_D A [] → va_S A s.heap H locs → lv_has ls 5 [(0, .ref k0), (1, .int (nI y)), (2, .int (nI i)), (3, .int (nI (ln a i))), (4, .int (nI j))] → W p l e rm_X2_highestKind s m args below meth c H locs 0 0 Q (F0 m 22 ls []) := by
        refine sind (fun k_22 ih_22 => ?_)
        intro j y H locs ls hk_22 hj hy_ hy2_ hP hD hS hl
        refine lv_iload hx hb dX2_highestKind_22 (lv_at hl 4 rfl) ?_
        refine lv_iload_n hx hb dX2_highestKind_24 rfl (lv_at hl 3 rfl) ?_
        refine nv_icmp_ge (tgt := 52) hx hb dX2_highestKind_25 (by decide) (by omega) (by omega) (fun c_25 => ?_) (fun c_25 => ?_)
        · refine lv_iinc (v := nI (i + 1)) (lv' := [(2, .int (nI (i + 1))), (0, .ref k0), (1, .int (nI y)), (3, .int (nI (ln a i))), (4, .int (nI j))]) hx hb dX2_highestKind_52 hl (k := 2) rfl (nI_add _ _) (by decide) rfl (fun ls hl => ?_)
          refine lv_goto (tgt := 4) hx hb dX2_highestKind_55 (by decide) ?_
          exact ih_4 _ (by omega) (i + 1) y _ _ _ rfl (by omega) (by rw [hy_, show j = ln a i by omega, hx_]; rfl) (by omega) hP hD hS (lv_sub hl [1, 2, 0] rfl)
        · have hd_ := hV.d (q := j) c_7 (by omega)
          refine lv_iload_n hx hb dX2_highestKind_28 rfl (lv_at hl 1 rfl) ?_
          refine lv_aload_n hx hb dX2_highestKind_29 rfl (lv_at hl 0 rfl) ?_
          refine va_get (D := D) (cl := vwCl) (ci := 2) (v := .ref h0) (C := RX2) (T := TX2) (N := 1) hx hb hts inf_X2_highestKind_X2 hown hK.1 (hR.at hS) 0 rfl rfl 0 (by decide) (hts _ (List.mem_of_getElem? (i := 1) rfl)) (fun _ h9 => h9) rfl dX2_highestKind_30 ?_
          refine lv_iload_n hx hb dX2_highestKind_33 rfl (lv_at hl 2 rfl) ?_
          refine lv_iload hx hb dX2_highestKind_34 (lv_at hl 4 rfl) ?_
          refine call_r (q := (RX4, TX4, 1)) (As := [.int (nI i), .int (nI j)]) (rest := [.int (nI y)]) F (c_X4_dollAt l D cA h0 h1 h2 a i j (by omega) (by omega)) (cwV 2 hts gX2_highestKind_X4_dollAt rfl rfl rfl ydv_X4_dollAt ⟨Nat.le_of_ble_eq_true rfl, Nat.le_of_ble_eq_true rfl⟩) hK hR hP hD hA hS [1, 2, 3] rfl rfl 1 4 rfl rfl rfl hl.1 rfl (Nat.le_of_ble_eq_true rfl) dX2_highestKind_36 ⟨Nat.zero_le _, Nat.zero_le _⟩ (fun H locs hP hS => ?_)
          refine call_n (As := [.int (nI (dl a i j))]) (rest := [.int (nI y)]) F (c_X6_kindOf l D cA (dl a i j) (by omega)) ⟨va_cnB 1 hts gX2_highestKind_X6_kindOf_n33 rfl rfl rfl (hK.2 _ (List.mem_of_getElem? (i := 3) rfl)) (hts _ (List.mem_of_getElem? (i := 27) rfl)) yd_X6_kindOf ⟨Nat.le_of_ble_eq_true rfl, Nat.le_of_ble_eq_true rfl⟩, (hts _ (List.mem_of_getElem? (i := 26) rfl)), trivial⟩ hK hR hP hD hA hS rfl hl.1 rfl (Nat.le_of_ble_eq_true rfl) dX2_highestKind_39 ⟨Nat.zero_le _, Nat.zero_le _⟩ (fun H locs hP hS => ?_)
          refine va_mmax hx hb (by rw [hml]; exact hl.1.symm) hown (hts _ (List.mem_of_getElem? (i := 2) rfl)) (hts _ (List.mem_of_getElem? (i := 3) rfl)) (hts _ (List.mem_of_getElem? (i := 4) rfl)) (hts _ (List.mem_of_getElem? (i := 5) rfl)) (Nat.le_of_ble_eq_true rfl) (Nat.le_of_ble_eq_true rfl) (Nat.zero_le _) (Nat.zero_le _) dX2_highestKind_42 ?_
          refine tope (y := nI (max y ((dl a i j) / 2))) (nI_max (by omega) (by omega)) ?_
          refine lv_istore_n (lv' := [(1, .int (nI (max y ((dl a i j) / 2)))), (0, .ref k0), (2, .int (nI i)), (3, .int (nI (ln a i))), (4, .int (nI j))]) hx hb dX2_highestKind_45 rfl hl (by decide) rfl (fun ls hl => ?_)
          refine lv_iinc (v := nI (j + 1)) (lv' := [(4, .int (nI (j + 1))), (1, .int (nI (max y ((dl a i j) / 2)))), (0, .ref k0), (2, .int (nI i)), (3, .int (nI (ln a i)))]) hx hb dX2_highestKind_46 hl (k := 4) rfl (nI_add _ _) (by decide) rfl (fun ls hl => ?_)
          refine lv_goto (tgt := 22) hx hb dX2_highestKind_49 (by decide) ?_
          exact ih_22 _ (by omega) (j + 1) (max y ((dl a i j) / 2)) _ _ _ rfl (by omega) (by rw [hy_]; rfl) (by omega) hP hD hS (lv_sub hl [2, 1, 3, 4, 0] rfl)
      exact LP_22 _ 0 x _ _ _ rfl (by omega) (rfl) (by omega) hP hD hS (lv_sub hl [2, 3, 4, 1, 0] rfl)
  exact LP_4 _ 0 0 _ _ _ rfl (by omega) (rfl) (by omega) hP hD hS (lv_sub hl [2, 1, 0] rfl)
abbrev rm_X2_dollsLike : Room := { frames := 2, cells := 0, slots := 0, locals := 44 }
theorem ydv_X2_dollsLike : yX2_dollsLike.cls = RX2 ∧ yX2_dollsLike.cls ≠ "java/lang/invoke/MethodHandle" ∧ yX2_dollsLike.cls ≠ "java/lang/invoke/VarHandle" ∧ (parseMethodDescriptor yX2_dollsLike.desc).map (fun d => d.parameters.length) = some 1 := by decide +kernel
theorem inf_X2_dollsLike_X2 : ∀ w ∈ wsX20, w ∈ wsX2_dollsLike := fun w h => List.mem_cons_of_mem _ (List.mem_append_left _ (List.mem_append_left _ (List.mem_append_right _ (h))))
set_option maxHeartbeats 4000000 in
set_option maxRecDepth 100000 in
theorem c_X2_dollsLike (l : Launch) (D : va_G) (cA : ClassId) (k0 h0 h1 h2 : Nat) (a : Nat → Nat) (d : Nat) (hV : Vd a) (hd : d < 2 ^ 31) : RO l D cA yX2_dollsLike wsX2_dollsLike rm_X2_dollsLike [.ref k0, .int (nI d)] [(k0, .inr (2, [.ref h0])), (h0, .inr (4, [.ref h1])), (h1, .inr (3, [.ref h2])), (h2, .inl (cA, 286, .inl (nF a)))] (nI (likeD a d)) := by
  refine ofWi (cc := cX2_dollsLike) (maxL := 6) (rt := .int) (by decide) rfl (Nat.le_of_ble_eq_true rfl) ?_
  intro p e s m args below meth c Q A ls F hK hR hP hD hA hS hl RET
  obtain ⟨hx, hb, hml, hown, hts⟩ := id F
  have hl : lv_has ls 6 [(0, .ref k0), (1, .int (nI d))] := hl
  refine lv_iconst (v := nI 0) hx hb dX2_dollsLike_0 (by decide) ?_
  refine lv_istore_n (lv' := [(2, .int (nI 0)), (0, .ref k0), (1, .int (nI d))]) hx hb dX2_dollsLike_1 rfl hl (by decide) rfl (fun ls hl => ?_)
  refine lv_iconst (v := nI 0) hx hb dX2_dollsLike_2 (by decide) ?_
  refine lv_istore_n (lv' := [(3, .int (nI 0)), (2, .int (nI 0)), (0, .ref k0), (1, .int (nI d))]) hx hb dX2_dollsLike_3 rfl hl (by decide) rfl (fun ls hl => ?_)
  have LP_4 : ∀ (k_4 : Nat) (i : Nat) (x : Nat) (H : Heap) (locs : List Loc) (ls : Array Slot), 8 - i = k_4 → (i ≤ 8) → (x = sumN (fun g => sumN (fun j => b2n (decide (dl a g j = d))) (ln a g)) i) → va_P D vwCl [] H → va_D A [] → va_S A s.heap H locs → lv_has ls 6 [(0, .ref k0), (1, .int (nI d)), (2, .int (nI x)), (3, .int (nI i))] → W p l e rm_X2_dollsLike s m args below meth c H locs 0 0 Q (F0 m 4 ls []) := by
    refine sind (fun k_4 ih_4 => ?_)
    intro i x H locs ls hk_4 hi hx_ hP hD hS hl
    refine lv_iload_n hx hb dX2_dollsLike_4 rfl (lv_at hl 3 rfl) ?_
    refine lv_bipush (v := nI 8) hx hb dX2_dollsLike_5 (by decide) ?_
    refine nv_icmp_ge (tgt := 67) hx hb dX2_dollsLike_7 (by decide) (by omega) (by decide) (fun c_7 => ?_) (fun c_7 => ?_)
    · refine lv_iload_n hx hb dX2_dollsLike_67 rfl (lv_at hl 2 rfl) ?_
      refine tope (y := nI (likeD a d)) (by rw [hx_, show i = 8 by omega]; rfl) ?_
      exact RET _ _ _ _ _ () dX2_dollsLike_68 rfl rfl hP hS
    · have hl32 := hV.l c_7
      refine lv_aload_n hx hb dX2_dollsLike_10 rfl (lv_at hl 0 rfl) ?_
      refine va_get (D := D) (cl := vwCl) (ci := 2) (v := .ref h0) (C := RX2) (T := TX2) (N := 1) hx hb hts inf_X2_dollsLike_X2 hown hK.1 (hR.at hS) 0 rfl rfl 0 (by decide) (hts _ (List.mem_of_getElem? (i := 1) rfl)) (fun _ h9 => h9) rfl dX2_dollsLike_11 ?_
      refine lv_iload_n hx hb dX2_dollsLike_14 rfl (lv_at hl 3 rfl) ?_
      refine call_r (q := (RX4, TX4, 1)) (As := [.int (nI i)]) (rest := []) F (c_X4_lengthOf l D cA h0 h1 h2 a i (by omega)) (cwV 1 hts gX2_dollsLike_X4_lengthOf rfl rfl rfl ydv_X4_lengthOf ⟨Nat.le_of_ble_eq_true rfl, Nat.le_of_ble_eq_true rfl⟩) hK hR hP hD hA hS [1, 2, 3] rfl rfl 1 4 rfl rfl rfl hl.1 rfl (Nat.le_of_ble_eq_true rfl) dX2_dollsLike_15 ⟨Nat.zero_le _, Nat.zero_le _⟩ (fun H locs hP hS => ?_)
      refine lv_istore (lv' := [(4, .int (nI (ln a i))), (0, .ref k0), (1, .int (nI d)), (2, .int (nI x)), (3, .int (nI i))]) hx hb dX2_dollsLike_18 hl (by decide) rfl (fun ls hl => ?_)
      refine lv_iconst (v := nI 0) hx hb dX2_dollsLike_20 (by decide) ?_
      refine lv_istore (lv' := [(5, .int (nI 0)), (4, .int (nI (ln a i))), (0, .ref k0), (1, .int (nI d)), (2, .int (nI x)), (3, .int (nI i))]) hx hb dX2_dollsLike_21 hl (by decide) rfl (fun ls hl => ?_)
      have LP_23 : ∀ (k_23 : Nat) (j : Nat) (y : Nat) (H : Heap) (locs : List Loc) (ls : Array Slot), ln a i - j = k_23 → (j ≤ ln a i) → (y = x + sumN (fun j => b2n (decide (dl a i j = d))) j) → va_P D vwCl [] H → va_D A [] → va_S A s.heap H locs → lv_has ls 6 [(0, .ref k0), (1, .int (nI d)), (2, .int (nI y)), (3, .int (nI i)), (4, .int (nI (ln a i))), (5, .int (nI j))] → W p l e rm_X2_dollsLike s m args below meth c H locs 0 0 Q (F0 m 23 ls []) := by
        refine sind (fun k_23 ih_23 => ?_)
        intro j y H locs ls hk_23 hj hy_ hP hD hS hl
        refine lv_iload hx hb dX2_dollsLike_23 (lv_at hl 5 rfl) ?_
        refine lv_iload hx hb dX2_dollsLike_25 (lv_at hl 4 rfl) ?_
        refine nv_icmp_ge (tgt := 61) hx hb dX2_dollsLike_27 (by decide) (by omega) (by omega) (fun c_27 => ?_) (fun c_27 => ?_)
        · refine lv_iinc (v := nI (i + 1)) (lv' := [(3, .int (nI (i + 1))), (0, .ref k0), (1, .int (nI d)), (2, .int (nI y)), (4, .int (nI (ln a i))), (5, .int (nI j))]) hx hb dX2_dollsLike_61 hl (k := 3) rfl (nI_add _ _) (by decide) rfl (fun ls hl => ?_)
          refine lv_goto (tgt := 4) hx hb dX2_dollsLike_64 (by decide) ?_
          exact ih_4 _ (by omega) (i + 1) y _ _ _ rfl (by omega) (by rw [hy_, show j = ln a i by omega, hx_]; rfl) hP hD hS (lv_sub hl [1, 2, 3, 0] rfl)
        · have hd_ := hV.d (q := j) c_7 (by omega)
          refine lv_iload_n hx hb dX2_dollsLike_30 rfl (lv_at hl 2 rfl) ?_
          refine lv_aload_n hx hb dX2_dollsLike_31 rfl (lv_at hl 0 rfl) ?_
          refine va_get (D := D) (cl := vwCl) (ci := 2) (v := .ref h0) (C := RX2) (T := TX2) (N := 1) hx hb hts inf_X2_dollsLike_X2 hown hK.1 (hR.at hS) 0 rfl rfl 0 (by decide) (hts _ (List.mem_of_getElem? (i := 1) rfl)) (fun _ h9 => h9) rfl dX2_dollsLike_32 ?_
          refine lv_iload_n hx hb dX2_dollsLike_35 rfl (lv_at hl 3 rfl) ?_
          refine lv_iload hx hb dX2_dollsLike_36 (lv_at hl 5 rfl) ?_
          refine call_r (q := (RX4, TX4, 1)) (As := [.int (nI i), .int (nI j)]) (rest := [.int (nI y)]) F (c_X4_dollAt l D cA h0 h1 h2 a i j (by omega) (by omega)) (cwV 2 hts gX2_dollsLike_X4_dollAt rfl rfl rfl ydv_X4_dollAt ⟨Nat.le_of_ble_eq_true rfl, Nat.le_of_ble_eq_true rfl⟩) hK hR hP hD hA hS [1, 2, 3] rfl rfl 1 4 rfl rfl rfl hl.1 rfl (Nat.le_of_ble_eq_true rfl) dX2_dollsLike_38 ⟨Nat.zero_le _, Nat.zero_le _⟩ (fun H locs hP hS => ?_)
          refine lv_iload_n hx hb dX2_dollsLike_41 rfl (lv_at hl 1 rfl) ?_
          refine nv_icmp_ne (tgt := 49) hx hb dX2_dollsLike_42 (by decide) (by omega) (by omega) (fun c_42 => ?_) (fun c_42 => ?_)
          · refine lv_iconst (v := nI 0) hx hb dX2_dollsLike_49 (by decide) ?_
            refine call_n (As := [.int (nI 0)]) (rest := [.int (nI y)]) F (c_X6_oneIf l D cA false) ⟨va_cnB 1 hts gX2_dollsLike_X6_oneIf_n29 rfl rfl rfl (hK.2 _ (List.mem_of_getElem? (i := 7) rfl)) (hts _ (List.mem_of_getElem? (i := 23) rfl)) yd_X6_oneIf ⟨Nat.le_of_ble_eq_true rfl, Nat.le_of_ble_eq_true rfl⟩, (hts _ (List.mem_of_getElem? (i := 22) rfl)), trivial⟩ hK hR hP hD hA hS rfl hl.1 rfl (Nat.le_of_ble_eq_true rfl) dX2_dollsLike_50 ⟨Nat.zero_le _, Nat.zero_le _⟩ (fun H locs hP hS => ?_)
            refine nv_iadd hx hb dX2_dollsLike_53 ?_
            refine lv_istore_n (lv' := [(2, .int (nI (y + (b2n false)))), (0, .ref k0), (1, .int (nI d)), (3, .int (nI i)), (4, .int (nI (ln a i))), (5, .int (nI j))]) hx hb dX2_dollsLike_54 rfl hl (by decide) rfl (fun ls hl => ?_)
            refine lv_iinc (v := nI (j + 1)) (lv' := [(5, .int (nI (j + 1))), (2, .int (nI (y + (b2n false)))), (0, .ref k0), (1, .int (nI d)), (3, .int (nI i)), (4, .int (nI (ln a i)))]) hx hb dX2_dollsLike_55 hl (k := 5) rfl (nI_add _ _) (by decide) rfl (fun ls hl => ?_)
            refine lv_goto (tgt := 23) hx hb dX2_dollsLike_58 (by decide) ?_
            exact ih_23 _ (by omega) (j + 1) (y + (b2n false)) _ _ _ rfl (by omega) (by rw [hy_]; first | (simp only [sumN, decide_eq_true c_42]; omega) | (simp only [sumN, decide_eq_false c_42]; omega)) hP hD hS (lv_sub hl [2, 3, 1, 4, 5, 0] rfl)
          · refine lv_iconst (v := nI 1) hx hb dX2_dollsLike_45 (by decide) ?_
            refine lv_goto (tgt := 50) hx hb dX2_dollsLike_46 (by decide) ?_
            refine call_n (As := [.int (nI 1)]) (rest := [.int (nI y)]) F (c_X6_oneIf l D cA true) ⟨va_cnB 1 hts gX2_dollsLike_X6_oneIf_n29 rfl rfl rfl (hK.2 _ (List.mem_of_getElem? (i := 7) rfl)) (hts _ (List.mem_of_getElem? (i := 23) rfl)) yd_X6_oneIf ⟨Nat.le_of_ble_eq_true rfl, Nat.le_of_ble_eq_true rfl⟩, (hts _ (List.mem_of_getElem? (i := 22) rfl)), trivial⟩ hK hR hP hD hA hS rfl hl.1 rfl (Nat.le_of_ble_eq_true rfl) dX2_dollsLike_50 ⟨Nat.zero_le _, Nat.zero_le _⟩ (fun H locs hP hS => ?_)
            refine nv_iadd hx hb dX2_dollsLike_53 ?_
            refine lv_istore_n (lv' := [(2, .int (nI (y + (b2n true)))), (0, .ref k0), (1, .int (nI d)), (3, .int (nI i)), (4, .int (nI (ln a i))), (5, .int (nI j))]) hx hb dX2_dollsLike_54 rfl hl (by decide) rfl (fun ls hl => ?_)
            refine lv_iinc (v := nI (j + 1)) (lv' := [(5, .int (nI (j + 1))), (2, .int (nI (y + (b2n true)))), (0, .ref k0), (1, .int (nI d)), (3, .int (nI i)), (4, .int (nI (ln a i)))]) hx hb dX2_dollsLike_55 hl (k := 5) rfl (nI_add _ _) (by decide) rfl (fun ls hl => ?_)
            refine lv_goto (tgt := 23) hx hb dX2_dollsLike_58 (by decide) ?_
            exact ih_23 _ (by omega) (j + 1) (y + (b2n true)) _ _ _ rfl (by omega) (by rw [hy_]; first | (simp only [sumN, decide_eq_true c_42]; omega) | (simp only [sumN, decide_eq_false c_42]; omega)) hP hD hS (lv_sub hl [2, 3, 1, 4, 5, 0] rfl)
      exact LP_23 _ 0 x _ _ _ rfl (by omega) (rfl) hP hD hS (lv_sub hl [2, 3, 4, 5, 1, 0] rfl)
  exact LP_4 _ 0 0 _ _ _ rfl (by omega) (rfl) hP hD hS (lv_sub hl [2, 3, 1, 0] rfl)
abbrev rm_X2_garlands : Room := { frames := 3, cells := 0, slots := 0, locals := 63 }
theorem ydv_X2_garlands : yX2_garlands.cls = RX2 ∧ yX2_garlands.cls ≠ "java/lang/invoke/MethodHandle" ∧ yX2_garlands.cls ≠ "java/lang/invoke/VarHandle" ∧ (parseMethodDescriptor yX2_garlands.desc).map (fun d => d.parameters.length) = some 0 := by decide +kernel
theorem inf_X2_garlands_X2 : ∀ w ∈ wsX20, w ∈ wsX2_garlands := fun w h => List.mem_cons_of_mem _ (List.mem_append_left _ (List.mem_append_left _ (List.mem_append_right _ (h))))
set_option maxHeartbeats 4000000 in
set_option maxRecDepth 100000 in
theorem c_X2_garlands (l : Launch) (D : va_G) (cA : ClassId) (k0 h0 h1 h2 : Nat) (a : Nat → Nat)  (hV : Vd a) : RO l D cA yX2_garlands wsX2_garlands rm_X2_garlands [.ref k0] [(k0, .inr (2, [.ref h0])), (h0, .inr (4, [.ref h1])), (h1, .inr (3, [.ref h2])), (h2, .inl (cA, 286, .inl (nF a)))] (nI (cntG a)) := by
  refine ofWi (cc := cX2_garlands) (maxL := 3) (rt := .int) (by decide) rfl (Nat.le_of_ble_eq_true rfl) ?_
  intro p e s m args below meth c Q A ls F hK hR hP hD hA hS hl RET
  obtain ⟨hx, hb, hml, hown, hts⟩ := id F
  have hl : lv_has ls 3 [(0, .ref k0)] := hl
  refine lv_iconst (v := nI 0) hx hb dX2_garlands_0 (by decide) ?_
  refine lv_istore_n (lv' := [(1, .int (nI 0)), (0, .ref k0)]) hx hb dX2_garlands_1 rfl hl (by decide) rfl (fun ls hl => ?_)
  refine lv_iconst (v := nI 0) hx hb dX2_garlands_2 (by decide) ?_
  refine lv_istore_n (lv' := [(2, .int (nI 0)), (1, .int (nI 0)), (0, .ref k0)]) hx hb dX2_garlands_3 rfl hl (by decide) rfl (fun ls hl => ?_)
  have LP_4 : ∀ (k_4 : Nat) (i : Nat) (x : Nat) (H : Heap) (locs : List Loc) (ls : Array Slot), 8 - i = k_4 → (i ≤ 8) → (x = sumN (fun g => b2n (inG a (nI g))) i) → va_P D vwCl [] H → va_D A [] → va_S A s.heap H locs → lv_has ls 3 [(0, .ref k0), (1, .int (nI x)), (2, .int (nI i))] → W p l e rm_X2_garlands s m args below meth c H locs 0 0 Q (F0 m 4 ls []) := by
    refine sind (fun k_4 ih_4 => ?_)
    intro i x H locs ls hk_4 hi hx_ hP hD hS hl
    refine lv_iload_n hx hb dX2_garlands_4 rfl (lv_at hl 2 rfl) ?_
    refine lv_bipush (v := nI 8) hx hb dX2_garlands_5 (by decide) ?_
    refine nv_icmp_ge (tgt := 30) hx hb dX2_garlands_7 (by decide) (by omega) (by decide) (fun c_7 => ?_) (fun c_7 => ?_)
    · refine lv_iload_n hx hb dX2_garlands_30 rfl (lv_at hl 1 rfl) ?_
      refine tope (y := nI (cntG a)) (by rw [hx_, show i = 8 by omega]; rfl) ?_
      exact RET _ _ _ _ _ () dX2_garlands_31 rfl rfl hP hS
    · refine lv_iload_n hx hb dX2_garlands_10 rfl (lv_at hl 1 rfl) ?_
      refine lv_aload_n hx hb dX2_garlands_11 rfl (lv_at hl 0 rfl) ?_
      refine va_get (D := D) (cl := vwCl) (ci := 2) (v := .ref h0) (C := RX2) (T := TX2) (N := 1) hx hb hts inf_X2_garlands_X2 hown hK.1 (hR.at hS) 0 rfl rfl 0 (by decide) (hts _ (List.mem_of_getElem? (i := 1) rfl)) (fun _ h9 => h9) rfl dX2_garlands_12 ?_
      refine lv_iload_n hx hb dX2_garlands_15 rfl (lv_at hl 2 rfl) ?_
      refine call_r (q := (RX4, TX4, 1)) (As := [.int (nI i)]) (rest := [.int (nI x)]) F (c_X4_hasGarland l D cA h0 h1 h2 a (nI i) (fun g hg => by have := hV.1 g hg; omega)) (cwV 1 hts gX2_garlands_X4_hasGarland rfl rfl rfl ydv_X4_hasGarland ⟨Nat.le_of_ble_eq_true rfl, Nat.le_of_ble_eq_true rfl⟩) hK hR hP hD hA hS [1, 2, 3] rfl rfl 1 4 rfl rfl rfl hl.1 rfl (Nat.le_of_ble_eq_true rfl) dX2_garlands_16 ⟨Nat.zero_le _, Nat.zero_le _⟩ (fun H locs hP hS => ?_)
      refine call_n (As := [.int (bI (inG a (nI i)))]) (rest := [.int (nI x)]) F (c_X6_oneIf l D cA (inG a (nI i))) ⟨va_cnB 1 hts gX2_garlands_X6_oneIf_n29 rfl rfl rfl (hK.2 _ (List.mem_of_getElem? (i := 7) rfl)) (hts _ (List.mem_of_getElem? (i := 8) rfl)) yd_X6_oneIf ⟨Nat.le_of_ble_eq_true rfl, Nat.le_of_ble_eq_true rfl⟩, (hts _ (List.mem_of_getElem? (i := 21) rfl)), trivial⟩ hK hR hP hD hA hS rfl hl.1 rfl (Nat.le_of_ble_eq_true rfl) dX2_garlands_19 ⟨Nat.zero_le _, Nat.zero_le _⟩ (fun H locs hP hS => ?_)
      refine nv_iadd hx hb dX2_garlands_22 ?_
      refine lv_istore_n (lv' := [(1, .int (nI (x + (b2n (inG a (nI i)))))), (0, .ref k0), (2, .int (nI i))]) hx hb dX2_garlands_23 rfl hl (by decide) rfl (fun ls hl => ?_)
      refine lv_iinc (v := nI (i + 1)) (lv' := [(2, .int (nI (i + 1))), (1, .int (nI (x + (b2n (inG a (nI i)))))), (0, .ref k0)]) hx hb dX2_garlands_24 hl (k := 2) rfl (nI_add _ _) (by decide) rfl (fun ls hl => ?_)
      refine lv_goto (tgt := 4) hx hb dX2_garlands_27 (by decide) ?_
      exact ih_4 _ (by omega) (i + 1) (x + (b2n (inG a (nI i)))) _ _ _ rfl (by omega) (by rw [hx_]; rfl) hP hD hS (lv_sub hl [2, 1, 0] rfl)
  exact LP_4 _ 0 0 _ _ _ rfl (by omega) (rfl) hP hD hS (lv_sub hl [2, 1, 0] rfl)
abbrev rm_X2_dolls : Room := { frames := 2, cells := 0, slots := 0, locals := 42 }
theorem ydv_X2_dolls : yX2_dolls.cls = RX2 ∧ yX2_dolls.cls ≠ "java/lang/invoke/MethodHandle" ∧ yX2_dolls.cls ≠ "java/lang/invoke/VarHandle" ∧ (parseMethodDescriptor yX2_dolls.desc).map (fun d => d.parameters.length) = some 0 := by decide +kernel
theorem inf_X2_dolls_X2 : ∀ w ∈ wsX20, w ∈ wsX2_dolls := fun w h => List.mem_cons_of_mem _ (List.mem_append_left _ (List.mem_append_left _ (List.mem_append_right _ (h))))
set_option maxHeartbeats 4000000 in
set_option maxRecDepth 100000 in
theorem c_X2_dolls (l : Launch) (D : va_G) (cA : ClassId) (k0 h0 h1 h2 : Nat) (a : Nat → Nat)  (hV : Vd a) : RO l D cA yX2_dolls wsX2_dolls rm_X2_dolls [.ref k0] [(k0, .inr (2, [.ref h0])), (h0, .inr (4, [.ref h1])), (h1, .inr (3, [.ref h2])), (h2, .inl (cA, 286, .inl (nF a)))] (nI (cntD a)) := by
  refine ofWi (cc := cX2_dolls) (maxL := 3) (rt := .int) (by decide) rfl (Nat.le_of_ble_eq_true rfl) ?_
  intro p e s m args below meth c Q A ls F hK hR hP hD hA hS hl RET
  obtain ⟨hx, hb, hml, hown, hts⟩ := id F
  have hl : lv_has ls 3 [(0, .ref k0)] := hl
  refine lv_iconst (v := nI 0) hx hb dX2_dolls_0 (by decide) ?_
  refine lv_istore_n (lv' := [(1, .int (nI 0)), (0, .ref k0)]) hx hb dX2_dolls_1 rfl hl (by decide) rfl (fun ls hl => ?_)
  refine lv_iconst (v := nI 0) hx hb dX2_dolls_2 (by decide) ?_
  refine lv_istore_n (lv' := [(2, .int (nI 0)), (1, .int (nI 0)), (0, .ref k0)]) hx hb dX2_dolls_3 rfl hl (by decide) rfl (fun ls hl => ?_)
  have LP_4 : ∀ (k_4 : Nat) (i : Nat) (x : Nat) (H : Heap) (locs : List Loc) (ls : Array Slot), 8 - i = k_4 → (i ≤ 8) → (x = sumN (fun g => ln a g) i) → va_P D vwCl [] H → va_D A [] → va_S A s.heap H locs → lv_has ls 3 [(0, .ref k0), (1, .int (nI x)), (2, .int (nI i))] → W p l e rm_X2_dolls s m args below meth c H locs 0 0 Q (F0 m 4 ls []) := by
    refine sind (fun k_4 ih_4 => ?_)
    intro i x H locs ls hk_4 hi hx_ hP hD hS hl
    refine lv_iload_n hx hb dX2_dolls_4 rfl (lv_at hl 2 rfl) ?_
    refine lv_bipush (v := nI 8) hx hb dX2_dolls_5 (by decide) ?_
    refine nv_icmp_ge (tgt := 27) hx hb dX2_dolls_7 (by decide) (by omega) (by decide) (fun c_7 => ?_) (fun c_7 => ?_)
    · refine lv_iload_n hx hb dX2_dolls_27 rfl (lv_at hl 1 rfl) ?_
      refine tope (y := nI (cntD a)) (by rw [hx_, show i = 8 by omega]; rfl) ?_
      exact RET _ _ _ _ _ () dX2_dolls_28 rfl rfl hP hS
    · refine lv_iload_n hx hb dX2_dolls_10 rfl (lv_at hl 1 rfl) ?_
      refine lv_aload_n hx hb dX2_dolls_11 rfl (lv_at hl 0 rfl) ?_
      refine va_get (D := D) (cl := vwCl) (ci := 2) (v := .ref h0) (C := RX2) (T := TX2) (N := 1) hx hb hts inf_X2_dolls_X2 hown hK.1 (hR.at hS) 0 rfl rfl 0 (by decide) (hts _ (List.mem_of_getElem? (i := 1) rfl)) (fun _ h9 => h9) rfl dX2_dolls_12 ?_
      refine lv_iload_n hx hb dX2_dolls_15 rfl (lv_at hl 2 rfl) ?_
      refine call_r (q := (RX4, TX4, 1)) (As := [.int (nI i)]) (rest := [.int (nI x)]) F (c_X4_lengthOf l D cA h0 h1 h2 a i (by omega)) (cwV 1 hts gX2_dolls_X4_lengthOf rfl rfl rfl ydv_X4_lengthOf ⟨Nat.le_of_ble_eq_true rfl, Nat.le_of_ble_eq_true rfl⟩) hK hR hP hD hA hS [1, 2, 3] rfl rfl 1 4 rfl rfl rfl hl.1 rfl (Nat.le_of_ble_eq_true rfl) dX2_dolls_16 ⟨Nat.zero_le _, Nat.zero_le _⟩ (fun H locs hP hS => ?_)
      refine nv_iadd hx hb dX2_dolls_19 ?_
      refine lv_istore_n (lv' := [(1, .int (nI (x + (ln a i)))), (0, .ref k0), (2, .int (nI i))]) hx hb dX2_dolls_20 rfl hl (by decide) rfl (fun ls hl => ?_)
      refine lv_iinc (v := nI (i + 1)) (lv' := [(2, .int (nI (i + 1))), (1, .int (nI (x + (ln a i)))), (0, .ref k0)]) hx hb dX2_dolls_21 hl (k := 2) rfl (nI_add _ _) (by decide) rfl (fun ls hl => ?_)
      refine lv_goto (tgt := 4) hx hb dX2_dolls_24 (by decide) ?_
      exact ih_4 _ (by omega) (i + 1) (x + (ln a i)) _ _ _ rfl (by omega) (by rw [hx_]; rfl) hP hD hS (lv_sub hl [2, 1, 0] rfl)
  exact LP_4 _ 0 0 _ _ _ rfl (by omega) (rfl) hP hD hS (lv_sub hl [2, 1, 0] rfl)
abbrev rm_X2_mirroredDolls : Room := { frames := 3, cells := 0, slots := 0, locals := 68 }
theorem ydv_X2_mirroredDolls : yX2_mirroredDolls.cls = RX2 ∧ yX2_mirroredDolls.cls ≠ "java/lang/invoke/MethodHandle" ∧ yX2_mirroredDolls.cls ≠ "java/lang/invoke/VarHandle" ∧ (parseMethodDescriptor yX2_mirroredDolls.desc).map (fun d => d.parameters.length) = some 0 := by decide +kernel
set_option maxHeartbeats 4000000 in
set_option maxRecDepth 100000 in
theorem c_X2_mirroredDolls (l : Launch) (D : va_G) (cA : ClassId) (k0 h0 h1 h2 : Nat) (a : Nat → Nat)  (hV : Vd a) : RO l D cA yX2_mirroredDolls wsX2_mirroredDolls rm_X2_mirroredDolls [.ref k0] [(k0, .inr (2, [.ref h0])), (h0, .inr (4, [.ref h1])), (h1, .inr (3, [.ref h2])), (h2, .inl (cA, 286, .inl (nF a)))] (nI (cntM a)) := by
  refine ofWi (cc := cX2_mirroredDolls) (maxL := 3) (rt := .int) (by decide) rfl (Nat.le_of_ble_eq_true rfl) ?_
  intro p e s m args below meth c Q A ls F hK hR hP hD hA hS hl RET
  obtain ⟨hx, hb, hml, hown, hts⟩ := id F
  have hl : lv_has ls 3 [(0, .ref k0)] := hl
  refine lv_iconst (v := nI 0) hx hb dX2_mirroredDolls_0 (by decide) ?_
  refine lv_istore_n (lv' := [(1, .int (nI 0)), (0, .ref k0)]) hx hb dX2_mirroredDolls_1 rfl hl (by decide) rfl (fun ls hl => ?_)
  refine lv_iconst (v := nI 0) hx hb dX2_mirroredDolls_2 (by decide) ?_
  refine lv_istore_n (lv' := [(2, .int (nI 0)), (1, .int (nI 0)), (0, .ref k0)]) hx hb dX2_mirroredDolls_3 rfl hl (by decide) rfl (fun ls hl => ?_)
  have LP_4 : ∀ (k_4 : Nat) (i : Nat) (x : Nat) (H : Heap) (locs : List Loc) (ls : Array Slot), 8 - i = k_4 → (i ≤ 8) → (x = sumN (fun g => mirIn a g) i) → va_P D vwCl [] H → va_D A [] → va_S A s.heap H locs → lv_has ls 3 [(0, .ref k0), (1, .int (nI x)), (2, .int (nI i))] → W p l e rm_X2_mirroredDolls s m args below meth c H locs 0 0 Q (F0 m 4 ls []) := by
    refine sind (fun k_4 ih_4 => ?_)
    intro i x H locs ls hk_4 hi hx_ hP hD hS hl
    refine lv_iload_n hx hb dX2_mirroredDolls_4 rfl (lv_at hl 2 rfl) ?_
    refine lv_bipush (v := nI 8) hx hb dX2_mirroredDolls_5 (by decide) ?_
    refine nv_icmp_ge (tgt := 24) hx hb dX2_mirroredDolls_7 (by decide) (by omega) (by decide) (fun c_7 => ?_) (fun c_7 => ?_)
    · refine lv_iload_n hx hb dX2_mirroredDolls_24 rfl (lv_at hl 1 rfl) ?_
      refine tope (y := nI (cntM a)) (by rw [hx_, show i = 8 by omega]; rfl) ?_
      exact RET _ _ _ _ _ () dX2_mirroredDolls_25 rfl rfl hP hS
    · refine lv_iload_n hx hb dX2_mirroredDolls_10 rfl (lv_at hl 1 rfl) ?_
      refine lv_aload_n hx hb dX2_mirroredDolls_11 rfl (lv_at hl 0 rfl) ?_
      refine lv_iload_n hx hb dX2_mirroredDolls_12 rfl (lv_at hl 2 rfl) ?_
      refine call_r (q := (RX2, TX2, 1)) (As := [.int (nI i)]) (rest := [.int (nI x)]) F (c_X2_mirroredIn l D cA k0 h0 h1 h2 a i (hV) (by omega)) (cwV 1 hts gX2_mirroredDolls_X2_mirroredIn rfl rfl rfl ydv_X2_mirroredIn ⟨Nat.le_of_ble_eq_true rfl, Nat.le_of_ble_eq_true rfl⟩) hK hR hP hD hA hS [0, 1, 2, 3] rfl rfl 0 2 rfl rfl rfl hl.1 rfl (Nat.le_of_ble_eq_true rfl) dX2_mirroredDolls_13 ⟨Nat.zero_le _, Nat.zero_le _⟩ (fun H locs hP hS => ?_)
      refine nv_iadd hx hb dX2_mirroredDolls_16 ?_
      refine lv_istore_n (lv' := [(1, .int (nI (x + (mirIn a i)))), (0, .ref k0), (2, .int (nI i))]) hx hb dX2_mirroredDolls_17 rfl hl (by decide) rfl (fun ls hl => ?_)
      refine lv_iinc (v := nI (i + 1)) (lv' := [(2, .int (nI (i + 1))), (1, .int (nI (x + (mirIn a i)))), (0, .ref k0)]) hx hb dX2_mirroredDolls_18 hl (k := 2) rfl (nI_add _ _) (by decide) rfl (fun ls hl => ?_)
      refine lv_goto (tgt := 4) hx hb dX2_mirroredDolls_21 (by decide) ?_
      exact ih_4 _ (by omega) (i + 1) (x + (mirIn a i)) _ _ _ rfl (by omega) (by rw [hx_]; rfl) hP hD hS (lv_sub hl [2, 1, 0] rfl)
  exact LP_4 _ 0 0 _ _ _ rfl (by omega) (rfl) hP hD hS (lv_sub hl [2, 1, 0] rfl)
abbrev rm_X2_ownMirrors : Room := { frames := 4, cells := 0, slots := 0, locals := 90 }
theorem ydv_X2_ownMirrors : yX2_ownMirrors.cls = RX2 ∧ yX2_ownMirrors.cls ≠ "java/lang/invoke/MethodHandle" ∧ yX2_ownMirrors.cls ≠ "java/lang/invoke/VarHandle" ∧ (parseMethodDescriptor yX2_ownMirrors.desc).map (fun d => d.parameters.length) = some 0 := by decide +kernel
theorem inf_X2_ownMirrors_X2 : ∀ w ∈ wsX20, w ∈ wsX2_ownMirrors := fun w h => List.mem_cons_of_mem _ (List.mem_append_left _ (List.mem_append_left _ (List.mem_append_right _ (h))))
set_option maxHeartbeats 4000000 in
set_option maxRecDepth 100000 in
theorem c_X2_ownMirrors (l : Launch) (D : va_G) (cA : ClassId) (k0 h0 h1 h2 : Nat) (a : Nat → Nat)  (hV : Vd a) : RO l D cA yX2_ownMirrors wsX2_ownMirrors rm_X2_ownMirrors [.ref k0] [(k0, .inr (2, [.ref h0])), (h0, .inr (4, [.ref h1])), (h1, .inr (3, [.ref h2])), (h2, .inl (cA, 286, .inl (nF a)))] (nI (cntO a)) := by
  refine ofWi (cc := cX2_ownMirrors) (maxL := 3) (rt := .int) (by decide) rfl (Nat.le_of_ble_eq_true rfl) ?_
  intro p e s m args below meth c Q A ls F hK hR hP hD hA hS hl RET
  obtain ⟨hx, hb, hml, hown, hts⟩ := id F
  have hl : lv_has ls 3 [(0, .ref k0)] := hl
  refine lv_iconst (v := nI 0) hx hb dX2_ownMirrors_0 (by decide) ?_
  refine lv_istore_n (lv' := [(1, .int (nI 0)), (0, .ref k0)]) hx hb dX2_ownMirrors_1 rfl hl (by decide) rfl (fun ls hl => ?_)
  refine lv_iconst (v := nI 0) hx hb dX2_ownMirrors_2 (by decide) ?_
  refine lv_istore_n (lv' := [(2, .int (nI 0)), (1, .int (nI 0)), (0, .ref k0)]) hx hb dX2_ownMirrors_3 rfl hl (by decide) rfl (fun ls hl => ?_)
  have LP_4 : ∀ (k_4 : Nat) (i : Nat) (x : Nat) (H : Heap) (locs : List Loc) (ls : Array Slot), 8 - i = k_4 → (i ≤ 8) → (x = sumN (fun g => b2n (inG a (nI g) && mird a g g)) i) → va_P D vwCl [] H → va_D A [] → va_S A s.heap H locs → lv_has ls 3 [(0, .ref k0), (1, .int (nI x)), (2, .int (nI i))] → W p l e rm_X2_ownMirrors s m args below meth c H locs 0 0 Q (F0 m 4 ls []) := by
    refine sind (fun k_4 ih_4 => ?_)
    intro i x H locs ls hk_4 hi hx_ hP hD hS hl
    refine lv_iload_n hx hb dX2_ownMirrors_4 rfl (lv_at hl 2 rfl) ?_
    refine lv_bipush (v := nI 8) hx hb dX2_ownMirrors_5 (by decide) ?_
    refine nv_icmp_ge (tgt := 46) hx hb dX2_ownMirrors_7 (by decide) (by omega) (by decide) (fun c_7 => ?_) (fun c_7 => ?_)
    · refine lv_iload_n hx hb dX2_ownMirrors_46 rfl (lv_at hl 1 rfl) ?_
      refine tope (y := nI (cntO a)) (by rw [hx_, show i = 8 by omega]; rfl) ?_
      exact RET _ _ _ _ _ () dX2_ownMirrors_47 rfl rfl hP hS
    · refine lv_iload_n hx hb dX2_ownMirrors_10 rfl (lv_at hl 1 rfl) ?_
      refine lv_aload_n hx hb dX2_ownMirrors_11 rfl (lv_at hl 0 rfl) ?_
      refine va_get (D := D) (cl := vwCl) (ci := 2) (v := .ref h0) (C := RX2) (T := TX2) (N := 1) hx hb hts inf_X2_ownMirrors_X2 hown hK.1 (hR.at hS) 0 rfl rfl 0 (by decide) (hts _ (List.mem_of_getElem? (i := 1) rfl)) (fun _ h9 => h9) rfl dX2_ownMirrors_12 ?_
      refine lv_iload_n hx hb dX2_ownMirrors_15 rfl (lv_at hl 2 rfl) ?_
      refine call_r (q := (RX4, TX4, 1)) (As := [.int (nI i)]) (rest := [.int (nI x)]) F (c_X4_hasGarland l D cA h0 h1 h2 a (nI i) (fun g hg => by have := hV.1 g hg; omega)) (cwV 1 hts gX2_ownMirrors_X4_hasGarland rfl rfl rfl ydv_X4_hasGarland ⟨Nat.le_of_ble_eq_true rfl, Nat.le_of_ble_eq_true rfl⟩) hK hR hP hD hA hS [1, 2, 3] rfl rfl 1 4 rfl rfl rfl hl.1 rfl (Nat.le_of_ble_eq_true rfl) dX2_ownMirrors_16 ⟨Nat.zero_le _, Nat.zero_le _⟩ (fun H locs hP hS => ?_)
      refine bv_if_eq (tgt := 34) hx hb dX2_ownMirrors_19 (by decide) (fun c_19 => ?_) (fun c_19 => ?_)
      · refine lv_iconst (v := nI 0) hx hb dX2_ownMirrors_34 (by decide) ?_
        refine call_n (As := [.int (nI 0)]) (rest := [.int (nI x)]) F (c_X6_oneIf l D cA false) ⟨va_cnB 1 hts gX2_ownMirrors_X6_oneIf_n29 rfl rfl rfl (hK.2 _ (List.mem_of_getElem? (i := 7) rfl)) (hts _ (List.mem_of_getElem? (i := 8) rfl)) yd_X6_oneIf ⟨Nat.le_of_ble_eq_true rfl, Nat.le_of_ble_eq_true rfl⟩, (hts _ (List.mem_of_getElem? (i := 41) rfl)), trivial⟩ hK hR hP hD hA hS rfl hl.1 rfl (Nat.le_of_ble_eq_true rfl) dX2_ownMirrors_35 ⟨Nat.zero_le _, Nat.zero_le _⟩ (fun H locs hP hS => ?_)
        refine nv_iadd hx hb dX2_ownMirrors_38 ?_
        refine lv_istore_n (lv' := [(1, .int (nI (x + (b2n false)))), (0, .ref k0), (2, .int (nI i))]) hx hb dX2_ownMirrors_39 rfl hl (by decide) rfl (fun ls hl => ?_)
        refine lv_iinc (v := nI (i + 1)) (lv' := [(2, .int (nI (i + 1))), (1, .int (nI (x + (b2n false)))), (0, .ref k0)]) hx hb dX2_ownMirrors_40 hl (k := 2) rfl (nI_add _ _) (by decide) rfl (fun ls hl => ?_)
        refine lv_goto (tgt := 4) hx hb dX2_ownMirrors_43 (by decide) ?_
        exact ih_4 _ (by omega) (i + 1) (x + (b2n false)) _ _ _ rfl (by omega) (by rw [hx_]; first | (simp only [sumN, c_19, c_27, Bool.and_true, Bool.true_and, Bool.false_and, Bool.and_false]; done) | (simp only [sumN, c_19, Bool.and_true, Bool.true_and, Bool.false_and, Bool.and_false]; done)) hP hD hS (lv_sub hl [2, 1, 0] rfl)
      · refine lv_aload_n hx hb dX2_ownMirrors_22 rfl (lv_at hl 0 rfl) ?_
        refine lv_iload_n hx hb dX2_ownMirrors_23 rfl (lv_at hl 2 rfl) ?_
        refine call_r (q := (RX2, TX2, 1)) (As := [.int (nI i)]) (rest := [.int (nI x)]) F (c_X2_isOwnMirror l D cA k0 h0 h1 h2 a i (hV) (by omega)) (cwV 1 hts gX2_ownMirrors_X2_isOwnMirror rfl rfl rfl ydv_X2_isOwnMirror ⟨Nat.le_of_ble_eq_true rfl, Nat.le_of_ble_eq_true rfl⟩) hK hR hP hD hA hS [0, 1, 2, 3] rfl rfl 0 2 rfl rfl rfl hl.1 rfl (Nat.le_of_ble_eq_true rfl) dX2_ownMirrors_24 ⟨Nat.zero_le _, Nat.zero_le _⟩ (fun H locs hP hS => ?_)
        refine bv_if_eq (tgt := 34) hx hb dX2_ownMirrors_27 (by decide) (fun c_27 => ?_) (fun c_27 => ?_)
        · refine lv_iconst (v := nI 0) hx hb dX2_ownMirrors_34 (by decide) ?_
          refine call_n (As := [.int (nI 0)]) (rest := [.int (nI x)]) F (c_X6_oneIf l D cA false) ⟨va_cnB 1 hts gX2_ownMirrors_X6_oneIf_n29 rfl rfl rfl (hK.2 _ (List.mem_of_getElem? (i := 7) rfl)) (hts _ (List.mem_of_getElem? (i := 8) rfl)) yd_X6_oneIf ⟨Nat.le_of_ble_eq_true rfl, Nat.le_of_ble_eq_true rfl⟩, (hts _ (List.mem_of_getElem? (i := 41) rfl)), trivial⟩ hK hR hP hD hA hS rfl hl.1 rfl (Nat.le_of_ble_eq_true rfl) dX2_ownMirrors_35 ⟨Nat.zero_le _, Nat.zero_le _⟩ (fun H locs hP hS => ?_)
          refine nv_iadd hx hb dX2_ownMirrors_38 ?_
          refine lv_istore_n (lv' := [(1, .int (nI (x + (b2n false)))), (0, .ref k0), (2, .int (nI i))]) hx hb dX2_ownMirrors_39 rfl hl (by decide) rfl (fun ls hl => ?_)
          refine lv_iinc (v := nI (i + 1)) (lv' := [(2, .int (nI (i + 1))), (1, .int (nI (x + (b2n false)))), (0, .ref k0)]) hx hb dX2_ownMirrors_40 hl (k := 2) rfl (nI_add _ _) (by decide) rfl (fun ls hl => ?_)
          refine lv_goto (tgt := 4) hx hb dX2_ownMirrors_43 (by decide) ?_
          exact ih_4 _ (by omega) (i + 1) (x + (b2n false)) _ _ _ rfl (by omega) (by rw [hx_]; first | (simp only [sumN, c_19, c_27, Bool.and_true, Bool.true_and, Bool.false_and, Bool.and_false]; done) | (simp only [sumN, c_19, Bool.and_true, Bool.true_and, Bool.false_and, Bool.and_false]; done)) hP hD hS (lv_sub hl [2, 1, 0] rfl)
        · refine lv_iconst (v := nI 1) hx hb dX2_ownMirrors_30 (by decide) ?_
          refine lv_goto (tgt := 35) hx hb dX2_ownMirrors_31 (by decide) ?_
          refine call_n (As := [.int (nI 1)]) (rest := [.int (nI x)]) F (c_X6_oneIf l D cA true) ⟨va_cnB 1 hts gX2_ownMirrors_X6_oneIf_n29 rfl rfl rfl (hK.2 _ (List.mem_of_getElem? (i := 7) rfl)) (hts _ (List.mem_of_getElem? (i := 8) rfl)) yd_X6_oneIf ⟨Nat.le_of_ble_eq_true rfl, Nat.le_of_ble_eq_true rfl⟩, (hts _ (List.mem_of_getElem? (i := 41) rfl)), trivial⟩ hK hR hP hD hA hS rfl hl.1 rfl (Nat.le_of_ble_eq_true rfl) dX2_ownMirrors_35 ⟨Nat.zero_le _, Nat.zero_le _⟩ (fun H locs hP hS => ?_)
          refine nv_iadd hx hb dX2_ownMirrors_38 ?_
          refine lv_istore_n (lv' := [(1, .int (nI (x + (b2n true)))), (0, .ref k0), (2, .int (nI i))]) hx hb dX2_ownMirrors_39 rfl hl (by decide) rfl (fun ls hl => ?_)
          refine lv_iinc (v := nI (i + 1)) (lv' := [(2, .int (nI (i + 1))), (1, .int (nI (x + (b2n true)))), (0, .ref k0)]) hx hb dX2_ownMirrors_40 hl (k := 2) rfl (nI_add _ _) (by decide) rfl (fun ls hl => ?_)
          refine lv_goto (tgt := 4) hx hb dX2_ownMirrors_43 (by decide) ?_
          exact ih_4 _ (by omega) (i + 1) (x + (b2n true)) _ _ _ rfl (by omega) (by rw [hx_]; first | (simp only [sumN, c_19, c_27, Bool.and_true, Bool.true_and, Bool.false_and, Bool.and_false]; done) | (simp only [sumN, c_19, Bool.and_true, Bool.true_and, Bool.false_and, Bool.and_false]; done)) hP hD hS (lv_sub hl [2, 1, 0] rfl)
  exact LP_4 _ 0 0 _ _ _ rfl (by omega) (rfl) hP hD hS (lv_sub hl [2, 1, 0] rfl)
abbrev rm_X2_handsThatMeet : Room := { frames := 2, cells := 0, slots := 0, locals := 44 }
theorem ydv_X2_handsThatMeet : yX2_handsThatMeet.cls = RX2 ∧ yX2_handsThatMeet.cls ≠ "java/lang/invoke/MethodHandle" ∧ yX2_handsThatMeet.cls ≠ "java/lang/invoke/VarHandle" ∧ (parseMethodDescriptor yX2_handsThatMeet.desc).map (fun d => d.parameters.length) = some 0 := by decide +kernel
theorem inf_X2_handsThatMeet_X2 : ∀ w ∈ wsX20, w ∈ wsX2_handsThatMeet := fun w h => List.mem_cons_of_mem _ (List.mem_append_left _ (List.mem_append_left _ (List.mem_append_right _ (h))))
set_option maxHeartbeats 4000000 in
set_option maxRecDepth 100000 in
theorem c_X2_handsThatMeet (l : Launch) (D : va_G) (cA : ClassId) (k0 h0 h1 h2 : Nat) (a : Nat → Nat)  (hV : Vd a) : RO l D cA yX2_handsThatMeet wsX2_handsThatMeet rm_X2_handsThatMeet [.ref k0] [(k0, .inr (2, [.ref h0])), (h0, .inr (4, [.ref h1])), (h1, .inr (3, [.ref h2])), (h2, .inl (cA, 286, .inl (nF a)))] (nI (cntH a)) := by
  refine ofWi (cc := cX2_handsThatMeet) (maxL := 7) (rt := .int) (by decide) rfl (Nat.le_of_ble_eq_true rfl) ?_
  intro p e s m args below meth c Q A ls F hK hR hP hD hA hS hl RET
  obtain ⟨hx, hb, hml, hown, hts⟩ := id F
  have hl : lv_has ls 7 [(0, .ref k0)] := hl
  refine lv_iconst (v := nI 0) hx hb dX2_handsThatMeet_0 (by decide) ?_
  refine lv_istore_n (lv' := [(1, .int (nI 0)), (0, .ref k0)]) hx hb dX2_handsThatMeet_1 rfl hl (by decide) rfl (fun ls hl => ?_)
  refine lv_iconst (v := nI 0) hx hb dX2_handsThatMeet_2 (by decide) ?_
  refine lv_istore_n (lv' := [(2, .int (nI 0)), (1, .int (nI 0)), (0, .ref k0)]) hx hb dX2_handsThatMeet_3 rfl hl (by decide) rfl (fun ls hl => ?_)
  have LP_4 : ∀ (k_4 : Nat) (i : Nat) (x : Nat) (H : Heap) (locs : List Loc) (ls : Array Slot), 8 - i = k_4 → (i ≤ 8) → (x = sumN (fun g => meet a g) i) → va_P D vwCl [] H → va_D A [] → va_S A s.heap H locs → lv_has ls 7 [(0, .ref k0), (1, .int (nI x)), (2, .int (nI i))] → W p l e rm_X2_handsThatMeet s m args below meth c H locs 0 0 Q (F0 m 4 ls []) := by
    refine sind (fun k_4 ih_4 => ?_)
    intro i x H locs ls hk_4 hi hx_ hP hD hS hl
    refine lv_iload_n hx hb dX2_handsThatMeet_4 rfl (lv_at hl 2 rfl) ?_
    refine lv_bipush (v := nI 8) hx hb dX2_handsThatMeet_5 (by decide) ?_
    refine nv_icmp_ge (tgt := 101) hx hb dX2_handsThatMeet_7 (by decide) (by omega) (by decide) (fun c_7 => ?_) (fun c_7 => ?_)
    · refine lv_iload_n hx hb dX2_handsThatMeet_101 rfl (lv_at hl 1 rfl) ?_
      refine tope (y := nI (cntH a)) (by rw [hx_, show i = 8 by omega]; rfl) ?_
      exact RET _ _ _ _ _ () dX2_handsThatMeet_102 rfl rfl hP hS
    · have hl32 := hV.l c_7
      refine lv_aload_n hx hb dX2_handsThatMeet_10 rfl (lv_at hl 0 rfl) ?_
      refine va_get (D := D) (cl := vwCl) (ci := 2) (v := .ref h0) (C := RX2) (T := TX2) (N := 1) hx hb hts inf_X2_handsThatMeet_X2 hown hK.1 (hR.at hS) 0 rfl rfl 0 (by decide) (hts _ (List.mem_of_getElem? (i := 1) rfl)) (fun _ h9 => h9) rfl dX2_handsThatMeet_11 ?_
      refine lv_iload_n hx hb dX2_handsThatMeet_14 rfl (lv_at hl 2 rfl) ?_
      refine call_r (q := (RX4, TX4, 1)) (As := [.int (nI i)]) (rest := []) F (c_X4_lengthOf l D cA h0 h1 h2 a i (by omega)) (cwV 1 hts gX2_handsThatMeet_X4_lengthOf rfl rfl rfl ydv_X4_lengthOf ⟨Nat.le_of_ble_eq_true rfl, Nat.le_of_ble_eq_true rfl⟩) hK hR hP hD hA hS [1, 2, 3] rfl rfl 1 4 rfl rfl rfl hl.1 rfl (Nat.le_of_ble_eq_true rfl) dX2_handsThatMeet_15 ⟨Nat.zero_le _, Nat.zero_le _⟩ (fun H locs hP hS => ?_)
      refine lv_istore_n (lv' := [(3, .int (nI (ln a i))), (0, .ref k0), (1, .int (nI x)), (2, .int (nI i))]) hx hb dX2_handsThatMeet_18 rfl hl (by decide) rfl (fun ls hl => ?_)
      refine lv_iconst (v := nI 1) hx hb dX2_handsThatMeet_19 (by decide) ?_
      refine lv_istore (lv' := [(4, .int (nI 1)), (3, .int (nI (ln a i))), (0, .ref k0), (1, .int (nI x)), (2, .int (nI i))]) hx hb dX2_handsThatMeet_20 hl (by decide) rfl (fun ls hl => ?_)
      have LP_22 : ∀ (k_22 : Nat) (j : Nat) (y : Nat) (H : Heap) (locs : List Loc) (ls : Array Slot), ln a i - (j + 1) = k_22 → (j = 0 ∨ j + 1 ≤ ln a i) → (y = x + sumN (fun j => b2n (!decide (hdR a (dl a i (j + 1 - 1)) = 0) && !decide (hdL a (dl a i (j + 1)) = 0))) j) → va_P D vwCl [] H → va_D A [] → va_S A s.heap H locs → lv_has ls 7 [(0, .ref k0), (1, .int (nI y)), (2, .int (nI i)), (3, .int (nI (ln a i))), (4, .int (nI (j + 1)))] → W p l e rm_X2_handsThatMeet s m args below meth c H locs 0 0 Q (F0 m 22 ls []) := by
        refine sind (fun k_22 ih_22 => ?_)
        intro j y H locs ls hk_22 hj hy_ hP hD hS hl
        refine lv_iload hx hb dX2_handsThatMeet_22 (lv_at hl 4 rfl) ?_
        refine lv_iload_n hx hb dX2_handsThatMeet_24 rfl (lv_at hl 3 rfl) ?_
        refine nv_icmp_ge (tgt := 95) hx hb dX2_handsThatMeet_25 (by decide) (by omega) (by omega) (fun c_25 => ?_) (fun c_25 => ?_)
        · refine lv_iinc (v := nI (i + 1)) (lv' := [(2, .int (nI (i + 1))), (0, .ref k0), (1, .int (nI y)), (3, .int (nI (ln a i))), (4, .int (nI (j + 1)))]) hx hb dX2_handsThatMeet_95 hl (k := 2) rfl (nI_add _ _) (by decide) rfl (fun ls hl => ?_)
          refine lv_goto (tgt := 4) hx hb dX2_handsThatMeet_98 (by decide) ?_
          exact ih_4 _ (by omega) (i + 1) y _ _ _ rfl (by omega) (by rw [hy_, show j = ln a i - 1 by omega, hx_]; rfl) hP hD hS (lv_sub hl [1, 2, 0] rfl)
        · have hd_ := hV.d (q := j + 1 - 1) c_7 (by omega)
          have hd2_ := hV.d (q := j + 1) c_7 (by omega)
          have hh_ := hdR_lt hV hd_
          have hh2_ := hdL_lt hV hd2_
          refine lv_aload_n hx hb dX2_handsThatMeet_28 rfl (lv_at hl 0 rfl) ?_
          refine va_get (D := D) (cl := vwCl) (ci := 2) (v := .ref h0) (C := RX2) (T := TX2) (N := 1) hx hb hts inf_X2_handsThatMeet_X2 hown hK.1 (hR.at hS) 0 rfl rfl 0 (by decide) (hts _ (List.mem_of_getElem? (i := 1) rfl)) (fun _ h9 => h9) rfl dX2_handsThatMeet_29 ?_
          refine lv_aload_n hx hb dX2_handsThatMeet_32 rfl (lv_at hl 0 rfl) ?_
          refine va_get (D := D) (cl := vwCl) (ci := 2) (v := .ref h0) (C := RX2) (T := TX2) (N := 1) hx hb hts inf_X2_handsThatMeet_X2 hown hK.1 (hR.at hS) 0 rfl rfl 0 (by decide) (hts _ (List.mem_of_getElem? (i := 1) rfl)) (fun _ h9 => h9) rfl dX2_handsThatMeet_33 ?_
          refine lv_iload_n hx hb dX2_handsThatMeet_36 rfl (lv_at hl 2 rfl) ?_
          refine lv_iload hx hb dX2_handsThatMeet_37 (lv_at hl 4 rfl) ?_
          refine lv_iconst (v := nI 1) hx hb dX2_handsThatMeet_39 (by decide) ?_
          refine nv_isub hx hb dX2_handsThatMeet_40 (by omega) ?_
          refine call_r (q := (RX4, TX4, 1)) (As := [.int (nI i), .int (nI ((j + 1) - 1))]) (rest := [.ref h0]) F (c_X4_dollAt l D cA h0 h1 h2 a i ((j + 1) - 1) (by omega) (by omega)) (cwV 2 hts gX2_handsThatMeet_X4_dollAt rfl rfl rfl ydv_X4_dollAt ⟨Nat.le_of_ble_eq_true rfl, Nat.le_of_ble_eq_true rfl⟩) hK hR hP hD hA hS [1, 2, 3] rfl rfl 1 4 rfl rfl rfl hl.1 rfl (Nat.le_of_ble_eq_true rfl) dX2_handsThatMeet_41 ⟨Nat.zero_le _, Nat.zero_le _⟩ (fun H locs hP hS => ?_)
          refine call_r (q := (RX4, TX4, 1)) (As := [.int (nI (dl a i ((j + 1) - 1)))]) (rest := []) F (c_X4_rightOf l D cA h0 h1 h2 a (dl a i ((j + 1) - 1)) (by omega)) (cwV 1 hts gX2_handsThatMeet_X4_rightOf rfl rfl rfl ydv_X4_rightOf ⟨Nat.le_of_ble_eq_true rfl, Nat.le_of_ble_eq_true rfl⟩) hK hR hP hD hA hS [1, 2, 3] rfl rfl 1 4 rfl rfl rfl hl.1 rfl (Nat.le_of_ble_eq_true rfl) dX2_handsThatMeet_44 ⟨Nat.zero_le _, Nat.zero_le _⟩ (fun H locs hP hS => ?_)
          refine lv_istore (lv' := [(5, .int (nI (hdR a (dl a i ((j + 1) - 1))))), (0, .ref k0), (1, .int (nI y)), (2, .int (nI i)), (3, .int (nI (ln a i))), (4, .int (nI (j + 1)))]) hx hb dX2_handsThatMeet_47 hl (by decide) rfl (fun ls hl => ?_)
          refine lv_aload_n hx hb dX2_handsThatMeet_49 rfl (lv_at hl 1 rfl) ?_
          refine va_get (D := D) (cl := vwCl) (ci := 2) (v := .ref h0) (C := RX2) (T := TX2) (N := 1) hx hb hts inf_X2_handsThatMeet_X2 hown hK.1 (hR.at hS) 0 rfl rfl 0 (by decide) (hts _ (List.mem_of_getElem? (i := 1) rfl)) (fun _ h9 => h9) rfl dX2_handsThatMeet_50 ?_
          refine lv_aload_n hx hb dX2_handsThatMeet_53 rfl (lv_at hl 1 rfl) ?_
          refine va_get (D := D) (cl := vwCl) (ci := 2) (v := .ref h0) (C := RX2) (T := TX2) (N := 1) hx hb hts inf_X2_handsThatMeet_X2 hown hK.1 (hR.at hS) 0 rfl rfl 0 (by decide) (hts _ (List.mem_of_getElem? (i := 1) rfl)) (fun _ h9 => h9) rfl dX2_handsThatMeet_54 ?_
          refine lv_iload_n hx hb dX2_handsThatMeet_57 rfl (lv_at hl 3 rfl) ?_
          refine lv_iload hx hb dX2_handsThatMeet_58 (lv_at hl 5 rfl) ?_
          refine call_r (q := (RX4, TX4, 1)) (As := [.int (nI i), .int (nI (j + 1))]) (rest := [.ref h0]) F (c_X4_dollAt l D cA h0 h1 h2 a i (j + 1) (by omega) (by omega)) (cwV 2 hts gX2_handsThatMeet_X4_dollAt rfl rfl rfl ydv_X4_dollAt ⟨Nat.le_of_ble_eq_true rfl, Nat.le_of_ble_eq_true rfl⟩) hK hR hP hD hA hS [1, 2, 3] rfl rfl 1 4 rfl rfl rfl hl.1 rfl (Nat.le_of_ble_eq_true rfl) dX2_handsThatMeet_60 ⟨Nat.zero_le _, Nat.zero_le _⟩ (fun H locs hP hS => ?_)
          refine call_r (q := (RX4, TX4, 1)) (As := [.int (nI (dl a i (j + 1)))]) (rest := []) F (c_X4_leftOf l D cA h0 h1 h2 a (dl a i (j + 1)) (by omega)) (cwV 1 hts gX2_handsThatMeet_X4_leftOf rfl rfl rfl ydv_X4_leftOf ⟨Nat.le_of_ble_eq_true rfl, Nat.le_of_ble_eq_true rfl⟩) hK hR hP hD hA hS [1, 2, 3] rfl rfl 1 4 rfl rfl rfl hl.1 rfl (Nat.le_of_ble_eq_true rfl) dX2_handsThatMeet_63 ⟨Nat.zero_le _, Nat.zero_le _⟩ (fun H locs hP hS => ?_)
          refine lv_istore (lv' := [(6, .int (nI (hdL a (dl a i (j + 1))))), (5, .int (nI (hdR a (dl a i ((j + 1) - 1))))), (0, .ref k0), (1, .int (nI y)), (2, .int (nI i)), (3, .int (nI (ln a i))), (4, .int (nI (j + 1)))]) hx hb dX2_handsThatMeet_66 hl (by decide) rfl (fun ls hl => ?_)
          refine lv_iload_n hx hb dX2_handsThatMeet_68 rfl (lv_at hl 3 rfl) ?_
          refine lv_iload hx hb dX2_handsThatMeet_69 (lv_at hl 1 rfl) ?_
          refine nv_if_eq (tgt := 83) hx hb dX2_handsThatMeet_71 (by decide) (by omega) (fun c_71 => ?_) (fun c_71 => ?_)
          · refine lv_iconst (v := nI 0) hx hb dX2_handsThatMeet_83 (by decide) ?_
            refine call_n (As := [.int (nI 0)]) (rest := [.int (nI y)]) F (c_X6_oneIf l D cA false) ⟨va_cnB 1 hts gX2_handsThatMeet_X6_oneIf_n29 rfl rfl rfl (hK.2 _ (List.mem_of_getElem? (i := 7) rfl)) (hts _ (List.mem_of_getElem? (i := 27) rfl)) yd_X6_oneIf ⟨Nat.le_of_ble_eq_true rfl, Nat.le_of_ble_eq_true rfl⟩, (hts _ (List.mem_of_getElem? (i := 35) rfl)), trivial⟩ hK hR hP hD hA hS rfl hl.1 rfl (Nat.le_of_ble_eq_true rfl) dX2_handsThatMeet_84 ⟨Nat.zero_le _, Nat.zero_le _⟩ (fun H locs hP hS => ?_)
            refine nv_iadd hx hb dX2_handsThatMeet_87 ?_
            refine lv_istore_n (lv' := [(1, .int (nI (y + (b2n false)))), (6, .int (nI (hdL a (dl a i (j + 1))))), (5, .int (nI (hdR a (dl a i ((j + 1) - 1))))), (0, .ref k0), (2, .int (nI i)), (3, .int (nI (ln a i))), (4, .int (nI (j + 1)))]) hx hb dX2_handsThatMeet_88 rfl hl (by decide) rfl (fun ls hl => ?_)
            refine lv_iinc (v := nI ((j + 1) + 1)) (lv' := [(4, .int (nI ((j + 1) + 1))), (1, .int (nI (y + (b2n false)))), (6, .int (nI (hdL a (dl a i (j + 1))))), (5, .int (nI (hdR a (dl a i ((j + 1) - 1))))), (0, .ref k0), (2, .int (nI i)), (3, .int (nI (ln a i)))]) hx hb dX2_handsThatMeet_89 hl (k := 6) rfl (nI_add _ _) (by decide) rfl (fun ls hl => ?_)
            refine lv_goto (tgt := 22) hx hb dX2_handsThatMeet_92 (by decide) ?_
            exact ih_22 _ (by omega) (j + 1) (y + (b2n false)) _ _ _ rfl (by omega) (by rw [hy_]; first | (simp only [sumN, decide_eq_false c_71, decide_eq_false c_76, Bool.not_false, Bool.and_true]; omega) | (simp only [sumN, decide_eq_false c_71, decide_eq_true c_76, Bool.not_false, Bool.not_true, Bool.and_false]; omega) | (simp only [sumN, decide_eq_true c_71, Bool.not_true, Bool.false_and]; omega)) hP hD hS (lv_sub hl [4, 1, 5, 6, 0] rfl)
          · refine lv_iload hx hb dX2_handsThatMeet_74 (lv_at hl 0 rfl) ?_
            refine nv_if_eq (tgt := 83) hx hb dX2_handsThatMeet_76 (by decide) (by omega) (fun c_76 => ?_) (fun c_76 => ?_)
            · refine lv_iconst (v := nI 0) hx hb dX2_handsThatMeet_83 (by decide) ?_
              refine call_n (As := [.int (nI 0)]) (rest := [.int (nI y)]) F (c_X6_oneIf l D cA false) ⟨va_cnB 1 hts gX2_handsThatMeet_X6_oneIf_n29 rfl rfl rfl (hK.2 _ (List.mem_of_getElem? (i := 7) rfl)) (hts _ (List.mem_of_getElem? (i := 27) rfl)) yd_X6_oneIf ⟨Nat.le_of_ble_eq_true rfl, Nat.le_of_ble_eq_true rfl⟩, (hts _ (List.mem_of_getElem? (i := 35) rfl)), trivial⟩ hK hR hP hD hA hS rfl hl.1 rfl (Nat.le_of_ble_eq_true rfl) dX2_handsThatMeet_84 ⟨Nat.zero_le _, Nat.zero_le _⟩ (fun H locs hP hS => ?_)
              refine nv_iadd hx hb dX2_handsThatMeet_87 ?_
              refine lv_istore_n (lv' := [(1, .int (nI (y + (b2n false)))), (6, .int (nI (hdL a (dl a i (j + 1))))), (5, .int (nI (hdR a (dl a i ((j + 1) - 1))))), (0, .ref k0), (2, .int (nI i)), (3, .int (nI (ln a i))), (4, .int (nI (j + 1)))]) hx hb dX2_handsThatMeet_88 rfl hl (by decide) rfl (fun ls hl => ?_)
              refine lv_iinc (v := nI ((j + 1) + 1)) (lv' := [(4, .int (nI ((j + 1) + 1))), (1, .int (nI (y + (b2n false)))), (6, .int (nI (hdL a (dl a i (j + 1))))), (5, .int (nI (hdR a (dl a i ((j + 1) - 1))))), (0, .ref k0), (2, .int (nI i)), (3, .int (nI (ln a i)))]) hx hb dX2_handsThatMeet_89 hl (k := 6) rfl (nI_add _ _) (by decide) rfl (fun ls hl => ?_)
              refine lv_goto (tgt := 22) hx hb dX2_handsThatMeet_92 (by decide) ?_
              exact ih_22 _ (by omega) (j + 1) (y + (b2n false)) _ _ _ rfl (by omega) (by rw [hy_]; first | (simp only [sumN, decide_eq_false c_71, decide_eq_false c_76, Bool.not_false, Bool.and_true]; omega) | (simp only [sumN, decide_eq_false c_71, decide_eq_true c_76, Bool.not_false, Bool.not_true, Bool.and_false]; omega) | (simp only [sumN, decide_eq_true c_71, Bool.not_true, Bool.false_and]; omega)) hP hD hS (lv_sub hl [4, 1, 5, 6, 0] rfl)
            · refine lv_iconst (v := nI 1) hx hb dX2_handsThatMeet_79 (by decide) ?_
              refine lv_goto (tgt := 84) hx hb dX2_handsThatMeet_80 (by decide) ?_
              refine call_n (As := [.int (nI 1)]) (rest := [.int (nI y)]) F (c_X6_oneIf l D cA true) ⟨va_cnB 1 hts gX2_handsThatMeet_X6_oneIf_n29 rfl rfl rfl (hK.2 _ (List.mem_of_getElem? (i := 7) rfl)) (hts _ (List.mem_of_getElem? (i := 27) rfl)) yd_X6_oneIf ⟨Nat.le_of_ble_eq_true rfl, Nat.le_of_ble_eq_true rfl⟩, (hts _ (List.mem_of_getElem? (i := 35) rfl)), trivial⟩ hK hR hP hD hA hS rfl hl.1 rfl (Nat.le_of_ble_eq_true rfl) dX2_handsThatMeet_84 ⟨Nat.zero_le _, Nat.zero_le _⟩ (fun H locs hP hS => ?_)
              refine nv_iadd hx hb dX2_handsThatMeet_87 ?_
              refine lv_istore_n (lv' := [(1, .int (nI (y + (b2n true)))), (6, .int (nI (hdL a (dl a i (j + 1))))), (5, .int (nI (hdR a (dl a i ((j + 1) - 1))))), (0, .ref k0), (2, .int (nI i)), (3, .int (nI (ln a i))), (4, .int (nI (j + 1)))]) hx hb dX2_handsThatMeet_88 rfl hl (by decide) rfl (fun ls hl => ?_)
              refine lv_iinc (v := nI ((j + 1) + 1)) (lv' := [(4, .int (nI ((j + 1) + 1))), (1, .int (nI (y + (b2n true)))), (6, .int (nI (hdL a (dl a i (j + 1))))), (5, .int (nI (hdR a (dl a i ((j + 1) - 1))))), (0, .ref k0), (2, .int (nI i)), (3, .int (nI (ln a i)))]) hx hb dX2_handsThatMeet_89 hl (k := 6) rfl (nI_add _ _) (by decide) rfl (fun ls hl => ?_)
              refine lv_goto (tgt := 22) hx hb dX2_handsThatMeet_92 (by decide) ?_
              exact ih_22 _ (by omega) (j + 1) (y + (b2n true)) _ _ _ rfl (by omega) (by rw [hy_]; first | (simp only [sumN, decide_eq_false c_71, decide_eq_false c_76, Bool.not_false, Bool.and_true]; omega) | (simp only [sumN, decide_eq_false c_71, decide_eq_true c_76, Bool.not_false, Bool.not_true, Bool.and_false]; omega) | (simp only [sumN, decide_eq_true c_71, Bool.not_true, Bool.false_and]; omega)) hP hD hS (lv_sub hl [4, 1, 5, 6, 0] rfl)
      exact LP_22 _ 0 x _ _ _ rfl (by omega) (rfl) hP hD hS (lv_sub hl [2, 3, 4, 1, 0] rfl)
  exact LP_4 _ 0 0 _ _ _ rfl (by omega) (rfl) hP hD hS (lv_sub hl [2, 1, 0] rfl)
abbrev rm_X2_differentGarlands : Room := { frames := 4, cells := 0, slots := 0, locals := 91 }
theorem ydv_X2_differentGarlands : yX2_differentGarlands.cls = RX2 ∧ yX2_differentGarlands.cls ≠ "java/lang/invoke/MethodHandle" ∧ yX2_differentGarlands.cls ≠ "java/lang/invoke/VarHandle" ∧ (parseMethodDescriptor yX2_differentGarlands.desc).map (fun d => d.parameters.length) = some 0 := by decide +kernel
theorem inf_X2_differentGarlands_X2 : ∀ w ∈ wsX20, w ∈ wsX2_differentGarlands := fun w h => List.mem_cons_of_mem _ (List.mem_append_left _ (List.mem_append_left _ (List.mem_append_right _ (h))))
set_option maxHeartbeats 4000000 in
set_option maxRecDepth 100000 in
theorem c_X2_differentGarlands (l : Launch) (D : va_G) (cA : ClassId) (k0 h0 h1 h2 : Nat) (a : Nat → Nat)  (hV : Vd a) : RO l D cA yX2_differentGarlands wsX2_differentGarlands rm_X2_differentGarlands [.ref k0] [(k0, .inr (2, [.ref h0])), (h0, .inr (4, [.ref h1])), (h1, .inr (3, [.ref h2])), (h2, .inl (cA, 286, .inl (nF a)))] (nI (cntK a)) := by
  refine ofWi (cc := cX2_differentGarlands) (maxL := 3) (rt := .int) (by decide) rfl (Nat.le_of_ble_eq_true rfl) ?_
  intro p e s m args below meth c Q A ls F hK hR hP hD hA hS hl RET
  obtain ⟨hx, hb, hml, hown, hts⟩ := id F
  have hl : lv_has ls 3 [(0, .ref k0)] := hl
  refine lv_iconst (v := nI 0) hx hb dX2_differentGarlands_0 (by decide) ?_
  refine lv_istore_n (lv' := [(1, .int (nI 0)), (0, .ref k0)]) hx hb dX2_differentGarlands_1 rfl hl (by decide) rfl (fun ls hl => ?_)
  refine lv_iconst (v := nI 0) hx hb dX2_differentGarlands_2 (by decide) ?_
  refine lv_istore_n (lv' := [(2, .int (nI 0)), (1, .int (nI 0)), (0, .ref k0)]) hx hb dX2_differentGarlands_3 rfl hl (by decide) rfl (fun ls hl => ?_)
  have LP_4 : ∀ (k_4 : Nat) (i : Nat) (x : Nat) (H : Heap) (locs : List Loc) (ls : Array Slot), 8 - i = k_4 → (i ≤ 8) → (x = sumN (fun g => b2n (inG a (nI g) && decide (lowA a g = g))) i) → va_P D vwCl [] H → va_D A [] → va_S A s.heap H locs → lv_has ls 3 [(0, .ref k0), (1, .int (nI x)), (2, .int (nI i))] → W p l e rm_X2_differentGarlands s m args below meth c H locs 0 0 Q (F0 m 4 ls []) := by
    refine sind (fun k_4 ih_4 => ?_)
    intro i x H locs ls hk_4 hi hx_ hP hD hS hl
    refine lv_iload_n hx hb dX2_differentGarlands_4 rfl (lv_at hl 2 rfl) ?_
    refine lv_bipush (v := nI 8) hx hb dX2_differentGarlands_5 (by decide) ?_
    refine nv_icmp_ge (tgt := 47) hx hb dX2_differentGarlands_7 (by decide) (by omega) (by decide) (fun c_7 => ?_) (fun c_7 => ?_)
    · refine lv_iload_n hx hb dX2_differentGarlands_47 rfl (lv_at hl 1 rfl) ?_
      refine tope (y := nI (cntK a)) (by rw [hx_, show i = 8 by omega]; rfl) ?_
      exact RET _ _ _ _ _ () dX2_differentGarlands_48 rfl rfl hP hS
    · refine lv_iload_n hx hb dX2_differentGarlands_10 rfl (lv_at hl 1 rfl) ?_
      refine lv_aload_n hx hb dX2_differentGarlands_11 rfl (lv_at hl 0 rfl) ?_
      refine va_get (D := D) (cl := vwCl) (ci := 2) (v := .ref h0) (C := RX2) (T := TX2) (N := 1) hx hb hts inf_X2_differentGarlands_X2 hown hK.1 (hR.at hS) 0 rfl rfl 0 (by decide) (hts _ (List.mem_of_getElem? (i := 1) rfl)) (fun _ h9 => h9) rfl dX2_differentGarlands_12 ?_
      refine lv_iload_n hx hb dX2_differentGarlands_15 rfl (lv_at hl 2 rfl) ?_
      refine call_r (q := (RX4, TX4, 1)) (As := [.int (nI i)]) (rest := [.int (nI x)]) F (c_X4_hasGarland l D cA h0 h1 h2 a (nI i) (fun g hg => by have := hV.1 g hg; omega)) (cwV 1 hts gX2_differentGarlands_X4_hasGarland rfl rfl rfl ydv_X4_hasGarland ⟨Nat.le_of_ble_eq_true rfl, Nat.le_of_ble_eq_true rfl⟩) hK hR hP hD hA hS [1, 2, 3] rfl rfl 1 4 rfl rfl rfl hl.1 rfl (Nat.le_of_ble_eq_true rfl) dX2_differentGarlands_16 ⟨Nat.zero_le _, Nat.zero_le _⟩ (fun H locs hP hS => ?_)
      refine bv_if_eq (tgt := 35) hx hb dX2_differentGarlands_19 (by decide) (fun c_19 => ?_) (fun c_19 => ?_)
      · refine lv_iconst (v := nI 0) hx hb dX2_differentGarlands_35 (by decide) ?_
        refine call_n (As := [.int (nI 0)]) (rest := [.int (nI x)]) F (c_X6_oneIf l D cA false) ⟨va_cnB 1 hts gX2_differentGarlands_X6_oneIf_n29 rfl rfl rfl (hK.2 _ (List.mem_of_getElem? (i := 7) rfl)) (hts _ (List.mem_of_getElem? (i := 8) rfl)) yd_X6_oneIf ⟨Nat.le_of_ble_eq_true rfl, Nat.le_of_ble_eq_true rfl⟩, (hts _ (List.mem_of_getElem? (i := 45) rfl)), trivial⟩ hK hR hP hD hA hS rfl hl.1 rfl (Nat.le_of_ble_eq_true rfl) dX2_differentGarlands_36 ⟨Nat.zero_le _, Nat.zero_le _⟩ (fun H locs hP hS => ?_)
        refine nv_iadd hx hb dX2_differentGarlands_39 ?_
        refine lv_istore_n (lv' := [(1, .int (nI (x + (b2n false)))), (0, .ref k0), (2, .int (nI i))]) hx hb dX2_differentGarlands_40 rfl hl (by decide) rfl (fun ls hl => ?_)
        refine lv_iinc (v := nI (i + 1)) (lv' := [(2, .int (nI (i + 1))), (1, .int (nI (x + (b2n false)))), (0, .ref k0)]) hx hb dX2_differentGarlands_41 hl (k := 2) rfl (nI_add _ _) (by decide) rfl (fun ls hl => ?_)
        refine lv_goto (tgt := 4) hx hb dX2_differentGarlands_44 (by decide) ?_
        exact ih_4 _ (by omega) (i + 1) (x + (b2n false)) _ _ _ rfl (by omega) (by rw [hx_]; first | (simp only [sumN, c_19, decide_eq_true c_28, Bool.and_true, Bool.true_and, Bool.false_and, Bool.and_false]; done) | (simp only [sumN, c_19, decide_eq_false c_28, Bool.and_true, Bool.true_and, Bool.false_and, Bool.and_false]; done) | (simp only [sumN, c_19, Bool.and_true, Bool.true_and, Bool.false_and, Bool.and_false]; done)) hP hD hS (lv_sub hl [2, 1, 0] rfl)
      · refine lv_aload_n hx hb dX2_differentGarlands_22 rfl (lv_at hl 0 rfl) ?_
        refine lv_iload_n hx hb dX2_differentGarlands_23 rfl (lv_at hl 2 rfl) ?_
        refine call_r (q := (RX2, TX2, 1)) (As := [.int (nI i)]) (rest := [.int (nI x)]) F (c_X2_lowestAlike l D cA k0 h0 h1 h2 a i (hV) (by omega)) (cwV 1 hts gX2_differentGarlands_X2_lowestAlike rfl rfl rfl ydv_X2_lowestAlike ⟨Nat.le_of_ble_eq_true rfl, Nat.le_of_ble_eq_true rfl⟩) hK hR hP hD hA hS [0, 1, 2, 3] rfl rfl 0 2 rfl rfl rfl hl.1 rfl (Nat.le_of_ble_eq_true rfl) dX2_differentGarlands_24 ⟨Nat.zero_le _, Nat.zero_le _⟩ (fun H locs hP hS => ?_)
        refine lv_iload_n hx hb dX2_differentGarlands_27 rfl (lv_at hl 2 rfl) ?_
        refine nv_icmp_ne (tgt := 35) hx hb dX2_differentGarlands_28 (by decide) (by have := lst_le (P := fun o => same a i o || mird a i o) i 0; unfold lowA; omega) (by omega) (fun c_28 => ?_) (fun c_28 => ?_)
        · refine lv_iconst (v := nI 0) hx hb dX2_differentGarlands_35 (by decide) ?_
          refine call_n (As := [.int (nI 0)]) (rest := [.int (nI x)]) F (c_X6_oneIf l D cA false) ⟨va_cnB 1 hts gX2_differentGarlands_X6_oneIf_n29 rfl rfl rfl (hK.2 _ (List.mem_of_getElem? (i := 7) rfl)) (hts _ (List.mem_of_getElem? (i := 8) rfl)) yd_X6_oneIf ⟨Nat.le_of_ble_eq_true rfl, Nat.le_of_ble_eq_true rfl⟩, (hts _ (List.mem_of_getElem? (i := 45) rfl)), trivial⟩ hK hR hP hD hA hS rfl hl.1 rfl (Nat.le_of_ble_eq_true rfl) dX2_differentGarlands_36 ⟨Nat.zero_le _, Nat.zero_le _⟩ (fun H locs hP hS => ?_)
          refine nv_iadd hx hb dX2_differentGarlands_39 ?_
          refine lv_istore_n (lv' := [(1, .int (nI (x + (b2n false)))), (0, .ref k0), (2, .int (nI i))]) hx hb dX2_differentGarlands_40 rfl hl (by decide) rfl (fun ls hl => ?_)
          refine lv_iinc (v := nI (i + 1)) (lv' := [(2, .int (nI (i + 1))), (1, .int (nI (x + (b2n false)))), (0, .ref k0)]) hx hb dX2_differentGarlands_41 hl (k := 2) rfl (nI_add _ _) (by decide) rfl (fun ls hl => ?_)
          refine lv_goto (tgt := 4) hx hb dX2_differentGarlands_44 (by decide) ?_
          exact ih_4 _ (by omega) (i + 1) (x + (b2n false)) _ _ _ rfl (by omega) (by rw [hx_]; first | (simp only [sumN, c_19, decide_eq_true c_28, Bool.and_true, Bool.true_and, Bool.false_and, Bool.and_false]; done) | (simp only [sumN, c_19, decide_eq_false c_28, Bool.and_true, Bool.true_and, Bool.false_and, Bool.and_false]; done) | (simp only [sumN, c_19, Bool.and_true, Bool.true_and, Bool.false_and, Bool.and_false]; done)) hP hD hS (lv_sub hl [2, 1, 0] rfl)
        · refine lv_iconst (v := nI 1) hx hb dX2_differentGarlands_31 (by decide) ?_
          refine lv_goto (tgt := 36) hx hb dX2_differentGarlands_32 (by decide) ?_
          refine call_n (As := [.int (nI 1)]) (rest := [.int (nI x)]) F (c_X6_oneIf l D cA true) ⟨va_cnB 1 hts gX2_differentGarlands_X6_oneIf_n29 rfl rfl rfl (hK.2 _ (List.mem_of_getElem? (i := 7) rfl)) (hts _ (List.mem_of_getElem? (i := 8) rfl)) yd_X6_oneIf ⟨Nat.le_of_ble_eq_true rfl, Nat.le_of_ble_eq_true rfl⟩, (hts _ (List.mem_of_getElem? (i := 45) rfl)), trivial⟩ hK hR hP hD hA hS rfl hl.1 rfl (Nat.le_of_ble_eq_true rfl) dX2_differentGarlands_36 ⟨Nat.zero_le _, Nat.zero_le _⟩ (fun H locs hP hS => ?_)
          refine nv_iadd hx hb dX2_differentGarlands_39 ?_
          refine lv_istore_n (lv' := [(1, .int (nI (x + (b2n true)))), (0, .ref k0), (2, .int (nI i))]) hx hb dX2_differentGarlands_40 rfl hl (by decide) rfl (fun ls hl => ?_)
          refine lv_iinc (v := nI (i + 1)) (lv' := [(2, .int (nI (i + 1))), (1, .int (nI (x + (b2n true)))), (0, .ref k0)]) hx hb dX2_differentGarlands_41 hl (k := 2) rfl (nI_add _ _) (by decide) rfl (fun ls hl => ?_)
          refine lv_goto (tgt := 4) hx hb dX2_differentGarlands_44 (by decide) ?_
          exact ih_4 _ (by omega) (i + 1) (x + (b2n true)) _ _ _ rfl (by omega) (by rw [hx_]; first | (simp only [sumN, c_19, decide_eq_true c_28, Bool.and_true, Bool.true_and, Bool.false_and, Bool.and_false]; done) | (simp only [sumN, c_19, decide_eq_false c_28, Bool.and_true, Bool.true_and, Bool.false_and, Bool.and_false]; done) | (simp only [sumN, c_19, Bool.and_true, Bool.true_and, Bool.false_and, Bool.and_false]; done)) hP hD hS (lv_sub hl [2, 1, 0] rfl)
  exact LP_4 _ 0 0 _ _ _ rfl (by omega) (rfl) hP hD hS (lv_sub hl [2, 1, 0] rfl)
