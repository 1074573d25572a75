/-! laid by a program: contracts of X0_holds, X0_followersOf, X0_leadersOf, X0_followersOfAny, X0_fewestBetween, X0_endingsAheadOf, X0_countEndings, X0_garlandsOf, X0_ownMirrorsOf -/
abbrev rm_X0_holds : Room := { frames := 0, cells := 0, slots := 0, locals := 0 }
theorem yd_X0_holds : yX0_holds.cls ≠ "java/lang/invoke/MethodHandle" ∧ yX0_holds.cls ≠ "java/lang/invoke/VarHandle" ∧ (parseMethodDescriptor yX0_holds.desc).map (fun d => d.parameters.length) = some 2 := by decide +kernel
set_option maxHeartbeats 4000000 in
set_option maxRecDepth 100000 in
theorem c_X0_holds (l : Launch) (D : va_G) (cA : ClassId) (x d : Nat) (hx_ : x < 2 ^ 31) (hd : d < 32) : RO l D cA yX0_holds wsX0_holds rm_X0_holds [.int (nI x), .int (nI d)] [] (bI (bit x d)) := by
  refine ofWi (cc := cX0_holds) (maxL := 2) (rt := .boolean) (by decide) rfl (Nat.le_of_ble_eq_true rfl) ?_
  intro p e s m args below meth c Q A ls F hK hR hP hD hA hS hl RET
  obtain ⟨hx, hb, hml, hown, hts⟩ := id F
  have hl : lv_has ls 2 [(0, .int (nI x)), (1, .int (nI d))] := hl
  refine lv_iload_n hx hb dX0_holds_0 rfl (lv_at hl 0 rfl) ?_
  refine lv_iload_n hx hb dX0_holds_1 rfl (lv_at hl 1 rfl) ?_
  refine nv_ishr hx hb dX0_holds_2 (hx_) (hd) ?_
  refine lv_iconst (v := nI 1) hx hb dX0_holds_3 (by decide) ?_
  refine nv_and1 hx hb dX0_holds_4 (Nat.lt_of_le_of_lt (Nat.div_le_self _ _) hx_) ?_
  refine lv_iconst (v := nI 1) hx hb dX0_holds_5 (by decide) ?_
  refine nv_icmp_ne (tgt := 13) hx hb dX0_holds_6 (by decide) (by omega) (by decide) (fun c_6 => ?_) (fun c_6 => ?_)
  · refine lv_iconst (v := nI 0) hx hb dX0_holds_13 (by decide) ?_
    refine tope (y := bI (bit x d)) (by first | exact bI_f (decide_eq_false c_6) | exact bI_t (decide_eq_true c_6)) ?_
    exact RET _ _ _ _ _ () dX0_holds_14 (nbI _) rfl hP hS
  · refine lv_iconst (v := nI 1) hx hb dX0_holds_9 (by decide) ?_
    refine lv_goto (tgt := 14) hx hb dX0_holds_10 (by decide) ?_
    refine tope (y := bI (bit x d)) (by first | exact bI_f (decide_eq_false c_6) | exact bI_t (decide_eq_true c_6)) ?_
    exact RET _ _ _ _ _ () dX0_holds_14 (nbI _) rfl hP hS
abbrev rm_X0_followersOf : Room := { frames := 3, cells := 0, slots := 0, locals := 67 }
theorem ydv_X0_followersOf : yX0_followersOf.cls = RX0 ∧ yX0_followersOf.cls ≠ "java/lang/invoke/MethodHandle" ∧ yX0_followersOf.cls ≠ "java/lang/invoke/VarHandle" ∧ (parseMethodDescriptor yX0_followersOf.desc).map (fun d => d.parameters.length) = some 1 := by decide +kernel
theorem inf_X0_followersOf_X0 : ∀ w ∈ wsX00, w ∈ wsX0_followersOf := fun w h => List.mem_cons_of_mem _ (List.mem_append_left _ (List.mem_append_left _ (List.mem_append_right _ (h))))
set_option maxHeartbeats 4000000 in
set_option maxRecDepth 100000 in
theorem c_X0_followersOf (l : Launch) (D : va_G) (cA : ClassId) (q0 f0 e0 l0 h0 h1 h2 : Nat) (a : Nat → Nat) (d : Nat) (hV : Vd a) (hd : d < 20) : RO l D cA yX0_followersOf wsX0_followersOf rm_X0_followersOf [.ref q0, .int (nI d)] [(q0, .inr (0, [.ref h0, .ref f0, .ref e0, .ref l0])), (h0, .inr (4, [.ref h1])), (h1, .inr (3, [.ref h2])), (h2, .inl (cA, 286, .inl (nF a)))] (nI (fol a d)) := by
  refine ofWi (cc := cX0_followersOf) (maxL := 5) (rt := .int) (by decide) rfl (Nat.le_of_ble_eq_true rfl) ?_
  intro p e s m args below meth c Q A ls F hK hR hP hD hA hS hl RET
  obtain ⟨hx, hb, hml, hown, hts⟩ := id F
  have hl : lv_has ls 5 [(0, .ref q0), (1, .int (nI d))] := hl
  have hk_ := hV.k
  refine lv_aload_n hx hb dX0_followersOf_0 rfl (lv_at hl 0 rfl) ?_
  refine va_get (D := D) (cl := vwCl) (ci := 0) (v := .ref h0) (C := RX0) (T := TX0) (N := 4) hx hb hts inf_X0_followersOf_X0 hown hK.1 (hR.at hS) 0 rfl rfl 0 (by decide) (hts _ (List.mem_of_getElem? (i := 1) rfl)) (fun _ h9 => h9) rfl dX0_followersOf_1 ?_
  refine call_r (q := (RX4, TX4, 1)) (As := []) (rest := []) F (c_X4_dollsToCut l D cA h0 h1 h2 a) (cwV 0 hts gX0_followersOf_X4_dollsToCut rfl rfl rfl ydv_X4_dollsToCut ⟨Nat.le_of_ble_eq_true rfl, Nat.le_of_ble_eq_true rfl⟩) hK hR hP hD hA hS [1, 2, 3] rfl rfl 1 4 rfl rfl rfl hl.1 rfl (Nat.le_of_ble_eq_true rfl) dX0_followersOf_4 ⟨Nat.zero_le _, Nat.zero_le _⟩ (fun H locs hP hS => ?_)
  refine lv_istore_n (lv' := [(2, .int (nI (2 * a 1))), (0, .ref q0), (1, .int (nI d))]) hx hb dX0_followersOf_7 rfl hl (by decide) rfl (fun ls hl => ?_)
  refine lv_iconst (v := nI 0) hx hb dX0_followersOf_8 (by decide) ?_
  refine lv_istore_n (lv' := [(3, .int (nI 0)), (2, .int (nI (2 * a 1))), (0, .ref q0), (1, .int (nI d))]) hx hb dX0_followersOf_9 rfl hl (by decide) rfl (fun ls hl => ?_)
  refine lv_iconst (v := nI 0) hx hb dX0_followersOf_10 (by decide) ?_
  refine lv_istore (lv' := [(4, .int (nI 0)), (3, .int (nI 0)), (2, .int (nI (2 * a 1))), (0, .ref q0), (1, .int (nI d))]) hx hb dX0_followersOf_11 hl (by decide) rfl (fun ls hl => ?_)
  have LP_13 : ∀ (k_13 : Nat) (i : Nat) (x : Nat) (H : Heap) (locs : List Loc) (ls : Array Slot), 2 * a 1 - i = k_13 → (i ≤ 2 * a 1) → (x = orN (fun j => if cl a d j then 0 else 2 ^ j) i) → va_P D vwCl [] H → va_D A [] → va_S A s.heap H locs → lv_has ls 5 [(0, .ref q0), (1, .int (nI d)), (2, .int (nI (2 * a 1))), (3, .int (nI x)), (4, .int (nI i))] → W p l e rm_X0_followersOf s m args below meth c H locs 0 0 Q (F0 m 13 ls []) := by
    refine sind (fun k_13 ih_13 => ?_)
    intro i x H locs ls hk_13 hi hx_ hP hD hS hl
    refine lv_iload hx hb dX0_followersOf_13 (lv_at hl 4 rfl) ?_
    refine lv_iload_n hx hb dX0_followersOf_15 rfl (lv_at hl 2 rfl) ?_
    refine nv_icmp_ge (tgt := 45) hx hb dX0_followersOf_16 (by decide) (by omega) (by omega) (fun c_16 => ?_) (fun c_16 => ?_)
    · refine lv_iload_n hx hb dX0_followersOf_45 rfl (lv_at hl 3 rfl) ?_
      refine tope (y := nI (fol a d)) (by rw [hx_, show i = 2 * a 1 by omega]; rfl) ?_
      exact RET _ _ _ _ _ () dX0_followersOf_46 rfl rfl hP hS
    · refine lv_aload_n hx hb dX0_followersOf_19 rfl (lv_at hl 0 rfl) ?_
      refine va_get (D := D) (cl := vwCl) (ci := 0) (v := .ref h0) (C := RX0) (T := TX0) (N := 4) hx hb hts inf_X0_followersOf_X0 hown hK.1 (hR.at hS) 0 rfl rfl 0 (by decide) (hts _ (List.mem_of_getElem? (i := 1) rfl)) (fun _ h9 => h9) rfl dX0_followersOf_20 ?_
      refine lv_iload_n hx hb dX0_followersOf_23 rfl (lv_at hl 1 rfl) ?_
      refine lv_iload hx hb dX0_followersOf_24 (lv_at hl 4 rfl) ?_
      refine call_r (q := (RX4, TX4, 1)) (As := [.int (nI d), .int (nI i)]) (rest := []) F (c_X4_clash l D cA h0 h1 h2 a d i (hV.r) (by omega) (by omega) (hV)) (cwV 2 hts gX0_followersOf_X4_clash rfl rfl rfl ydv_X4_clash ⟨Nat.le_of_ble_eq_true rfl, Nat.le_of_ble_eq_true rfl⟩) hK hR hP hD hA hS [1, 2, 3] rfl rfl 1 4 rfl rfl rfl hl.1 rfl (Nat.le_of_ble_eq_true rfl) dX0_followersOf_26 ⟨Nat.zero_le _, Nat.zero_le _⟩ (fun H locs hP hS => ?_)
      refine bv_if_ne (tgt := 39) hx hb dX0_followersOf_29 (by decide) (fun c_29 => ?_) (fun c_29 => ?_)
      · refine lv_iinc (v := nI (i + 1)) (lv' := [(4, .int (nI (i + 1))), (0, .ref q0), (1, .int (nI d)), (2, .int (nI (2 * a 1))), (3, .int (nI x))]) hx hb dX0_followersOf_39 hl (k := 4) rfl (nI_add _ _) (by decide) rfl (fun ls hl => ?_)
        refine lv_goto (tgt := 13) hx hb dX0_followersOf_42 (by decide) ?_
        exact ih_13 _ (by omega) (i + 1) x _ _ _ rfl (by omega) (by rw [hx_]; simp [orN, c_29]) hP hD hS (lv_sub hl [1, 2, 3, 4, 0] rfl)
      · refine lv_iload_n hx hb dX0_followersOf_32 rfl (lv_at hl 3 rfl) ?_
        refine lv_iconst (v := nI 1) hx hb dX0_followersOf_33 (by decide) ?_
        refine lv_iload hx hb dX0_followersOf_34 (lv_at hl 4 rfl) ?_
        refine nv_ishl1 hx hb dX0_followersOf_36 (by omega) ?_
        refine nv_ior hx hb dX0_followersOf_37 ?_
        refine lv_istore_n (lv' := [(3, .int (nI (x ||| (2 ^ i)))), (0, .ref q0), (1, .int (nI d)), (2, .int (nI (2 * a 1))), (4, .int (nI i))]) hx hb dX0_followersOf_38 rfl hl (by decide) rfl (fun ls hl => ?_)
        refine lv_iinc (v := nI (i + 1)) (lv' := [(4, .int (nI (i + 1))), (3, .int (nI (x ||| (2 ^ i)))), (0, .ref q0), (1, .int (nI d)), (2, .int (nI (2 * a 1)))]) hx hb dX0_followersOf_39 hl (k := 4) rfl (nI_add _ _) (by decide) rfl (fun ls hl => ?_)
        refine lv_goto (tgt := 13) hx hb dX0_followersOf_42 (by decide) ?_
        exact ih_13 _ (by omega) (i + 1) (x ||| (2 ^ i)) _ _ _ rfl (by omega) (by rw [hx_]; simp [orN, c_29]) hP hD hS (lv_sub hl [2, 3, 4, 1, 0] rfl)
  exact LP_13 _ 0 0 _ _ _ rfl (by omega) (rfl) hP hD hS (lv_sub hl [3, 4, 2, 1, 0] rfl)
abbrev rm_X0_leadersOf : Room := { frames := 3, cells := 0, slots := 0, locals := 67 }
theorem ydv_X0_leadersOf : yX0_leadersOf.cls = RX0 ∧ yX0_leadersOf.cls ≠ "java/lang/invoke/MethodHandle" ∧ yX0_leadersOf.cls ≠ "java/lang/invoke/VarHandle" ∧ (parseMethodDescriptor yX0_leadersOf.desc).map (fun d => d.parameters.length) = some 1 := by decide +kernel
theorem inf_X0_leadersOf_X0 : ∀ w ∈ wsX00, w ∈ wsX0_leadersOf := fun w h => List.mem_cons_of_mem _ (List.mem_append_left _ (List.mem_append_left _ (List.mem_append_right _ (h))))
set_option maxHeartbeats 4000000 in
set_option maxRecDepth 100000 in
theorem c_X0_leadersOf (l : Launch) (D : va_G) (cA : ClassId) (q0 f0 e0 l0 h0 h1 h2 : Nat) (a : Nat → Nat) (d : Nat) (hV : Vd a) (hd : d < 20) : RO l D cA yX0_leadersOf wsX0_leadersOf rm_X0_leadersOf [.ref q0, .int (nI d)] [(q0, .inr (0, [.ref h0, .ref f0, .ref e0, .ref l0])), (h0, .inr (4, [.ref h1])), (h1, .inr (3, [.ref h2])), (h2, .inl (cA, 286, .inl (nF a)))] (nI (led a d)) := by
  refine ofWi (cc := cX0_leadersOf) (maxL := 5) (rt := .int) (by decide) rfl (Nat.le_of_ble_eq_true rfl) ?_
  intro p e s m args below meth c Q A ls F hK hR hP hD hA hS hl RET
  obtain ⟨hx, hb, hml, hown, hts⟩ := id F
  have hl : lv_has ls 5 [(0, .ref q0), (1, .int (nI d))] := hl
  have hk_ := hV.k
  refine lv_aload_n hx hb dX0_leadersOf_0 rfl (lv_at hl 0 rfl) ?_
  refine va_get (D := D) (cl := vwCl) (ci := 0) (v := .ref h0) (C := RX0) (T := TX0) (N := 4) hx hb hts inf_X0_leadersOf_X0 hown hK.1 (hR.at hS) 0 rfl rfl 0 (by decide) (hts _ (List.mem_of_getElem? (i := 1) rfl)) (fun _ h9 => h9) rfl dX0_leadersOf_1 ?_
  refine call_r (q := (RX4, TX4, 1)) (As := []) (rest := []) F (c_X4_dollsToCut l D cA h0 h1 h2 a) (cwV 0 hts gX0_leadersOf_X4_dollsToCut rfl rfl rfl ydv_X4_dollsToCut ⟨Nat.le_of_ble_eq_true rfl, Nat.le_of_ble_eq_true rfl⟩) hK hR hP hD hA hS [1, 2, 3] rfl rfl 1 4 rfl rfl rfl hl.1 rfl (Nat.le_of_ble_eq_true rfl) dX0_leadersOf_4 ⟨Nat.zero_le _, Nat.zero_le _⟩ (fun H locs hP hS => ?_)
  refine lv_istore_n (lv' := [(2, .int (nI (2 * a 1))), (0, .ref q0), (1, .int (nI d))]) hx hb dX0_leadersOf_7 rfl hl (by decide) rfl (fun ls hl => ?_)
  refine lv_iconst (v := nI 0) hx hb dX0_leadersOf_8 (by decide) ?_
  refine lv_istore_n (lv' := [(3, .int (nI 0)), (2, .int (nI (2 * a 1))), (0, .ref q0), (1, .int (nI d))]) hx hb dX0_leadersOf_9 rfl hl (by decide) rfl (fun ls hl => ?_)
  refine lv_iconst (v := nI 0) hx hb dX0_leadersOf_10 (by decide) ?_
  refine lv_istore (lv' := [(4, .int (nI 0)), (3, .int (nI 0)), (2, .int (nI (2 * a 1))), (0, .ref q0), (1, .int (nI d))]) hx hb dX0_leadersOf_11 hl (by decide) rfl (fun ls hl => ?_)
  have LP_13 : ∀ (k_13 : Nat) (i : Nat) (x : Nat) (H : Heap) (locs : List Loc) (ls : Array Slot), 2 * a 1 - i = k_13 → (i ≤ 2 * a 1) → (x = orN (fun j => if cl a j d then 0 else 2 ^ j) i) → va_P D vwCl [] H → va_D A [] → va_S A s.heap H locs → lv_has ls 5 [(0, .ref q0), (1, .int (nI d)), (2, .int (nI (2 * a 1))), (3, .int (nI x)), (4, .int (nI i))] → W p l e rm_X0_leadersOf s m args below meth c H locs 0 0 Q (F0 m 13 ls []) := by
    refine sind (fun k_13 ih_13 => ?_)
    intro i x H locs ls hk_13 hi hx_ hP hD hS hl
    refine lv_iload hx hb dX0_leadersOf_13 (lv_at hl 4 rfl) ?_
    refine lv_iload_n hx hb dX0_leadersOf_15 rfl (lv_at hl 2 rfl) ?_
    refine nv_icmp_ge (tgt := 45) hx hb dX0_leadersOf_16 (by decide) (by omega) (by omega) (fun c_16 => ?_) (fun c_16 => ?_)
    · refine lv_iload_n hx hb dX0_leadersOf_45 rfl (lv_at hl 3 rfl) ?_
      refine tope (y := nI (led a d)) (by rw [hx_, show i = 2 * a 1 by omega]; rfl) ?_
      exact RET _ _ _ _ _ () dX0_leadersOf_46 rfl rfl hP hS
    · refine lv_aload_n hx hb dX0_leadersOf_19 rfl (lv_at hl 0 rfl) ?_
      refine va_get (D := D) (cl := vwCl) (ci := 0) (v := .ref h0) (C := RX0) (T := TX0) (N := 4) hx hb hts inf_X0_leadersOf_X0 hown hK.1 (hR.at hS) 0 rfl rfl 0 (by decide) (hts _ (List.mem_of_getElem? (i := 1) rfl)) (fun _ h9 => h9) rfl dX0_leadersOf_20 ?_
      refine lv_iload hx hb dX0_leadersOf_23 (lv_at hl 4 rfl) ?_
      refine lv_iload_n hx hb dX0_leadersOf_25 rfl (lv_at hl 1 rfl) ?_
      refine call_r (q := (RX4, TX4, 1)) (As := [.int (nI i), .int (nI d)]) (rest := []) F (c_X4_clash l D cA h0 h1 h2 a i d (hV.r) (by omega) (by omega) (hV)) (cwV 2 hts gX0_leadersOf_X4_clash rfl rfl rfl ydv_X4_clash ⟨Nat.le_of_ble_eq_true rfl, Nat.le_of_ble_eq_true rfl⟩) hK hR hP hD hA hS [1, 2, 3] rfl rfl 1 4 rfl rfl rfl hl.1 rfl (Nat.le_of_ble_eq_true rfl) dX0_leadersOf_26 ⟨Nat.zero_le _, Nat.zero_le _⟩ (fun H locs hP hS => ?_)
      refine bv_if_ne (tgt := 39) hx hb dX0_leadersOf_29 (by decide) (fun c_29 => ?_) (fun c_29 => ?_)
      · refine lv_iinc (v := nI (i + 1)) (lv' := [(4, .int (nI (i + 1))), (0, .ref q0), (1, .int (nI d)), (2, .int (nI (2 * a 1))), (3, .int (nI x))]) hx hb dX0_leadersOf_39 hl (k := 4) rfl (nI_add _ _) (by decide) rfl (fun ls hl => ?_)
        refine lv_goto (tgt := 13) hx hb dX0_leadersOf_42 (by decide) ?_
        exact ih_13 _ (by omega) (i + 1) x _ _ _ rfl (by omega) (by rw [hx_]; simp [orN, c_29]) hP hD hS (lv_sub hl [1, 2, 3, 4, 0] rfl)
      · refine lv_iload_n hx hb dX0_leadersOf_32 rfl (lv_at hl 3 rfl) ?_
        refine lv_iconst (v := nI 1) hx hb dX0_leadersOf_33 (by decide) ?_
        refine lv_iload hx hb dX0_leadersOf_34 (lv_at hl 4 rfl) ?_
        refine nv_ishl1 hx hb dX0_leadersOf_36 (by omega) ?_
        refine nv_ior hx hb dX0_leadersOf_37 ?_
        refine lv_istore_n (lv' := [(3, .int (nI (x ||| (2 ^ i)))), (0, .ref q0), (1, .int (nI d)), (2, .int (nI (2 * a 1))), (4, .int (nI i))]) hx hb dX0_leadersOf_38 rfl hl (by decide) rfl (fun ls hl => ?_)
        refine lv_iinc (v := nI (i + 1)) (lv' := [(4, .int (nI (i + 1))), (3, .int (nI (x ||| (2 ^ i)))), (0, .ref q0), (1, .int (nI d)), (2, .int (nI (2 * a 1)))]) hx hb dX0_leadersOf_39 hl (k := 4) rfl (nI_add _ _) (by decide) rfl (fun ls hl => ?_)
        refine lv_goto (tgt := 13) hx hb dX0_leadersOf_42 (by decide) ?_
        exact ih_13 _ (by omega) (i + 1) (x ||| (2 ^ i)) _ _ _ rfl (by omega) (by rw [hx_]; simp [orN, c_29]) hP hD hS (lv_sub hl [2, 3, 4, 1, 0] rfl)
  exact LP_13 _ 0 0 _ _ _ rfl (by omega) (rfl) hP hD hS (lv_sub hl [3, 4, 2, 1, 0] rfl)
abbrev rm_X0_followersOfAny : Room := { frames := 4, cells := 0, slots := 0, locals := 91 }
theorem ydv_X0_followersOfAny : yX0_followersOfAny.cls = RX0 ∧ yX0_followersOfAny.cls ≠ "java/lang/invoke/MethodHandle" ∧ yX0_followersOfAny.cls ≠ "java/lang/invoke/VarHandle" ∧ (parseMethodDescriptor yX0_followersOfAny.desc).map (fun d => d.parameters.length) = some 1 := by decide +kernel
theorem inf_X0_followersOfAny_X0 : ∀ w ∈ wsX00, w ∈ wsX0_followersOfAny := fun w h => List.mem_cons_of_mem _ (List.mem_append_left _ (List.mem_append_left _ (List.mem_append_right _ (h))))
set_option maxHeartbeats 4000000 in
set_option maxRecDepth 100000 in
theorem c_X0_followersOfAny (l : Launch) (D : va_G) (cA : ClassId) (q0 f0 e0 l0 h0 h1 h2 : Nat) (a : Nat → Nat) (y : Nat) (hV : Vd a) (hy : y < 2 ^ 31) : RO l D cA yX0_followersOfAny wsX0_followersOfAny rm_X0_followersOfAny [.ref q0, .int (nI y)] [(q0, .inr (0, [.ref h0, .ref f0, .ref e0, .ref l0])), (h0, .inr (4, [.ref h1])), (h1, .inr (3, [.ref h2])), (h2, .inl (cA, 286, .inl (nF a)))] (nI (folA a y)) := by
  refine ofWi (cc := cX0_followersOfAny) (maxL := 5) (rt := .int) (by decide) rfl (Nat.le_of_ble_eq_true rfl) ?_
  intro p e s m args below meth c Q A ls F hK hR hP hD hA hS hl RET
  obtain ⟨hx, hb, hml, hown, hts⟩ := id F
  have hl : lv_has ls 5 [(0, .ref q0), (1, .int (nI y))] := hl
  have hk_ := hV.k
  refine lv_aload_n hx hb dX0_followersOfAny_0 rfl (lv_at hl 0 rfl) ?_
  refine va_get (D := D) (cl := vwCl) (ci := 0) (v := .ref h0) (C := RX0) (T := TX0) (N := 4) hx hb hts inf_X0_followersOfAny_X0 hown hK.1 (hR.at hS) 0 rfl rfl 0 (by decide) (hts _ (List.mem_of_getElem? (i := 1) rfl)) (fun _ h9 => h9) rfl dX0_followersOfAny_1 ?_
  refine call_r (q := (RX4, TX4, 1)) (As := []) (rest := []) F (c_X4_dollsToCut l D cA h0 h1 h2 a) (cwV 0 hts gX0_followersOfAny_X4_dollsToCut rfl rfl rfl ydv_X4_dollsToCut ⟨Nat.le_of_ble_eq_true rfl, Nat.le_of_ble_eq_true rfl⟩) hK hR hP hD hA hS [1, 2, 3] rfl rfl 1 4 rfl rfl rfl hl.1 rfl (Nat.le_of_ble_eq_true rfl) dX0_followersOfAny_4 ⟨Nat.zero_le _, Nat.zero_le _⟩ (fun H locs hP hS => ?_)
  refine lv_istore_n (lv' := [(2, .int (nI (2 * a 1))), (0, .ref q0), (1, .int (nI y))]) hx hb dX0_followersOfAny_7 rfl hl (by decide) rfl (fun ls hl => ?_)
  refine lv_iconst (v := nI 0) hx hb dX0_followersOfAny_8 (by decide) ?_
  refine lv_istore_n (lv' := [(3, .int (nI 0)), (2, .int (nI (2 * a 1))), (0, .ref q0), (1, .int (nI y))]) hx hb dX0_followersOfAny_9 rfl hl (by decide) rfl (fun ls hl => ?_)
  refine lv_iconst (v := nI 0) hx hb dX0_followersOfAny_10 (by decide) ?_
  refine lv_istore (lv' := [(4, .int (nI 0)), (3, .int (nI 0)), (2, .int (nI (2 * a 1))), (0, .ref q0), (1, .int (nI y))]) hx hb dX0_followersOfAny_11 hl (by decide) rfl (fun ls hl => ?_)
  have LP_13 : ∀ (k_13 : Nat) (i : Nat) (x : Nat) (H : Heap) (locs : List Loc) (ls : Array Slot), 2 * a 1 - i = k_13 → (i ≤ 2 * a 1) → (x = orN (fun j => if bit y j then fol a j else 0) i) → va_P D vwCl [] H → va_D A [] → va_S A s.heap H locs → lv_has ls 5 [(0, .ref q0), (1, .int (nI y)), (2, .int (nI (2 * a 1))), (3, .int (nI x)), (4, .int (nI i))] → W p l e rm_X0_followersOfAny s m args below meth c H locs 0 0 Q (F0 m 13 ls []) := by
    refine sind (fun k_13 ih_13 => ?_)
    intro i x H locs ls hk_13 hi hx_ hP hD hS hl
    refine lv_iload hx hb dX0_followersOfAny_13 (lv_at hl 4 rfl) ?_
    refine lv_iload_n hx hb dX0_followersOfAny_15 rfl (lv_at hl 2 rfl) ?_
    refine nv_icmp_ge (tgt := 43) hx hb dX0_followersOfAny_16 (by decide) (by omega) (by omega) (fun c_16 => ?_) (fun c_16 => ?_)
    · refine lv_iload_n hx hb dX0_followersOfAny_43 rfl (lv_at hl 3 rfl) ?_
      refine tope (y := nI (folA a y)) (by rw [hx_, show i = 2 * a 1 by omega]; rfl) ?_
      exact RET _ _ _ _ _ () dX0_followersOfAny_44 rfl rfl hP hS
    · refine lv_iload_n hx hb dX0_followersOfAny_19 rfl (lv_at hl 1 rfl) ?_
      refine lv_iload hx hb dX0_followersOfAny_20 (lv_at hl 4 rfl) ?_
      refine call_s (As := [.int (nI y), .int (nI i)]) (rest := []) F (c_X0_holds l D cA y i (by omega) (by omega)) (va_cwS 2 hts gX0_followersOfAny_X0_holds rfl rfl rfl yd_X0_holds ⟨Nat.le_of_ble_eq_true rfl, Nat.le_of_ble_eq_true rfl⟩) hK hR hP hD hA hS rfl hl.1 rfl (Nat.le_of_ble_eq_true rfl) dX0_followersOfAny_22 ⟨Nat.zero_le _, Nat.zero_le _⟩ (fun H locs hP hS => ?_)
      refine bv_if_eq (tgt := 37) hx hb dX0_followersOfAny_25 (by decide) (fun c_25 => ?_) (fun c_25 => ?_)
      · refine lv_iinc (v := nI (i + 1)) (lv' := [(4, .int (nI (i + 1))), (0, .ref q0), (1, .int (nI y)), (2, .int (nI (2 * a 1))), (3, .int (nI x))]) hx hb dX0_followersOfAny_37 hl (k := 4) rfl (nI_add _ _) (by decide) rfl (fun ls hl => ?_)
        refine lv_goto (tgt := 13) hx hb dX0_followersOfAny_40 (by decide) ?_
        exact ih_13 _ (by omega) (i + 1) x _ _ _ rfl (by omega) (by rw [hx_]; simp [orN, c_25]) hP hD hS (lv_sub hl [1, 2, 3, 4, 0] rfl)
      · refine lv_iload_n hx hb dX0_followersOfAny_28 rfl (lv_at hl 3 rfl) ?_
        refine lv_aload_n hx hb dX0_followersOfAny_29 rfl (lv_at hl 0 rfl) ?_
        refine lv_iload hx hb dX0_followersOfAny_30 (lv_at hl 4 rfl) ?_
        refine call_r (q := (RX0, TX0, 4)) (As := [.int (nI i)]) (rest := [.int (nI x)]) F (c_X0_followersOf l D cA q0 f0 e0 l0 h0 h1 h2 a i (hV) (by omega)) (cwV 1 hts gX0_followersOfAny_X0_followersOf rfl rfl rfl ydv_X0_followersOf ⟨Nat.le_of_ble_eq_true rfl, Nat.le_of_ble_eq_true rfl⟩) hK hR hP hD hA hS [0, 1, 2, 3] rfl rfl 0 0 rfl rfl rfl hl.1 rfl (Nat.le_of_ble_eq_true rfl) dX0_followersOfAny_32 ⟨Nat.zero_le _, Nat.zero_le _⟩ (fun H locs hP hS => ?_)
        refine nv_ior hx hb dX0_followersOfAny_35 ?_
        refine lv_istore_n (lv' := [(3, .int (nI (x ||| (fol a i)))), (0, .ref q0), (1, .int (nI y)), (2, .int (nI (2 * a 1))), (4, .int (nI i))]) hx hb dX0_followersOfAny_36 rfl hl (by decide) rfl (fun ls hl => ?_)
        refine lv_iinc (v := nI (i + 1)) (lv' := [(4, .int (nI (i + 1))), (3, .int (nI (x ||| (fol a i)))), (0, .ref q0), (1, .int (nI y)), (2, .int (nI (2 * a 1)))]) hx hb dX0_followersOfAny_37 hl (k := 4) rfl (nI_add _ _) (by decide) rfl (fun ls hl => ?_)
        refine lv_goto (tgt := 13) hx hb dX0_followersOfAny_40 (by decide) ?_
        exact ih_13 _ (by omega) (i + 1) (x ||| (fol a i)) _ _ _ rfl (by omega) (by rw [hx_]; simp [orN, c_25]) hP hD hS (lv_sub hl [2, 3, 4, 1, 0] rfl)
  exact LP_13 _ 0 0 _ _ _ rfl (by omega) (rfl) hP hD hS (lv_sub hl [3, 4, 2, 1, 0] rfl)
abbrev rm_X0_fewestBetween : Room := { frames := 5, cells := 0, slots := 0, locals := 115 }
theorem ydv_X0_fewestBetween : yX0_fewestBetween.cls = RX0 ∧ yX0_fewestBetween.cls ≠ "java/lang/invoke/MethodHandle" ∧ yX0_fewestBetween.cls ≠ "java/lang/invoke/VarHandle" ∧ (parseMethodDescriptor yX0_fewestBetween.desc).map (fun d => d.parameters.length) = some 2 := by decide +kernel
theorem inf_X0_fewestBetween_X0 : ∀ w ∈ wsX00, w ∈ wsX0_fewestBetween := fun w h => List.mem_cons_of_mem _ (List.mem_append_left _ (List.mem_append_left _ (List.mem_append_right _ (h))))
set_option maxHeartbeats 4000000 in
set_option maxRecDepth 100000 in
theorem c_X0_fewestBetween (l : Launch) (D : va_G) (cA : ClassId) (q0 f0 e0 l0 h0 h1 h2 : Nat) (a : Nat → Nat) (d d2 : Nat) (hV : Vd a) (hd : d < 20) (hd2 : d2 < 20) : RO l D cA yX0_fewestBetween wsX0_fewestBetween rm_X0_fewestBetween [.ref q0, .int (nI d), .int (nI d2)] [(q0, .inr (0, [.ref h0, .ref f0, .ref e0, .ref l0])), (h0, .inr (4, [.ref h1])), (h1, .inr (3, [.ref h2])), (h2, .inl (cA, 286, .inl (nF a)))] (btw a d d2) := by
  refine ofWi (cc := cX0_fewestBetween) (maxL := 7) (rt := .int) (by decide) rfl (Nat.le_of_ble_eq_true rfl) ?_
  intro p e s m args below meth c Q A ls F hK hR hP hD hA hS hl RET
  obtain ⟨hx, hb, hml, hown, hts⟩ := id F
  have hl : lv_has ls 7 [(0, .ref q0), (1, .int (nI d)), (2, .int (nI d2))] := hl
  have hk_ := hV.k
  refine lv_aload_n hx hb dX0_fewestBetween_0 rfl (lv_at hl 0 rfl) ?_
  refine va_get (D := D) (cl := vwCl) (ci := 0) (v := .ref h0) (C := RX0) (T := TX0) (N := 4) hx hb hts inf_X0_fewestBetween_X0 hown hK.1 (hR.at hS) 0 rfl rfl 0 (by decide) (hts _ (List.mem_of_getElem? (i := 1) rfl)) (fun _ h9 => h9) rfl dX0_fewestBetween_1 ?_
  refine lv_iload_n hx hb dX0_fewestBetween_4 rfl (lv_at hl 1 rfl) ?_
  refine lv_iload_n hx hb dX0_fewestBetween_5 rfl (lv_at hl 2 rfl) ?_
  refine call_r (q := (RX4, TX4, 1)) (As := [.int (nI d), .int (nI d2)]) (rest := []) F (c_X4_clash l D cA h0 h1 h2 a d d2 (hV.r) (by omega) (by omega) (hV)) (cwV 2 hts gX0_fewestBetween_X4_clash rfl rfl rfl ydv_X4_clash ⟨Nat.le_of_ble_eq_true rfl, Nat.le_of_ble_eq_true rfl⟩) hK hR hP hD hA hS [1, 2, 3] rfl rfl 1 4 rfl rfl rfl hl.1 rfl (Nat.le_of_ble_eq_true rfl) dX0_fewestBetween_6 ⟨Nat.zero_le _, Nat.zero_le _⟩ (fun H locs hP hS => ?_)
  refine bv_if_ne (tgt := 14) hx hb dX0_fewestBetween_9 (by decide) (fun c_9 => ?_) (fun c_9 => ?_)
  · refine lv_aload_n hx hb dX0_fewestBetween_14 rfl (lv_at hl 0 rfl) ?_
    refine lv_iload_n hx hb dX0_fewestBetween_15 rfl (lv_at hl 2 rfl) ?_
    refine call_r (q := (RX0, TX0, 4)) (As := [.int (nI d2)]) (rest := []) F (c_X0_leadersOf l D cA q0 f0 e0 l0 h0 h1 h2 a d2 (hV) (by omega)) (cwV 1 hts gX0_fewestBetween_X0_leadersOf rfl rfl rfl ydv_X0_leadersOf ⟨Nat.le_of_ble_eq_true rfl, Nat.le_of_ble_eq_true rfl⟩) hK hR hP hD hA hS [0, 1, 2, 3] rfl rfl 0 0 rfl rfl rfl hl.1 rfl (Nat.le_of_ble_eq_true rfl) dX0_fewestBetween_16 ⟨Nat.zero_le _, Nat.zero_le _⟩ (fun H locs hP hS => ?_)
    refine lv_istore_n (lv' := [(3, .int (nI (led a d2))), (0, .ref q0), (1, .int (nI d)), (2, .int (nI d2))]) hx hb dX0_fewestBetween_19 rfl hl (by decide) rfl (fun ls hl => ?_)
    refine lv_aload_n hx hb dX0_fewestBetween_20 rfl (lv_at hl 1 rfl) ?_
    refine lv_iload_n hx hb dX0_fewestBetween_21 rfl (lv_at hl 2 rfl) ?_
    refine call_r (q := (RX0, TX0, 4)) (As := [.int (nI d)]) (rest := []) F (c_X0_followersOf l D cA q0 f0 e0 l0 h0 h1 h2 a d (hV) (by omega)) (cwV 1 hts gX0_fewestBetween_X0_followersOf rfl rfl rfl ydv_X0_followersOf ⟨Nat.le_of_ble_eq_true rfl, Nat.le_of_ble_eq_true rfl⟩) hK hR hP hD hA hS [0, 1, 2, 3] rfl rfl 0 0 rfl rfl rfl hl.1 rfl (Nat.le_of_ble_eq_true rfl) dX0_fewestBetween_22 ⟨Nat.zero_le _, Nat.zero_le _⟩ (fun H locs hP hS => ?_)
    refine lv_istore (lv' := [(4, .int (nI (fol a d))), (3, .int (nI (led a d2))), (0, .ref q0), (1, .int (nI d)), (2, .int (nI d2))]) hx hb dX0_fewestBetween_25 hl (by decide) rfl (fun ls hl => ?_)
    refine lv_iload hx hb dX0_fewestBetween_27 (lv_at hl 0 rfl) ?_
    refine lv_istore (lv' := [(5, .int (nI (fol a d))), (4, .int (nI (fol a d))), (3, .int (nI (led a d2))), (0, .ref q0), (1, .int (nI d)), (2, .int (nI d2))]) hx hb dX0_fewestBetween_29 hl (by decide) rfl (fun ls hl => ?_)
    refine lv_iconst (v := nI 1) hx hb dX0_fewestBetween_31 (by decide) ?_
    refine lv_istore (lv' := [(6, .int (nI 1)), (5, .int (nI (fol a d))), (4, .int (nI (fol a d))), (3, .int (nI (led a d2))), (0, .ref q0), (1, .int (nI d)), (2, .int (nI d2))]) hx hb dX0_fewestBetween_32 hl (by decide) rfl (fun ls hl => ?_)
    have LP_34 : ∀ (k_34 : Nat) (i : Nat) (x : Nat) (y : Nat) (H : Heap) (locs : List Loc) (ls : Array Slot), 21 - i = k_34 → (1 ≤ i ∧ i ≤ 21) → (x < 2 ^ 20) → (y < 2 ^ 20) → (fbL a (led a d2) (21 - i) i x y = fbL a (led a d2) 20 1 (fol a d) (fol a d)) → va_P D vwCl [] H → va_D A [] → va_S A s.heap H locs → lv_has ls 7 [(0, .ref q0), (1, .int (nI d)), (2, .int (nI d2)), (3, .int (nI (led a d2))), (4, .int (nI x)), (5, .int (nI y)), (6, .int (nI i))] → W p l e rm_X0_fewestBetween s m args below meth c H locs 0 0 Q (F0 m 34 ls []) := by
      refine sind (fun k_34 ih_34 => ?_)
      intro i x y H locs ls hk_34 hi hx_ hy_ hF_ hP hD hS hl
      refine lv_iload hx hb dX0_fewestBetween_34 (lv_at hl 6 rfl) ?_
      refine lv_bipush (v := nI 20) hx hb dX0_fewestBetween_36 (by decide) ?_
      refine nv_icmp_gt (tgt := 82) hx hb dX0_fewestBetween_38 (by decide) (by omega) (by decide) (fun c_38 => ?_) (fun c_38 => ?_)
      · refine lv_bipush (v := -5) hx hb dX0_fewestBetween_82 (by decide) ?_
        refine tope (y := btw a d d2) (by rw [btw, if_pos c_9, ← hF_]; first | (rw [show 21 - i = 0 by omega]; rfl) | (rw [show 21 - i = (21 - (i + 1)) + 1 by omega, fbL, if_pos c_43]; rfl)) ?_
        exact RET _ _ _ _ _ () dX0_fewestBetween_84 rfl rfl hP hS
      · refine lv_iload hx hb dX0_fewestBetween_41 (lv_at hl 4 rfl) ?_
        refine nv_if_eq (tgt := 82) hx hb dX0_fewestBetween_43 (by decide) (by omega) (fun c_43 => ?_) (fun c_43 => ?_)
        · refine lv_bipush (v := -5) hx hb dX0_fewestBetween_82 (by decide) ?_
          refine tope (y := btw a d d2) (by rw [btw, if_pos c_9, ← hF_]; first | (rw [show 21 - i = 0 by omega]; rfl) | (rw [show 21 - i = (21 - (i + 1)) + 1 by omega, fbL, if_pos c_43]; rfl)) ?_
          exact RET _ _ _ _ _ () dX0_fewestBetween_84 rfl rfl hP hS
        · have ha_ : x &&& led a d2 < 2 ^ 20 := and_lt20 hx_
          refine lv_iload hx hb dX0_fewestBetween_46 (lv_at hl 4 rfl) ?_
          refine lv_iload_n hx hb dX0_fewestBetween_48 rfl (lv_at hl 3 rfl) ?_
          refine nv_iand hx hb dX0_fewestBetween_49 ?_
          refine nv_if_eq (tgt := 56) hx hb dX0_fewestBetween_50 (by decide) (by omega) (fun c_50 => ?_) (fun c_50 => ?_)
          · refine lv_aload_n hx hb dX0_fewestBetween_56 rfl (lv_at hl 0 rfl) ?_
            refine lv_iload hx hb dX0_fewestBetween_57 (lv_at hl 4 rfl) ?_
            refine call_r (q := (RX0, TX0, 4)) (As := [.int (nI x)]) (rest := []) F (c_X0_followersOfAny l D cA q0 f0 e0 l0 h0 h1 h2 a x (hV) (by omega)) (cwV 1 hts gX0_fewestBetween_X0_followersOfAny rfl rfl rfl ydv_X0_followersOfAny ⟨Nat.le_of_ble_eq_true rfl, Nat.le_of_ble_eq_true rfl⟩) hK hR hP hD hA hS [0, 1, 2, 3] rfl rfl 0 0 rfl rfl rfl hl.1 rfl (Nat.le_of_ble_eq_true rfl) dX0_fewestBetween_59 ⟨Nat.zero_le _, Nat.zero_le _⟩ (fun H locs hP hS => ?_)
            refine lv_iload hx hb dX0_fewestBetween_62 (lv_at hl 5 rfl) ?_
            refine lv_iconst (v := nI 4294967295) hx hb dX0_fewestBetween_64 (by decide) ?_
            refine nv_ixor hx hb dX0_fewestBetween_65 ?_
            refine nv_iand hx hb dX0_fewestBetween_66 ?_
            refine lv_istore (lv' := [(4, .int (nI ((folA a x) &&& (y ^^^ 4294967295)))), (0, .ref q0), (1, .int (nI d)), (2, .int (nI d2)), (3, .int (nI (led a d2))), (5, .int (nI y)), (6, .int (nI i))]) hx hb dX0_fewestBetween_67 hl (by decide) rfl (fun ls hl => ?_)
            refine lv_iload hx hb dX0_fewestBetween_69 (lv_at hl 5 rfl) ?_
            refine lv_iload hx hb dX0_fewestBetween_71 (lv_at hl 0 rfl) ?_
            refine nv_ior hx hb dX0_fewestBetween_73 ?_
            refine lv_istore (lv' := [(5, .int (nI (y ||| ((folA a x) &&& (y ^^^ 4294967295))))), (4, .int (nI ((folA a x) &&& (y ^^^ 4294967295)))), (0, .ref q0), (1, .int (nI d)), (2, .int (nI d2)), (3, .int (nI (led a d2))), (6, .int (nI i))]) hx hb dX0_fewestBetween_74 hl (by decide) rfl (fun ls hl => ?_)
            refine lv_iinc (v := nI (i + 1)) (lv' := [(6, .int (nI (i + 1))), (5, .int (nI (y ||| ((folA a x) &&& (y ^^^ 4294967295))))), (4, .int (nI ((folA a x) &&& (y ^^^ 4294967295)))), (0, .ref q0), (1, .int (nI d)), (2, .int (nI d2)), (3, .int (nI (led a d2)))]) hx hb dX0_fewestBetween_76 hl (k := 6) rfl (nI_add _ _) (by decide) rfl (fun ls hl => ?_)
            refine lv_goto (tgt := 34) hx hb dX0_fewestBetween_79 (by decide) ?_
            exact ih_34 _ (by omega) (i + 1) ((folA a x) &&& (y ^^^ 4294967295)) (y ||| ((folA a x) &&& (y ^^^ 4294967295))) _ _ _ rfl (by omega) (and_lt20 (folA_lt hV x)) (or_lt20 hy_ (and_lt20 (folA_lt hV x))) (by rw [← hF_, show 21 - i = (21 - (i + 1)) + 1 by omega, fbL, if_neg c_43, if_pos c_50]) hP hD hS (lv_sub hl [3, 4, 5, 6, 2, 1, 0] rfl)
          · refine lv_iload hx hb dX0_fewestBetween_53 (lv_at hl 6 rfl) ?_
            refine tope (y := btw a d d2) (by rw [btw, if_pos c_9, ← hF_, show 21 - i = (21 - (i + 1)) + 1 by omega, fbL, if_neg c_43, if_neg c_50, zI, if_neg (by omega)]) ?_
            exact RET _ _ _ _ _ () dX0_fewestBetween_55 rfl rfl hP hS
    exact LP_34 _ 1 (fol a d) (fol a d) _ _ _ rfl (by omega) (fol_lt hV d) (fol_lt hV d) (rfl) hP hD hS (lv_sub hl [4, 5, 6, 3, 2, 1, 0] rfl)
  · refine lv_iconst (v := nI 0) hx hb dX0_fewestBetween_12 (by decide) ?_
    refine tope (y := btw a d d2) (by simp [btw, c_9]) ?_
    exact RET _ _ _ _ _ () dX0_fewestBetween_13 rfl rfl hP hS
abbrev rm_X0_endingsAheadOf : Room := { frames := 3, cells := 0, slots := 0, locals := 61 }
theorem ydv_X0_endingsAheadOf : yX0_endingsAheadOf.cls = RX0 ∧ yX0_endingsAheadOf.cls ≠ "java/lang/invoke/MethodHandle" ∧ yX0_endingsAheadOf.cls ≠ "java/lang/invoke/VarHandle" ∧ (parseMethodDescriptor yX0_endingsAheadOf.desc).map (fun d => d.parameters.length) = some 1 := by decide +kernel
theorem inf_X0_endingsAheadOf_X0 : ∀ w ∈ wsX00, w ∈ wsX0_endingsAheadOf := fun w h => List.mem_cons_of_mem _ (List.mem_append_left _ (List.mem_append_left _ (List.mem_append_right _ (h))))
set_option maxHeartbeats 4000000 in
set_option maxRecDepth 100000 in
theorem c_X0_endingsAheadOf (l : Launch) (D : va_G) (cA : ClassId) (q0 f0 e0 l0 f1 e1 h0 h1 h2 : Nat) (a fo en : Nat → Nat) (t : Nat) (hV : Vd a) (hfo : ∀ j, j < 2 * a 1 → fo j < 2 ^ 31) (ht : t < 20) : RO l D cA yX0_endingsAheadOf wsX0_endingsAheadOf rm_X0_endingsAheadOf [.ref q0, .int (nI t)] [(q0, .inr (0, [.ref h0, .ref f0, .ref e0, .ref l0])), (h0, .inr (4, [.ref h1])), (h1, .inr (3, [.ref h2])), (h2, .inl (cA, 286, .inl (nF a))), (f0, .inr (3, [.ref f1])), (e0, .inr (3, [.ref e1])), (f1, .inl (cA, 20, .inl (nF fo))), (e1, .inl (cA, 20, .inl (nF en)))] (nI (sumN (fun i => if bit (fo i) t then en i else 0) (2 * a 1))) := by
  refine ofWi (cc := cX0_endingsAheadOf) (maxL := 5) (rt := .int) (by decide) rfl (Nat.le_of_ble_eq_true rfl) ?_
  intro p e s m args below meth c Q A ls F hK hR hP hD hA hS hl RET
  obtain ⟨hx, hb, hml, hown, hts⟩ := id F
  have hl : lv_has ls 5 [(0, .ref q0), (1, .int (nI t))] := hl
  have hk_ := hV.k
  refine lv_aload_n hx hb dX0_endingsAheadOf_0 rfl (lv_at hl 0 rfl) ?_
  refine va_get (D := D) (cl := vwCl) (ci := 0) (v := .ref h0) (C := RX0) (T := TX0) (N := 4) hx hb hts inf_X0_endingsAheadOf_X0 hown hK.1 (hR.at hS) 0 rfl rfl 0 (by decide) (hts _ (List.mem_of_getElem? (i := 1) rfl)) (fun _ h9 => h9) rfl dX0_endingsAheadOf_1 ?_
  refine call_r (q := (RX4, TX4, 1)) (As := []) (rest := []) F (c_X4_dollsToCut l D cA h0 h1 h2 a) (cwV 0 hts gX0_endingsAheadOf_X4_dollsToCut rfl rfl rfl ydv_X4_dollsToCut ⟨Nat.le_of_ble_eq_true rfl, Nat.le_of_ble_eq_true rfl⟩) hK hR hP hD hA hS [1, 2, 3] rfl rfl 1 4 rfl rfl rfl hl.1 rfl (Nat.le_of_ble_eq_true rfl) dX0_endingsAheadOf_4 ⟨Nat.zero_le _, Nat.zero_le _⟩ (fun H locs hP hS => ?_)
  refine lv_istore_n (lv' := [(2, .int (nI (2 * a 1))), (0, .ref q0), (1, .int (nI t))]) hx hb dX0_endingsAheadOf_7 rfl hl (by decide) rfl (fun ls hl => ?_)
  refine lv_iconst (v := nI 0) hx hb dX0_endingsAheadOf_8 (by decide) ?_
  refine lv_istore_n (lv' := [(3, .int (nI 0)), (2, .int (nI (2 * a 1))), (0, .ref q0), (1, .int (nI t))]) hx hb dX0_endingsAheadOf_9 rfl hl (by decide) rfl (fun ls hl => ?_)
  refine lv_iconst (v := nI 0) hx hb dX0_endingsAheadOf_10 (by decide) ?_
  refine lv_istore (lv' := [(4, .int (nI 0)), (3, .int (nI 0)), (2, .int (nI (2 * a 1))), (0, .ref q0), (1, .int (nI t))]) hx hb dX0_endingsAheadOf_11 hl (by decide) rfl (fun ls hl => ?_)
  have LP_13 : ∀ (k_13 : Nat) (i : Nat) (x : Nat) (H : Heap) (locs : List Loc) (ls : Array Slot), 2 * a 1 - i = k_13 → (i ≤ 2 * a 1) → (x = sumN (fun i => if bit (fo i) t then en i else 0) i) → va_P D vwCl [] H → va_D A [] → va_S A s.heap H locs → lv_has ls 5 [(0, .ref q0), (1, .int (nI t)), (2, .int (nI (2 * a 1))), (3, .int (nI x)), (4, .int (nI i))] → W p l e rm_X0_endingsAheadOf s m args below meth c H locs 0 0 Q (F0 m 13 ls []) := by
    refine sind (fun k_13 ih_13 => ?_)
    intro i x H locs ls hk_13 hi hx_ hP hD hS hl
    refine lv_iload hx hb dX0_endingsAheadOf_13 (lv_at hl 4 rfl) ?_
    refine lv_iload_n hx hb dX0_endingsAheadOf_15 rfl (lv_at hl 2 rfl) ?_
    refine nv_icmp_ge (tgt := 53) hx hb dX0_endingsAheadOf_16 (by decide) (by omega) (by omega) (fun c_16 => ?_) (fun c_16 => ?_)
    · refine lv_iload_n hx hb dX0_endingsAheadOf_53 rfl (lv_at hl 3 rfl) ?_
      refine tope (y := nI (sumN (fun i => if bit (fo i) t then en i else 0) (2 * a 1))) (by rw [hx_, show i = 2 * a 1 by omega]) ?_
      exact RET _ _ _ _ _ () dX0_endingsAheadOf_54 rfl rfl hP hS
    · refine lv_aload_n hx hb dX0_endingsAheadOf_19 rfl (lv_at hl 0 rfl) ?_
      refine va_get (D := D) (cl := vwCl) (ci := 0) (v := .ref f0) (C := RX0) (T := TX0) (N := 4) hx hb hts inf_X0_endingsAheadOf_X0 hown hK.1 (hR.at hS) 0 rfl rfl 1 (by decide) (hts _ (List.mem_of_getElem? (i := 2) rfl)) (fun _ h9 => h9) rfl dX0_endingsAheadOf_20 ?_
      refine lv_iload hx hb dX0_endingsAheadOf_23 (lv_at hl 4 rfl) ?_
      refine call_r (q := (RX3, TX3, 1)) (As := [.int (nI i)]) (rest := []) F (c_X3_at l D cA f0 f1 20 fo i (by omega) (by decide)) (cwV 1 hts gX0_endingsAheadOf_X3_at rfl rfl rfl ydv_X3_at ⟨Nat.le_of_ble_eq_true rfl, Nat.le_of_ble_eq_true rfl⟩) hK hR hP hD hA hS [4, 6] rfl rfl 4 3 rfl rfl rfl hl.1 rfl (Nat.le_of_ble_eq_true rfl) dX0_endingsAheadOf_25 ⟨Nat.zero_le _, Nat.zero_le _⟩ (fun H locs hP hS => ?_)
      refine lv_iload_n hx hb dX0_endingsAheadOf_28 rfl (lv_at hl 1 rfl) ?_
      refine call_s (As := [.int (nI (fo i)), .int (nI t)]) (rest := []) F (c_X0_holds l D cA (fo i) t (hfo i c_16) (by omega)) (va_cwS 2 hts gX0_endingsAheadOf_X0_holds rfl rfl rfl yd_X0_holds ⟨Nat.le_of_ble_eq_true rfl, Nat.le_of_ble_eq_true rfl⟩) hK hR hP hD hA hS rfl hl.1 rfl (Nat.le_of_ble_eq_true rfl) dX0_endingsAheadOf_29 ⟨Nat.zero_le _, Nat.zero_le _⟩ (fun H locs hP hS => ?_)
      refine bv_if_eq (tgt := 47) hx hb dX0_endingsAheadOf_32 (by decide) (fun c_32 => ?_) (fun c_32 => ?_)
      · refine lv_iinc (v := nI (i + 1)) (lv' := [(4, .int (nI (i + 1))), (0, .ref q0), (1, .int (nI t)), (2, .int (nI (2 * a 1))), (3, .int (nI x))]) hx hb dX0_endingsAheadOf_47 hl (k := 4) rfl (nI_add _ _) (by decide) rfl (fun ls hl => ?_)
        refine lv_goto (tgt := 13) hx hb dX0_endingsAheadOf_50 (by decide) ?_
        exact ih_13 _ (by omega) (i + 1) x _ _ _ rfl (by omega) (by rw [hx_]; simp [sumN, c_32]) hP hD hS (lv_sub hl [1, 2, 3, 4, 0] rfl)
      · refine lv_iload_n hx hb dX0_endingsAheadOf_35 rfl (lv_at hl 3 rfl) ?_
        refine lv_aload_n hx hb dX0_endingsAheadOf_36 rfl (lv_at hl 0 rfl) ?_
        refine va_get (D := D) (cl := vwCl) (ci := 0) (v := .ref e0) (C := RX0) (T := TX0) (N := 4) hx hb hts inf_X0_endingsAheadOf_X0 hown hK.1 (hR.at hS) 0 rfl rfl 2 (by decide) (hts _ (List.mem_of_getElem? (i := 3) rfl)) (fun _ h9 => h9) rfl dX0_endingsAheadOf_37 ?_
        refine lv_iload hx hb dX0_endingsAheadOf_40 (lv_at hl 4 rfl) ?_
        refine call_r (q := (RX3, TX3, 1)) (As := [.int (nI i)]) (rest := [.int (nI x)]) F (c_X3_at l D cA e0 e1 20 en i (by omega) (by decide)) (cwV 1 hts gX0_endingsAheadOf_X3_at rfl rfl rfl ydv_X3_at ⟨Nat.le_of_ble_eq_true rfl, Nat.le_of_ble_eq_true rfl⟩) hK hR hP hD hA hS [5, 7] rfl rfl 5 3 rfl rfl rfl hl.1 rfl (Nat.le_of_ble_eq_true rfl) dX0_endingsAheadOf_42 ⟨Nat.zero_le _, Nat.zero_le _⟩ (fun H locs hP hS => ?_)
        refine nv_iadd hx hb dX0_endingsAheadOf_45 ?_
        refine lv_istore_n (lv' := [(3, .int (nI (x + (en i)))), (0, .ref q0), (1, .int (nI t)), (2, .int (nI (2 * a 1))), (4, .int (nI i))]) hx hb dX0_endingsAheadOf_46 rfl hl (by decide) rfl (fun ls hl => ?_)
        refine lv_iinc (v := nI (i + 1)) (lv' := [(4, .int (nI (i + 1))), (3, .int (nI (x + (en i)))), (0, .ref q0), (1, .int (nI t)), (2, .int (nI (2 * a 1)))]) hx hb dX0_endingsAheadOf_47 hl (k := 4) rfl (nI_add _ _) (by decide) rfl (fun ls hl => ?_)
        refine lv_goto (tgt := 13) hx hb dX0_endingsAheadOf_50 (by decide) ?_
        exact ih_13 _ (by omega) (i + 1) (x + (en i)) _ _ _ rfl (by omega) (by rw [hx_]; simp [sumN, c_32]) hP hD hS (lv_sub hl [2, 3, 4, 1, 0] rfl)
  exact LP_13 _ 0 0 _ _ _ rfl (by omega) (rfl) hP hD hS (lv_sub hl [3, 4, 2, 1, 0] rfl)
abbrev rm_X0_countEndings : Room := { frames := 4, cells := 0, slots := 0, locals := 91 }
theorem ydv_X0_countEndings : yX0_countEndings.cls = RX0 ∧ yX0_countEndings.cls ≠ "java/lang/invoke/MethodHandle" ∧ yX0_countEndings.cls ≠ "java/lang/invoke/VarHandle" ∧ (parseMethodDescriptor yX0_countEndings.desc).map (fun d => d.parameters.length) = some 1 := by decide +kernel
theorem inf_X0_countEndings_X0 : ∀ w ∈ wsX00, w ∈ wsX0_countEndings := fun w h => List.mem_cons_of_mem _ (List.mem_append_left _ (List.mem_append_left _ (List.mem_append_right _ (h))))
set_option maxHeartbeats 4000000 in
set_option maxRecDepth 100000 in
theorem c_X0_countEndings (l : Launch) (D : va_G) (cA : ClassId) (q0 f0 e0 l0 f1 e1 l1 h0 h1 h2 : Nat) (a fo en lo : Nat → Nat) (z : Nat) (hV : Vd a) (hz : 1 ≤ z ∧ z ≤ 6) : MV l D cA yX0_countEndings wsX0_countEndings rm_X0_countEndings [.ref q0, .int (nI z)] [(q0, .inr (0, [.ref h0, .ref f0, .ref e0, .ref l0])), (h0, .inr (4, [.ref h1])), (h1, .inr (3, [.ref h2])), (h2, .inl (cA, 286, .inl (nF a))), (f0, .inr (3, [.ref f1])), (e0, .inr (3, [.ref e1])), (l0, .inr (3, [.ref l1]))] [(f1, .inl (cA, 20, .inl (nF fo))), (e1, .inl (cA, 20, .inl (nF en))), (l1, .inl (cA, 20, .inl (nF lo)))] (S := (Nat → Nat) × (Nat → Nat) × (Nat → Nat)) (fun (u : (Nat → Nat) × (Nat → Nat) × (Nat → Nat)) => (∀ j, j < 2 * a 1 → u.1 j = fol a j) ∧ (∀ j, j < 2 * a 1 → u.2.1 j = endN a (z - 1) j)) (fun (u : (Nat → Nat) × (Nat → Nat) × (Nat → Nat)) => [(f1, .inl (cA, 20, .inl (nF u.1))), (e1, .inl (cA, 20, .inl (nF u.2.1))), (l1, .inl (cA, 20, .inl (nF u.2.2)))]) := by
  refine ofWv (cc := cX0_countEndings) (maxL := 5) (by decide) rfl (Nat.le_of_ble_eq_true rfl) ?_
  intro p e s m args below meth c Q A ls F hK hR hP hD hA hS hl RET
  obtain ⟨hx, hb, hml, hown, hts⟩ := id F
  have hl : lv_has ls 5 [(0, .ref q0), (1, .int (nI z))] := hl
  have hk_ := hV.k
  refine lv_aload_n hx hb dX0_countEndings_0 rfl (lv_at hl 0 rfl) ?_
  refine va_get (D := D) (cl := vwCl) (ci := 0) (v := .ref h0) (C := RX0) (T := TX0) (N := 4) hx hb hts inf_X0_countEndings_X0 hown hK.1 (hR.at hS) 0 rfl rfl 0 (by decide) (hts _ (List.mem_of_getElem? (i := 1) rfl)) (fun _ h9 => h9) rfl dX0_countEndings_1 ?_
  refine call_r (q := (RX4, TX4, 1)) (As := []) (rest := []) F (c_X4_dollsToCut l D cA h0 h1 h2 a) (cwV 0 hts gX0_countEndings_X4_dollsToCut rfl rfl rfl ydv_X4_dollsToCut ⟨Nat.le_of_ble_eq_true rfl, Nat.le_of_ble_eq_true rfl⟩) hK hR hP hD hA hS [1, 2, 3] rfl rfl 1 4 rfl rfl rfl hl.1 rfl (Nat.le_of_ble_eq_true rfl) dX0_countEndings_4 ⟨Nat.zero_le _, Nat.zero_le _⟩ (fun H locs hP hS => ?_)
  refine lv_istore_n (lv' := [(2, .int (nI (2 * a 1))), (0, .ref q0), (1, .int (nI z))]) hx hb dX0_countEndings_7 rfl hl (by decide) rfl (fun ls hl => ?_)
  refine lv_iconst (v := nI 0) hx hb dX0_countEndings_8 (by decide) ?_
  refine lv_istore_n (lv' := [(3, .int (nI 0)), (2, .int (nI (2 * a 1))), (0, .ref q0), (1, .int (nI z))]) hx hb dX0_countEndings_9 rfl hl (by decide) rfl (fun ls hl => ?_)
  have LP_10 : ∀ (k_10 : Nat) (i : Nat) (fo3 : Nat → Nat) (en3 : Nat → Nat) (H : Heap) (locs : List Loc) (ls : Array Slot), 2 * a 1 - i = k_10 → (i ≤ 2 * a 1) → (∀ j, j < i → fo3 j = fol a j) → (∀ j, j < i → en3 j = 1) → va_P D vwCl [(f1, .inl (cA, 20, .inl (nF fo3))), (e1, .inl (cA, 20, .inl (nF en3))), (l1, .inl (cA, 20, .inl (nF lo)))] H → va_D A [(f1, .inl (cA, 20, .inl (nF fo3))), (e1, .inl (cA, 20, .inl (nF en3))), (l1, .inl (cA, 20, .inl (nF lo)))] → va_S A s.heap H locs → lv_has ls 5 [(0, .ref q0), (1, .int (nI z)), (2, .int (nI (2 * a 1))), (3, .int (nI i))] → W p l e rm_X0_countEndings s m args below meth c H locs 0 0 Q (F0 m 10 ls []) := by
    refine sind (fun k_10 ih_10 => ?_)
    intro i fo3 en3 H locs ls hk_10 hi hf_ he_ hP hD hS hl
    refine lv_iload_n hx hb dX0_countEndings_10 rfl (lv_at hl 3 rfl) ?_
    refine lv_iload_n hx hb dX0_countEndings_11 rfl (lv_at hl 2 rfl) ?_
    refine nv_icmp_ge (tgt := 43) hx hb dX0_countEndings_12 (by decide) (by omega) (by omega) (fun c_12 => ?_) (fun c_12 => ?_)
    · refine lv_iconst (v := nI 1) hx hb dX0_countEndings_43 (by decide) ?_
      refine lv_istore_n (lv' := [(3, .int (nI 1)), (0, .ref q0), (1, .int (nI z)), (2, .int (nI (2 * a 1)))]) hx hb dX0_countEndings_44 rfl hl (by decide) rfl (fun ls hl => ?_)
      have LP_45 : ∀ (k_45 : Nat) (n : Nat) (en4 : Nat → Nat) (lo4 : Nat → Nat) (H : Heap) (locs : List Loc) (ls : Array Slot), z - n = k_45 → (1 ≤ n ∧ n ≤ z) → (∀ j, j < 2 * a 1 → en4 j = endN a (n - 1) j) → va_P D vwCl [(f1, .inl (cA, 20, .inl (nF fo3))), (e1, .inl (cA, 20, .inl (nF en4))), (l1, .inl (cA, 20, .inl (nF lo4)))] H → va_D A [(f1, .inl (cA, 20, .inl (nF fo3))), (e1, .inl (cA, 20, .inl (nF en4))), (l1, .inl (cA, 20, .inl (nF lo4)))] → va_S A s.heap H locs → lv_has ls 5 [(0, .ref q0), (1, .int (nI z)), (2, .int (nI (2 * a 1))), (3, .int (nI n))] → W p l e rm_X0_countEndings s m args below meth c H locs 0 0 Q (F0 m 45 ls []) := by
        refine sind (fun k_45 ih_45 => ?_)
        intro n en4 lo4 H locs ls hk_45 hn_ hen_ hP hD hS hl
        refine lv_iload_n hx hb dX0_countEndings_45 rfl (lv_at hl 3 rfl) ?_
        refine lv_iload_n hx hb dX0_countEndings_46 rfl (lv_at hl 1 rfl) ?_
        refine nv_icmp_ge (tgt := 100) hx hb dX0_countEndings_47 (by decide) (by omega) (by omega) (fun c_47 => ?_) (fun c_47 => ?_)
        · exact RET _ _ _ _ (fo3, en4, lo4) dX0_countEndings_100 (⟨fun j hj => hf_ j (by omega), fun j hj => (hen_ j hj).trans (by rw [show n = z by omega])⟩) hP hS
        · refine lv_iconst (v := nI 0) hx hb dX0_countEndings_50 (by decide) ?_
          refine lv_istore (lv' := [(4, .int (nI 0)), (0, .ref q0), (1, .int (nI z)), (2, .int (nI (2 * a 1))), (3, .int (nI n))]) hx hb dX0_countEndings_51 hl (by decide) rfl (fun ls hl => ?_)
          have LP_53 : ∀ (k_53 : Nat) (k : Nat) (lo5 : Nat → Nat) (H : Heap) (locs : List Loc) (ls : Array Slot), 2 * a 1 - k = k_53 → (k ≤ 2 * a 1) → (∀ j, j < k → lo5 j = sumN (fun i => if bit (fo3 i) j then en4 i else 0) (2 * a 1)) → va_P D vwCl [(f1, .inl (cA, 20, .inl (nF fo3))), (e1, .inl (cA, 20, .inl (nF en4))), (l1, .inl (cA, 20, .inl (nF lo5)))] H → va_D A [(f1, .inl (cA, 20, .inl (nF fo3))), (e1, .inl (cA, 20, .inl (nF en4))), (l1, .inl (cA, 20, .inl (nF lo5)))] → va_S A s.heap H locs → lv_has ls 5 [(0, .ref q0), (1, .int (nI z)), (2, .int (nI (2 * a 1))), (3, .int (nI n)), (4, .int (nI k))] → W p l e rm_X0_countEndings s m args below meth c H locs 0 0 Q (F0 m 53 ls []) := by
            refine sind (fun k_53 ih_53 => ?_)
            intro k lo5 H locs ls hk_53 hk2_ hlo_ hP hD hS hl
            refine lv_iload hx hb dX0_countEndings_53 (lv_at hl 4 rfl) ?_
            refine lv_iload_n hx hb dX0_countEndings_55 rfl (lv_at hl 2 rfl) ?_
            refine nv_icmp_ge (tgt := 80) hx hb dX0_countEndings_56 (by decide) (by omega) (by omega) (fun c_56 => ?_) (fun c_56 => ?_)
            · refine lv_aload_n hx hb dX0_countEndings_80 rfl (lv_at hl 0 rfl) ?_
              refine va_get (D := D) (cl := vwCl) (ci := 0) (v := .ref e0) (C := RX0) (T := TX0) (N := 4) hx hb hts inf_X0_countEndings_X0 hown hK.1 (hR.at hS) 0 rfl rfl 2 (by decide) (hts _ (List.mem_of_getElem? (i := 3) rfl)) (fun _ h9 => h9) rfl dX0_countEndings_81 ?_
              refine lv_aload_n hx hb dX0_countEndings_84 rfl (lv_at hl 0 rfl) ?_
              refine va_get (D := D) (cl := vwCl) (ci := 0) (v := .ref l0) (C := RX0) (T := TX0) (N := 4) hx hb hts inf_X0_countEndings_X0 hown hK.1 (hR.at hS) 0 rfl rfl 3 (by decide) (hts _ (List.mem_of_getElem? (i := 4) rfl)) (fun _ h9 => h9) rfl dX0_countEndings_85 ?_
              refine lv_iconst (v := nI 0) hx hb dX0_countEndings_88 (by decide) ?_
              refine lv_iconst (v := nI 0) hx hb dX0_countEndings_89 (by decide) ?_
              refine lv_iload_n hx hb dX0_countEndings_90 rfl (lv_at hl 2 rfl) ?_
              refine call_v (q := (RX3, TX3, 1)) (As := [.ref l0, .int (nI 0), .int (nI 0), .int (nI (2 * a 1))]) (rest := []) F (c_X3_copyFrom l D cA e0 e1 l0 l1 20 20 en4 lo5 0 0 (2 * a 1) (by omega) (by omega) (by decide) (by decide)) (cwV 4 hts gX0_countEndings_X3_copyFrom rfl rfl rfl ydv_X3_copyFrom ⟨Nat.le_of_ble_eq_true rfl, Nat.le_of_ble_eq_true rfl⟩) hK hR hP hD hA hS [5, 6, 9, 8] [2, 1] rfl rfl rfl 5 3 rfl rfl (fun _ => rfl) rfl hl.1 rfl (Nat.le_of_ble_eq_true rfl) dX0_countEndings_91 ⟨Nat.zero_le _, Nat.zero_le _⟩ (fun u_91 H locs hw hP hD hS => ?_)
              have hP : va_P D vwCl [(f1, .inl (cA, 20, .inl (nF fo3))), (e1, .inl (cA, 20, .inl (nF (cpyN lo5 en4 0 0 (2 * a 1))))), (l1, .inl (cA, 20, .inl (nF lo5)))] H := hP
              have hD : va_D A [(f1, .inl (cA, 20, .inl (nF fo3))), (e1, .inl (cA, 20, .inl (nF (cpyN lo5 en4 0 0 (2 * a 1))))), (l1, .inl (cA, 20, .inl (nF lo5)))] := hD
              refine lv_iinc (v := nI (n + 1)) (lv' := [(3, .int (nI (n + 1))), (0, .ref q0), (1, .int (nI z)), (2, .int (nI (2 * a 1))), (4, .int (nI k))]) hx hb dX0_countEndings_94 hl (k := 3) rfl (nI_add _ _) (by decide) rfl (fun ls hl => ?_)
              refine lv_goto (tgt := 45) hx hb dX0_countEndings_97 (by decide) ?_
              exact ih_45 _ (by omega) (n + 1) (cpyN lo5 en4 0 0 (2 * a 1)) lo5 _ _ _ rfl (by omega) (fun j hj => by simp only [cpyN]; rw [if_pos (by omega), Nat.sub_zero, Nat.zero_add, hlo_ j (by omega), show n + 1 - 1 = (n - 1) + 1 by omega]; exact sumN_congr (fun k_ hk_2 => by rw [hf_ k_ (by omega), hen_ k_ hk_2])) hP hD hS (lv_sub hl [1, 2, 3, 0] rfl)
            · refine lv_aload_n hx hb dX0_countEndings_59 rfl (lv_at hl 0 rfl) ?_
              refine va_get (D := D) (cl := vwCl) (ci := 0) (v := .ref l0) (C := RX0) (T := TX0) (N := 4) hx hb hts inf_X0_countEndings_X0 hown hK.1 (hR.at hS) 0 rfl rfl 3 (by decide) (hts _ (List.mem_of_getElem? (i := 4) rfl)) (fun _ h9 => h9) rfl dX0_countEndings_60 ?_
              refine lv_iload hx hb dX0_countEndings_63 (lv_at hl 4 rfl) ?_
              refine lv_aload_n hx hb dX0_countEndings_65 rfl (lv_at hl 0 rfl) ?_
              refine lv_iload hx hb dX0_countEndings_66 (lv_at hl 4 rfl) ?_
              refine call_r (q := (RX0, TX0, 4)) (As := [.int (nI k)]) (rest := [.int (nI k), .ref l0]) F (c_X0_endingsAheadOf l D cA q0 f0 e0 l0 f1 e1 h0 h1 h2 a fo3 en4 k (hV) (fun j hj => by rw [hf_ j (by omega)]; have := fol_lt hV j; omega) (by omega)) (cwV 1 hts gX0_countEndings_X0_endingsAheadOf rfl rfl rfl ydv_X0_endingsAheadOf ⟨Nat.le_of_ble_eq_true rfl, Nat.le_of_ble_eq_true rfl⟩) hK hR hP hD hA hS [0, 1, 2, 3, 4, 5, 7, 8] rfl rfl 0 0 rfl rfl rfl hl.1 rfl (Nat.le_of_ble_eq_true rfl) dX0_countEndings_68 ⟨Nat.zero_le _, Nat.zero_le _⟩ (fun H locs hP hS => ?_)
              refine call_v (q := (RX3, TX3, 1)) (As := [.int (nI k), .int (nI (sumN (fun i => if bit (fo3 i) k then en4 i else 0) (2 * a 1)))]) (rest := []) F (c_X3_put l D cA l0 l1 20 lo5 k (sumN (fun i => if bit (fo3 i) k then en4 i else 0) (2 * a 1)) (by omega) (by decide)) (cwV 2 hts gX0_countEndings_X3_put rfl rfl rfl ydv_X3_put ⟨Nat.le_of_ble_eq_true rfl, Nat.le_of_ble_eq_true rfl⟩) hK hR hP hD hA hS [6, 9] [2] rfl rfl rfl 6 3 rfl rfl (fun _ => rfl) rfl hl.1 rfl (Nat.le_of_ble_eq_true rfl) dX0_countEndings_71 ⟨Nat.zero_le _, Nat.zero_le _⟩ (fun u_71 H locs hw hP hD hS => ?_)
              have hP : va_P D vwCl [(f1, .inl (cA, 20, .inl (nF fo3))), (e1, .inl (cA, 20, .inl (nF en4))), (l1, .inl (cA, 20, .inl (nF (updN lo5 k (sumN (fun i => if bit (fo3 i) k then en4 i else 0) (2 * a 1))))))] H := hP
              have hD : va_D A [(f1, .inl (cA, 20, .inl (nF fo3))), (e1, .inl (cA, 20, .inl (nF en4))), (l1, .inl (cA, 20, .inl (nF (updN lo5 k (sumN (fun i => if bit (fo3 i) k then en4 i else 0) (2 * a 1))))))] := hD
              refine lv_iinc (v := nI (k + 1)) (lv' := [(4, .int (nI (k + 1))), (0, .ref q0), (1, .int (nI z)), (2, .int (nI (2 * a 1))), (3, .int (nI n))]) hx hb dX0_countEndings_74 hl (k := 4) rfl (nI_add _ _) (by decide) rfl (fun ls hl => ?_)
              refine lv_goto (tgt := 53) hx hb dX0_countEndings_77 (by decide) ?_
              exact ih_53 _ (by omega) (k + 1) (updN lo5 k (sumN (fun i => if bit (fo3 i) k then en4 i else 0) (2 * a 1))) _ _ _ rfl (by omega) (fun j hj => by simp only [updN]; split; (rename_i e_; rw [e_]); exact hlo_ j (by omega)) hP hD hS (lv_sub hl [1, 2, 3, 4, 0] rfl)
          exact LP_53 _ 0 lo4 _ _ _ rfl (by omega) (fun j h_ => absurd h_ (Nat.not_lt_zero j)) hP hD hS (lv_sub hl [1, 2, 3, 4, 0] rfl)
      exact LP_45 _ 1 en3 lo _ _ _ rfl (by omega) (fun j hj => he_ j (by omega)) hP hD hS (lv_sub hl [1, 2, 3, 0] rfl)
    · refine lv_aload_n hx hb dX0_countEndings_15 rfl (lv_at hl 0 rfl) ?_
      refine va_get (D := D) (cl := vwCl) (ci := 0) (v := .ref f0) (C := RX0) (T := TX0) (N := 4) hx hb hts inf_X0_countEndings_X0 hown hK.1 (hR.at hS) 0 rfl rfl 1 (by decide) (hts _ (List.mem_of_getElem? (i := 2) rfl)) (fun _ h9 => h9) rfl dX0_countEndings_16 ?_
      refine lv_iload_n hx hb dX0_countEndings_19 rfl (lv_at hl 3 rfl) ?_
      refine lv_aload_n hx hb dX0_countEndings_20 rfl (lv_at hl 0 rfl) ?_
      refine lv_iload_n hx hb dX0_countEndings_21 rfl (lv_at hl 3 rfl) ?_
      refine call_r (q := (RX0, TX0, 4)) (As := [.int (nI i)]) (rest := [.int (nI i), .ref f0]) F (c_X0_followersOf l D cA q0 f0 e0 l0 h0 h1 h2 a i (hV) (by omega)) (cwV 1 hts gX0_countEndings_X0_followersOf rfl rfl rfl ydv_X0_followersOf ⟨Nat.le_of_ble_eq_true rfl, Nat.le_of_ble_eq_true rfl⟩) hK hR hP hD hA hS [0, 1, 2, 3] rfl rfl 0 0 rfl rfl rfl hl.1 rfl (Nat.le_of_ble_eq_true rfl) dX0_countEndings_22 ⟨Nat.zero_le _, Nat.zero_le _⟩ (fun H locs hP hS => ?_)
      refine call_v (q := (RX3, TX3, 1)) (As := [.int (nI i), .int (nI (fol a i))]) (rest := []) F (c_X3_put l D cA f0 f1 20 fo3 i (fol a i) (by omega) (by decide)) (cwV 2 hts gX0_countEndings_X3_put rfl rfl rfl ydv_X3_put ⟨Nat.le_of_ble_eq_true rfl, Nat.le_of_ble_eq_true rfl⟩) hK hR hP hD hA hS [4, 7] [0] rfl rfl rfl 4 3 rfl rfl (fun _ => rfl) rfl hl.1 rfl (Nat.le_of_ble_eq_true rfl) dX0_countEndings_25 ⟨Nat.zero_le _, Nat.zero_le _⟩ (fun u_25 H locs hw hP hD hS => ?_)
      have hP : va_P D vwCl [(f1, .inl (cA, 20, .inl (nF (updN fo3 i (fol a i))))), (e1, .inl (cA, 20, .inl (nF en3))), (l1, .inl (cA, 20, .inl (nF lo)))] H := hP
      have hD : va_D A [(f1, .inl (cA, 20, .inl (nF (updN fo3 i (fol a i))))), (e1, .inl (cA, 20, .inl (nF en3))), (l1, .inl (cA, 20, .inl (nF lo)))] := hD
      refine lv_aload_n hx hb dX0_countEndings_28 rfl (lv_at hl 0 rfl) ?_
      refine va_get (D := D) (cl := vwCl) (ci := 0) (v := .ref e0) (C := RX0) (T := TX0) (N := 4) hx hb hts inf_X0_countEndings_X0 hown hK.1 (hR.at hS) 0 rfl rfl 2 (by decide) (hts _ (List.mem_of_getElem? (i := 3) rfl)) (fun _ h9 => h9) rfl dX0_countEndings_29 ?_
      refine lv_iload_n hx hb dX0_countEndings_32 rfl (lv_at hl 3 rfl) ?_
      refine lv_iconst (v := nI 1) hx hb dX0_countEndings_33 (by decide) ?_
      refine call_v (q := (RX3, TX3, 1)) (As := [.int (nI i), .int (nI 1)]) (rest := []) F (c_X3_put l D cA e0 e1 20 en3 i 1 (by omega) (by decide)) (cwV 2 hts gX0_countEndings_X3_put rfl rfl rfl ydv_X3_put ⟨Nat.le_of_ble_eq_true rfl, Nat.le_of_ble_eq_true rfl⟩) hK hR hP hD hA hS [5, 8] [1] rfl rfl rfl 5 3 rfl rfl (fun _ => rfl) rfl hl.1 rfl (Nat.le_of_ble_eq_true rfl) dX0_countEndings_34 ⟨Nat.zero_le _, Nat.zero_le _⟩ (fun u_34 H locs hw hP hD hS => ?_)
      have hP : va_P D vwCl [(f1, .inl (cA, 20, .inl (nF (updN fo3 i (fol a i))))), (e1, .inl (cA, 20, .inl (nF (updN en3 i 1)))), (l1, .inl (cA, 20, .inl (nF lo)))] H := hP
      have hD : va_D A [(f1, .inl (cA, 20, .inl (nF (updN fo3 i (fol a i))))), (e1, .inl (cA, 20, .inl (nF (updN en3 i 1)))), (l1, .inl (cA, 20, .inl (nF lo)))] := hD
      refine lv_iinc (v := nI (i + 1)) (lv' := [(3, .int (nI (i + 1))), (0, .ref q0), (1, .int (nI z)), (2, .int (nI (2 * a 1)))]) hx hb dX0_countEndings_37 hl (k := 3) rfl (nI_add _ _) (by decide) rfl (fun ls hl => ?_)
      refine lv_goto (tgt := 10) hx hb dX0_countEndings_40 (by decide) ?_
      exact ih_10 _ (by omega) (i + 1) (updN fo3 i (fol a i)) (updN en3 i 1) _ _ _ rfl (by omega) (fun j hj => by simp only [updN]; split; (rename_i e_; rw [e_]); exact hf_ j (by omega)) (fun j hj => by simp only [updN]; split; rfl; exact he_ j (by omega)) hP hD hS (lv_sub hl [1, 2, 3, 0] rfl)
  exact LP_10 _ 0 fo en _ _ _ rfl (by omega) (fun j h_ => absurd h_ (Nat.not_lt_zero j)) (fun j h_ => absurd h_ (Nat.not_lt_zero j)) hP hD hS (lv_sub hl [2, 3, 1, 0] rfl)
abbrev rm_X0_garlandsOf : Room := { frames := 5, cells := 0, slots := 0, locals := 115 }
theorem ydv_X0_garlandsOf : yX0_garlandsOf.cls = RX0 ∧ yX0_garlandsOf.cls ≠ "java/lang/invoke/MethodHandle" ∧ yX0_garlandsOf.cls ≠ "java/lang/invoke/VarHandle" ∧ (parseMethodDescriptor yX0_garlandsOf.desc).map (fun d => d.parameters.length) = some 1 := by decide +kernel
theorem inf_X0_garlandsOf_X0 : ∀ w ∈ wsX00, w ∈ wsX0_garlandsOf := fun w h => List.mem_cons_of_mem _ (List.mem_append_left _ (List.mem_append_left _ (List.mem_append_right _ (h))))
set_option maxHeartbeats 4000000 in
set_option maxRecDepth 100000 in
theorem c_X0_garlandsOf (l : Launch) (D : va_G) (cA : ClassId) (q0 f0 e0 l0 f1 e1 l1 h0 h1 h2 : Nat) (a fo en lo : Nat → Nat) (z : Nat) (hV : Vd a) (hz : 1 ≤ z ∧ z ≤ 6) : MI l D cA yX0_garlandsOf wsX0_garlandsOf rm_X0_garlandsOf [.ref q0, .int (nI z)] [(q0, .inr (0, [.ref h0, .ref f0, .ref e0, .ref l0])), (h0, .inr (4, [.ref h1])), (h1, .inr (3, [.ref h2])), (h2, .inl (cA, 286, .inl (nF a))), (f0, .inr (3, [.ref f1])), (e0, .inr (3, [.ref e1])), (l0, .inr (3, [.ref l1]))] [(f1, .inl (cA, 20, .inl (nF fo))), (e1, .inl (cA, 20, .inl (nF en))), (l1, .inl (cA, 20, .inl (nF lo)))] (S := (Nat → Nat) × (Nat → Nat) × (Nat → Nat)) (fun r (u : (Nat → Nat) × (Nat → Nat) × (Nat → Nat)) => r = nI (allN a z)) (fun (u : (Nat → Nat) × (Nat → Nat) × (Nat → Nat)) => [(f1, .inl (cA, 20, .inl (nF u.1))), (e1, .inl (cA, 20, .inl (nF u.2.1))), (l1, .inl (cA, 20, .inl (nF u.2.2)))]) := by
  refine ofWi (cc := cX0_garlandsOf) (maxL := 5) (rt := .int) (by decide) rfl (Nat.le_of_ble_eq_true rfl) ?_
  intro p e s m args below meth c Q A ls F hK hR hP hD hA hS hl RET
  obtain ⟨hx, hb, hml, hown, hts⟩ := id F
  have hl : lv_has ls 5 [(0, .ref q0), (1, .int (nI z))] := hl
  have hk_ := hV.k
  refine lv_aload_n hx hb dX0_garlandsOf_0 rfl (lv_at hl 0 rfl) ?_
  refine lv_iload_n hx hb dX0_garlandsOf_1 rfl (lv_at hl 1 rfl) ?_
  refine call_v (q := (RX0, TX0, 4)) (As := [.int (nI z)]) (rest := []) F (c_X0_countEndings l D cA q0 f0 e0 l0 f1 e1 l1 h0 h1 h2 a fo en lo z (hV) (by omega)) (cwV 1 hts gX0_garlandsOf_X0_countEndings rfl rfl rfl ydv_X0_countEndings ⟨Nat.le_of_ble_eq_true rfl, Nat.le_of_ble_eq_true rfl⟩) hK hR hP hD hA hS [0, 1, 2, 3, 4, 5, 6, 7, 8, 9] [0, 1, 2] rfl rfl rfl 0 0 rfl rfl (fun _ => rfl) rfl hl.1 rfl (Nat.le_of_ble_eq_true rfl) dX0_garlandsOf_2 ⟨Nat.zero_le _, Nat.zero_le _⟩ (fun u_2 H locs hw hP hD hS => ?_)
  obtain ⟨fo2_2, en2_2, lo2_2⟩ := u_2
  have hP : va_P D vwCl [(f1, .inl (cA, 20, .inl (nF fo2_2))), (e1, .inl (cA, 20, .inl (nF en2_2))), (l1, .inl (cA, 20, .inl (nF lo2_2)))] H := hP
  have hD : va_D A [(f1, .inl (cA, 20, .inl (nF fo2_2))), (e1, .inl (cA, 20, .inl (nF en2_2))), (l1, .inl (cA, 20, .inl (nF lo2_2)))] := hD
  have hw_2 : (∀ j, j < 2 * a 1 → fo2_2 j = fol a j) ∧ (∀ j, j < 2 * a 1 → en2_2 j = endN a (z - 1) j) := hw
  refine lv_aload_n hx hb dX0_garlandsOf_5 rfl (lv_at hl 0 rfl) ?_
  refine va_get (D := D) (cl := vwCl) (ci := 0) (v := .ref h0) (C := RX0) (T := TX0) (N := 4) hx hb hts inf_X0_garlandsOf_X0 hown hK.1 (hR.at hS) 0 rfl rfl 0 (by decide) (hts _ (List.mem_of_getElem? (i := 1) rfl)) (fun _ h9 => h9) rfl dX0_garlandsOf_6 ?_
  refine call_r (q := (RX4, TX4, 1)) (As := []) (rest := []) F (c_X4_dollsToCut l D cA h0 h1 h2 a) (cwV 0 hts gX0_garlandsOf_X4_dollsToCut rfl rfl rfl ydv_X4_dollsToCut ⟨Nat.le_of_ble_eq_true rfl, Nat.le_of_ble_eq_true rfl⟩) hK hR hP hD hA hS [1, 2, 3] rfl rfl 1 4 rfl rfl rfl hl.1 rfl (Nat.le_of_ble_eq_true rfl) dX0_garlandsOf_9 ⟨Nat.zero_le _, Nat.zero_le _⟩ (fun H locs hP hS => ?_)
  refine lv_istore_n (lv' := [(2, .int (nI (2 * a 1))), (0, .ref q0), (1, .int (nI z))]) hx hb dX0_garlandsOf_12 rfl hl (by decide) rfl (fun ls hl => ?_)
  refine lv_iconst (v := nI 0) hx hb dX0_garlandsOf_13 (by decide) ?_
  refine lv_istore_n (lv' := [(3, .int (nI 0)), (2, .int (nI (2 * a 1))), (0, .ref q0), (1, .int (nI z))]) hx hb dX0_garlandsOf_14 rfl hl (by decide) rfl (fun ls hl => ?_)
  refine lv_iconst (v := nI 0) hx hb dX0_garlandsOf_15 (by decide) ?_
  refine lv_istore (lv' := [(4, .int (nI 0)), (3, .int (nI 0)), (2, .int (nI (2 * a 1))), (0, .ref q0), (1, .int (nI z))]) hx hb dX0_garlandsOf_16 hl (by decide) rfl (fun ls hl => ?_)
  have LP_18 : ∀ (k_18 : Nat) (i : Nat) (x : Nat) (H : Heap) (locs : List Loc) (ls : Array Slot), 2 * a 1 - i = k_18 → (i ≤ 2 * a 1) → (x = sumN (fun j => endN a (z - 1) j) i) → va_P D vwCl [(f1, .inl (cA, 20, .inl (nF fo2_2))), (e1, .inl (cA, 20, .inl (nF en2_2))), (l1, .inl (cA, 20, .inl (nF lo2_2)))] H → va_D A [(f1, .inl (cA, 20, .inl (nF fo2_2))), (e1, .inl (cA, 20, .inl (nF en2_2))), (l1, .inl (cA, 20, .inl (nF lo2_2)))] → va_S A s.heap H locs → lv_has ls 5 [(0, .ref q0), (1, .int (nI z)), (2, .int (nI (2 * a 1))), (3, .int (nI x)), (4, .int (nI i))] → W p l e rm_X0_garlandsOf s m args below meth c H locs 0 0 Q (F0 m 18 ls []) := by
    refine sind (fun k_18 ih_18 => ?_)
    intro i x H locs ls hk_18 hi hx_ hP hD hS hl
    refine lv_iload hx hb dX0_garlandsOf_18 (lv_at hl 4 rfl) ?_
    refine lv_iload_n hx hb dX0_garlandsOf_20 rfl (lv_at hl 2 rfl) ?_
    refine nv_icmp_ge (tgt := 42) hx hb dX0_garlandsOf_21 (by decide) (by omega) (by omega) (fun c_21 => ?_) (fun c_21 => ?_)
    · refine lv_iload_n hx hb dX0_garlandsOf_42 rfl (lv_at hl 3 rfl) ?_
      refine tope (y := nI (allN a z)) (by rw [hx_, show i = 2 * a 1 by omega]; rfl) ?_
      exact RET _ _ _ _ _ (fo2_2, en2_2, lo2_2) dX0_garlandsOf_43 rfl rfl hP hS
    · refine lv_iload_n hx hb dX0_garlandsOf_24 rfl (lv_at hl 3 rfl) ?_
      refine lv_aload_n hx hb dX0_garlandsOf_25 rfl (lv_at hl 0 rfl) ?_
      refine va_get (D := D) (cl := vwCl) (ci := 0) (v := .ref e0) (C := RX0) (T := TX0) (N := 4) hx hb hts inf_X0_garlandsOf_X0 hown hK.1 (hR.at hS) 0 rfl rfl 2 (by decide) (hts _ (List.mem_of_getElem? (i := 2) rfl)) (fun _ h9 => h9) rfl dX0_garlandsOf_26 ?_
      refine lv_iload hx hb dX0_garlandsOf_29 (lv_at hl 4 rfl) ?_
      refine call_r (q := (RX3, TX3, 1)) (As := [.int (nI i)]) (rest := [.int (nI x)]) F (c_X3_at l D cA e0 e1 20 en2_2 i (by omega) (by decide)) (cwV 1 hts gX0_garlandsOf_X3_at rfl rfl rfl ydv_X3_at ⟨Nat.le_of_ble_eq_true rfl, Nat.le_of_ble_eq_true rfl⟩) hK hR hP hD hA hS [5, 8] rfl rfl 5 3 rfl rfl rfl hl.1 rfl (Nat.le_of_ble_eq_true rfl) dX0_garlandsOf_31 ⟨Nat.zero_le _, Nat.zero_le _⟩ (fun H locs hP hS => ?_)
      refine nv_iadd hx hb dX0_garlandsOf_34 ?_
      refine lv_istore_n (lv' := [(3, .int (nI (x + (en2_2 i)))), (0, .ref q0), (1, .int (nI z)), (2, .int (nI (2 * a 1))), (4, .int (nI i))]) hx hb dX0_garlandsOf_35 rfl hl (by decide) rfl (fun ls hl => ?_)
      refine lv_iinc (v := nI (i + 1)) (lv' := [(4, .int (nI (i + 1))), (3, .int (nI (x + (en2_2 i)))), (0, .ref q0), (1, .int (nI z)), (2, .int (nI (2 * a 1)))]) hx hb dX0_garlandsOf_36 hl (k := 4) rfl (nI_add _ _) (by decide) rfl (fun ls hl => ?_)
      refine lv_goto (tgt := 18) hx hb dX0_garlandsOf_39 (by decide) ?_
      exact ih_18 _ (by omega) (i + 1) (x + (en2_2 i)) _ _ _ rfl (by omega) (by rw [hx_, hw_2.2 i c_21]; rfl) hP hD hS (lv_sub hl [2, 3, 4, 1, 0] rfl)
  exact LP_18 _ 0 0 _ _ _ rfl (by omega) (rfl) hP hD hS (lv_sub hl [3, 4, 2, 1, 0] rfl)
abbrev rm_X0_ownMirrorsOf : Room := { frames := 5, cells := 0, slots := 0, locals := 115 }
theorem ydv_X0_ownMirrorsOf : yX0_ownMirrorsOf.cls = RX0 ∧ yX0_ownMirrorsOf.cls ≠ "java/lang/invoke/MethodHandle" ∧ yX0_ownMirrorsOf.cls ≠ "java/lang/invoke/VarHandle" ∧ (parseMethodDescriptor yX0_ownMirrorsOf.desc).map (fun d => d.parameters.length) = some 1 := by decide +kernel
theorem inf_X0_ownMirrorsOf_X0 : ∀ w ∈ wsX00, w ∈ wsX0_ownMirrorsOf := fun w h => List.mem_cons_of_mem _ (List.mem_append_left _ (List.mem_append_left _ (List.mem_append_right _ (h))))
set_option maxHeartbeats 4000000 in
set_option maxRecDepth 100000 in
theorem c_X0_ownMirrorsOf (l : Launch) (D : va_G) (cA : ClassId) (q0 f0 e0 l0 f1 e1 l1 h0 h1 h2 : Nat) (a fo en lo : Nat → Nat) (z : Nat) (hV : Vd a) (hz : 1 ≤ z ∧ z ≤ 6) : MI l D cA yX0_ownMirrorsOf wsX0_ownMirrorsOf rm_X0_ownMirrorsOf [.ref q0, .int (nI z)] [(q0, .inr (0, [.ref h0, .ref f0, .ref e0, .ref l0])), (h0, .inr (4, [.ref h1])), (h1, .inr (3, [.ref h2])), (h2, .inl (cA, 286, .inl (nF a))), (f0, .inr (3, [.ref f1])), (e0, .inr (3, [.ref e1])), (l0, .inr (3, [.ref l1]))] [(f1, .inl (cA, 20, .inl (nF fo))), (e1, .inl (cA, 20, .inl (nF en))), (l1, .inl (cA, 20, .inl (nF lo)))] (S := (Nat → Nat) × (Nat → Nat) × (Nat → Nat)) (fun r (u : (Nat → Nat) × (Nat → Nat) × (Nat → Nat)) => r = nI (ownN a z)) (fun (u : (Nat → Nat) × (Nat → Nat) × (Nat → Nat)) => [(f1, .inl (cA, 20, .inl (nF u.1))), (e1, .inl (cA, 20, .inl (nF u.2.1))), (l1, .inl (cA, 20, .inl (nF u.2.2)))]) := by
  refine ofWi (cc := cX0_ownMirrorsOf) (maxL := 5) (rt := .int) (by decide) rfl (Nat.le_of_ble_eq_true rfl) ?_
  intro p e s m args below meth c Q A ls F hK hR hP hD hA hS hl RET
  obtain ⟨hx, hb, hml, hown, hts⟩ := id F
  have hl : lv_has ls 5 [(0, .ref q0), (1, .int (nI z))] := hl
  have hk_ := hV.k
  refine lv_iload_n hx hb dX0_ownMirrorsOf_0 rfl (lv_at hl 1 rfl) ?_
  refine lv_iconst (v := nI 2) hx hb dX0_ownMirrorsOf_1 (by decide) ?_
  refine nv_irem hx hb dX0_ownMirrorsOf_2 (by omega) (by decide) (by decide) ?_
  refine lv_iconst (v := nI 1) hx hb dX0_ownMirrorsOf_3 (by decide) ?_
  refine nv_icmp_ne (tgt := 9) hx hb dX0_ownMirrorsOf_4 (by decide) (by omega) (by decide) (fun c_4 => ?_) (fun c_4 => ?_)
  · refine lv_aload_n hx hb dX0_ownMirrorsOf_9 rfl (lv_at hl 0 rfl) ?_
    refine lv_iload_n hx hb dX0_ownMirrorsOf_10 rfl (lv_at hl 1 rfl) ?_
    refine lv_iconst (v := nI 2) hx hb dX0_ownMirrorsOf_11 (by decide) ?_
    refine nv_idiv hx hb dX0_ownMirrorsOf_12 (by omega) (by decide) (by decide) ?_
    refine call_v (q := (RX0, TX0, 4)) (As := [.int (nI (z / 2))]) (rest := []) F (c_X0_countEndings l D cA q0 f0 e0 l0 f1 e1 l1 h0 h1 h2 a fo en lo (z / 2) (hV) (by omega)) (cwV 1 hts gX0_ownMirrorsOf_X0_countEndings rfl rfl rfl ydv_X0_countEndings ⟨Nat.le_of_ble_eq_true rfl, Nat.le_of_ble_eq_true rfl⟩) hK hR hP hD hA hS [0, 1, 2, 3, 4, 5, 6, 7, 8, 9] [0, 1, 2] rfl rfl rfl 0 0 rfl rfl (fun _ => rfl) rfl hl.1 rfl (Nat.le_of_ble_eq_true rfl) dX0_ownMirrorsOf_13 ⟨Nat.zero_le _, Nat.zero_le _⟩ (fun u_13 H locs hw hP hD hS => ?_)
    obtain ⟨fo2_13, en2_13, lo2_13⟩ := u_13
    have hP : va_P D vwCl [(f1, .inl (cA, 20, .inl (nF fo2_13))), (e1, .inl (cA, 20, .inl (nF en2_13))), (l1, .inl (cA, 20, .inl (nF lo2_13)))] H := hP
    have hD : va_D A [(f1, .inl (cA, 20, .inl (nF fo2_13))), (e1, .inl (cA, 20, .inl (nF en2_13))), (l1, .inl (cA, 20, .inl (nF lo2_13)))] := hD
    have hw_13 : (∀ j, j < 2 * a 1 → fo2_13 j = fol a j) ∧ (∀ j, j < 2 * a 1 → en2_13 j = endN a ((z / 2) - 1) j) := hw
    refine lv_aload_n hx hb dX0_ownMirrorsOf_16 rfl (lv_at hl 0 rfl) ?_
    refine va_get (D := D) (cl := vwCl) (ci := 0) (v := .ref h0) (C := RX0) (T := TX0) (N := 4) hx hb hts inf_X0_ownMirrorsOf_X0 hown hK.1 (hR.at hS) 0 rfl rfl 0 (by decide) (hts _ (List.mem_of_getElem? (i := 1) rfl)) (fun _ h9 => h9) rfl dX0_ownMirrorsOf_17 ?_
    refine call_r (q := (RX4, TX4, 1)) (As := []) (rest := []) F (c_X4_dollsToCut l D cA h0 h1 h2 a) (cwV 0 hts gX0_ownMirrorsOf_X4_dollsToCut rfl rfl rfl ydv_X4_dollsToCut ⟨Nat.le_of_ble_eq_true rfl, Nat.le_of_ble_eq_true rfl⟩) hK hR hP hD hA hS [1, 2, 3] rfl rfl 1 4 rfl rfl rfl hl.1 rfl (Nat.le_of_ble_eq_true rfl) dX0_ownMirrorsOf_20 ⟨Nat.zero_le _, Nat.zero_le _⟩ (fun H locs hP hS => ?_)
    refine lv_istore_n (lv' := [(2, .int (nI (2 * a 1))), (0, .ref q0), (1, .int (nI z))]) hx hb dX0_ownMirrorsOf_23 rfl hl (by decide) rfl (fun ls hl => ?_)
    refine lv_iconst (v := nI 0) hx hb dX0_ownMirrorsOf_24 (by decide) ?_
    refine lv_istore_n (lv' := [(3, .int (nI 0)), (2, .int (nI (2 * a 1))), (0, .ref q0), (1, .int (nI z))]) hx hb dX0_ownMirrorsOf_25 rfl hl (by decide) rfl (fun ls hl => ?_)
    refine lv_iconst (v := nI 0) hx hb dX0_ownMirrorsOf_26 (by decide) ?_
    refine lv_istore (lv' := [(4, .int (nI 0)), (3, .int (nI 0)), (2, .int (nI (2 * a 1))), (0, .ref q0), (1, .int (nI z))]) hx hb dX0_ownMirrorsOf_27 hl (by decide) rfl (fun ls hl => ?_)
    have LP_29 : ∀ (k_29 : Nat) (i : Nat) (x : Nat) (H : Heap) (locs : List Loc) (ls : Array Slot), 2 * a 1 - i = k_29 → (i ≤ 2 * a 1) → (x = sumN (fun j => if bit (fol a j) (mir j) then endN a (z / 2 - 1) j else 0) i) → va_P D vwCl [(f1, .inl (cA, 20, .inl (nF fo2_13))), (e1, .inl (cA, 20, .inl (nF en2_13))), (l1, .inl (cA, 20, .inl (nF lo2_13)))] H → va_D A [(f1, .inl (cA, 20, .inl (nF fo2_13))), (e1, .inl (cA, 20, .inl (nF en2_13))), (l1, .inl (cA, 20, .inl (nF lo2_13)))] → va_S A s.heap H locs → lv_has ls 5 [(0, .ref q0), (1, .int (nI z)), (2, .int (nI (2 * a 1))), (3, .int (nI x)), (4, .int (nI i))] → W p l e rm_X0_ownMirrorsOf s m args below meth c H locs 0 0 Q (F0 m 29 ls []) := by
      refine sind (fun k_29 ih_29 => ?_)
      intro i x H locs ls hk_29 hi hx_ hP hD hS hl
      refine lv_iload hx hb dX0_ownMirrorsOf_29 (lv_at hl 4 rfl) ?_
      refine lv_iload_n hx hb dX0_ownMirrorsOf_31 rfl (lv_at hl 2 rfl) ?_
      refine nv_icmp_ge (tgt := 73) hx hb dX0_ownMirrorsOf_32 (by decide) (by omega) (by omega) (fun c_32 => ?_) (fun c_32 => ?_)
      · refine lv_iload_n hx hb dX0_ownMirrorsOf_73 rfl (lv_at hl 3 rfl) ?_
        refine tope (y := nI (ownN a z)) (by rw [hx_, show i = 2 * a 1 by omega, ownN, if_neg c_4]) ?_
        exact RET _ _ _ _ _ (fo2_13, en2_13, lo2_13) dX0_ownMirrorsOf_74 rfl rfl hP hS
      · have hfl_ := fol_lt hV i
        have hml_ := mir_lt (d := i) (by omega)
        refine lv_aload_n hx hb dX0_ownMirrorsOf_35 rfl (lv_at hl 0 rfl) ?_
        refine va_get (D := D) (cl := vwCl) (ci := 0) (v := .ref f0) (C := RX0) (T := TX0) (N := 4) hx hb hts inf_X0_ownMirrorsOf_X0 hown hK.1 (hR.at hS) 0 rfl rfl 1 (by decide) (hts _ (List.mem_of_getElem? (i := 2) rfl)) (fun _ h9 => h9) rfl dX0_ownMirrorsOf_36 ?_
        refine lv_iload hx hb dX0_ownMirrorsOf_39 (lv_at hl 4 rfl) ?_
        refine call_r (q := (RX3, TX3, 1)) (As := [.int (nI i)]) (rest := []) F (c_X3_at l D cA f0 f1 20 fo2_13 i (by omega) (by decide)) (cwV 1 hts gX0_ownMirrorsOf_X3_at rfl rfl rfl ydv_X3_at ⟨Nat.le_of_ble_eq_true rfl, Nat.le_of_ble_eq_true rfl⟩) hK hR hP hD hA hS [4, 7] rfl rfl 4 3 rfl rfl rfl hl.1 rfl (Nat.le_of_ble_eq_true rfl) dX0_ownMirrorsOf_41 ⟨Nat.zero_le _, Nat.zero_le _⟩ (fun H locs hP hS => ?_)
        refine lv_iload hx hb dX0_ownMirrorsOf_44 (lv_at hl 4 rfl) ?_
        refine call_n (As := [.int (nI i)]) (rest := [.int (nI (fo2_13 i))]) F (c_X6_mirrorOf l D cA i) ⟨va_cnB 1 hts gX0_ownMirrorsOf_X6_mirrorOf_n70 rfl rfl rfl (hK.2 _ (List.mem_of_getElem? (i := 10) rfl)) (hts _ (List.mem_of_getElem? (i := 39) rfl)) yd_X6_mirrorOf ⟨Nat.le_of_ble_eq_true rfl, Nat.le_of_ble_eq_true rfl⟩, (hts _ (List.mem_of_getElem? (i := 71) rfl)), trivial⟩ hK hR hP hD hA hS rfl hl.1 rfl (Nat.le_of_ble_eq_true rfl) dX0_ownMirrorsOf_46 ⟨Nat.zero_le _, Nat.zero_le _⟩ (fun H locs hP hS => ?_)
        refine call_s (As := [.int (nI (fo2_13 i)), .int (nI (mir i))]) (rest := []) F (c_X0_holds l D cA (fo2_13 i) (mir i) (by rw [hw_13.1 i c_32]; omega) (by omega)) (va_cwS 2 hts gX0_ownMirrorsOf_X0_holds rfl rfl rfl yd_X0_holds ⟨Nat.le_of_ble_eq_true rfl, Nat.le_of_ble_eq_true rfl⟩) hK hR hP hD hA hS rfl hl.1 rfl (Nat.le_of_ble_eq_true rfl) dX0_ownMirrorsOf_49 ⟨Nat.zero_le _, Nat.zero_le _⟩ (fun H locs hP hS => ?_)
        refine bv_if_eq (tgt := 67) hx hb dX0_ownMirrorsOf_52 (by decide) (fun c_52 => ?_) (fun c_52 => ?_)
        · refine lv_iinc (v := nI (i + 1)) (lv' := [(4, .int (nI (i + 1))), (0, .ref q0), (1, .int (nI z)), (2, .int (nI (2 * a 1))), (3, .int (nI x))]) hx hb dX0_ownMirrorsOf_67 hl (k := 4) rfl (nI_add _ _) (by decide) rfl (fun ls hl => ?_)
          refine lv_goto (tgt := 29) hx hb dX0_ownMirrorsOf_70 (by decide) ?_
          exact ih_29 _ (by omega) (i + 1) x _ _ _ rfl (by omega) (by rw [hx_]; simp [sumN, hw_13.1 i c_32, hw_13.2 i c_32] at c_52 ⊢; simp [c_52]) hP hD hS (lv_sub hl [1, 2, 3, 4, 0] rfl)
        · refine lv_iload_n hx hb dX0_ownMirrorsOf_55 rfl (lv_at hl 3 rfl) ?_
          refine lv_aload_n hx hb dX0_ownMirrorsOf_56 rfl (lv_at hl 0 rfl) ?_
          refine va_get (D := D) (cl := vwCl) (ci := 0) (v := .ref e0) (C := RX0) (T := TX0) (N := 4) hx hb hts inf_X0_ownMirrorsOf_X0 hown hK.1 (hR.at hS) 0 rfl rfl 2 (by decide) (hts _ (List.mem_of_getElem? (i := 3) rfl)) (fun _ h9 => h9) rfl dX0_ownMirrorsOf_57 ?_
          refine lv_iload hx hb dX0_ownMirrorsOf_60 (lv_at hl 4 rfl) ?_
          refine call_r (q := (RX3, TX3, 1)) (As := [.int (nI i)]) (rest := [.int (nI x)]) F (c_X3_at l D cA e0 e1 20 en2_13 i (by omega) (by decide)) (cwV 1 hts gX0_ownMirrorsOf_X3_at rfl rfl rfl ydv_X3_at ⟨Nat.le_of_ble_eq_true rfl, Nat.le_of_ble_eq_true rfl⟩) hK hR hP hD hA hS [5, 8] rfl rfl 5 3 rfl rfl rfl hl.1 rfl (Nat.le_of_ble_eq_true rfl) dX0_ownMirrorsOf_62 ⟨Nat.zero_le _, Nat.zero_le _⟩ (fun H locs hP hS => ?_)
          refine nv_iadd hx hb dX0_ownMirrorsOf_65 ?_
          refine lv_istore_n (lv' := [(3, .int (nI (x + (en2_13 i)))), (0, .ref q0), (1, .int (nI z)), (2, .int (nI (2 * a 1))), (4, .int (nI i))]) hx hb dX0_ownMirrorsOf_66 rfl hl (by decide) rfl (fun ls hl => ?_)
          refine lv_iinc (v := nI (i + 1)) (lv' := [(4, .int (nI (i + 1))), (3, .int (nI (x + (en2_13 i)))), (0, .ref q0), (1, .int (nI z)), (2, .int (nI (2 * a 1)))]) hx hb dX0_ownMirrorsOf_67 hl (k := 4) rfl (nI_add _ _) (by decide) rfl (fun ls hl => ?_)
          refine lv_goto (tgt := 29) hx hb dX0_ownMirrorsOf_70 (by decide) ?_
          exact ih_29 _ (by omega) (i + 1) (x + (en2_13 i)) _ _ _ rfl (by omega) (by rw [hx_]; simp [sumN, hw_13.1 i c_32, hw_13.2 i c_32] at c_52 ⊢; simp [c_52]) hP hD hS (lv_sub hl [2, 3, 4, 1, 0] rfl)
    exact LP_29 _ 0 0 _ _ _ rfl (by omega) (rfl) hP hD hS (lv_sub hl [3, 4, 2, 1, 0] rfl)
  · refine lv_iconst (v := nI 0) hx hb dX0_ownMirrorsOf_7 (by decide) ?_
    refine tope (y := nI (ownN a z)) (by simp [ownN, c_4]) ?_
    exact RET _ _ _ _ _ (fo, en, lo) dX0_ownMirrorsOf_8 rfl rfl hP hS
