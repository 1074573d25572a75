/-! laid by a program: contracts of X1_size, X1_cellOf, X1_remember, X1_goBack, X5_size, X5_isFull, X5_add, X5_empty, X5_isDigit, X5_fault, X5_spellDolls -/
abbrev rm_X1_size : Room := { frames := 0, cells := 0, slots := 0, locals := 0 }
theorem ydv_X1_size : yX1_size.cls = RX1 ∧ yX1_size.cls ≠ "java/lang/invoke/MethodHandle" ∧ yX1_size.cls ≠ "java/lang/invoke/VarHandle" ∧ (parseMethodDescriptor yX1_size.desc).map (fun d => d.parameters.length) = some 0 := by decide +kernel
theorem inf_X1_size_X1 : ∀ w ∈ wsX10, w ∈ wsX1_size := fun w h => List.mem_cons_of_mem _ (List.mem_append_right _ (h))
set_option maxHeartbeats 4000000 in
set_option maxRecDepth 100000 in
theorem c_X1_size (l : Launch) (D : va_G) (cA : ClassId) (c0 c1 : Nat) (o r : Nat)  : RO l D cA yX1_size wsX1_size rm_X1_size [.ref c0] [(c0, .inr (1, [.ref c1, .int (nI o), .int (nI r)]))] (nI r) := by
  refine ofWi (cc := cX1_size) (maxL := 1) (rt := .int) (by decide) rfl (Nat.le_of_ble_eq_true rfl) ?_
  intro p e s m args below meth c Q A ls F hK hR hP hD hA hS hl RET
  obtain ⟨hx, hb, hml, hown, hts⟩ := id F
  have hl : lv_has ls 1 [(0, .ref c0)] := hl
  refine lv_aload_n hx hb dX1_size_0 rfl (lv_at hl 0 rfl) ?_
  refine va_get (D := D) (cl := vwCl) (ci := 1) (v := .int (nI r)) (C := RX1) (T := TX1) (N := 3) hx hb hts inf_X1_size_X1 hown hK.1 (hR.at hS) 0 rfl rfl 2 (by decide) (hts _ (List.mem_of_getElem? (i := 1) rfl)) (fun _ h9 => h9) rfl dX1_size_1 ?_
  exact RET _ _ _ _ _ () dX1_size_4 rfl rfl hP hS
abbrev rm_X1_cellOf : Room := { frames := 0, cells := 0, slots := 0, locals := 0 }
theorem ydv_X1_cellOf : yX1_cellOf.cls = RX1 ∧ yX1_cellOf.cls ≠ "java/lang/invoke/MethodHandle" ∧ yX1_cellOf.cls ≠ "java/lang/invoke/VarHandle" ∧ (parseMethodDescriptor yX1_cellOf.desc).map (fun d => d.parameters.length) = some 1 := by decide +kernel
theorem inf_X1_cellOf_X1 : ∀ w ∈ wsX10, w ∈ wsX1_cellOf := fun w h => List.mem_cons_of_mem _ (List.mem_append_right _ (h))
set_option maxHeartbeats 4000000 in
set_option maxRecDepth 100000 in
theorem c_X1_cellOf (l : Launch) (D : va_G) (cA : ClassId) (c0 c1 : Nat) (o r : Nat) (t : Nat) (e1 : o + t < 2 ^ 31) : RO l D cA yX1_cellOf wsX1_cellOf rm_X1_cellOf [.ref c0, .int (nI t)] [(c0, .inr (1, [.ref c1, .int (nI o), .int (nI r)]))] (nI ((o + t) % 4 * 286)) := by
  refine ofWi (cc := cX1_cellOf) (maxL := 2) (rt := .int) (by decide) rfl (Nat.le_of_ble_eq_true rfl) ?_
  intro p e s m args below meth c Q A ls F hK hR hP hD hA hS hl RET
  obtain ⟨hx, hb, hml, hown, hts⟩ := id F
  have hl : lv_has ls 2 [(0, .ref c0), (1, .int (nI t))] := hl
  refine lv_aload_n hx hb dX1_cellOf_0 rfl (lv_at hl 0 rfl) ?_
  refine va_get (D := D) (cl := vwCl) (ci := 1) (v := .int (nI o)) (C := RX1) (T := TX1) (N := 3) hx hb hts inf_X1_cellOf_X1 hown hK.1 (hR.at hS) 0 rfl rfl 1 (by decide) (hts _ (List.mem_of_getElem? (i := 1) rfl)) (fun _ h9 => h9) rfl dX1_cellOf_1 ?_
  refine lv_iload_n hx hb dX1_cellOf_4 rfl (lv_at hl 1 rfl) ?_
  refine nv_iadd hx hb dX1_cellOf_5 ?_
  refine lv_iconst (v := nI 4) hx hb dX1_cellOf_6 (by decide) ?_
  refine nv_irem hx hb dX1_cellOf_7 (by omega) (by decide) (by decide) ?_
  refine lv_sipush (v := nI 286) hx hb dX1_cellOf_8 (by decide) ?_
  refine nv_imul hx hb dX1_cellOf_11 ?_
  refine tope (y := nI ((o + t) % 4 * 286)) (by rfl) ?_
  exact RET _ _ _ _ _ () dX1_cellOf_12 rfl rfl hP hS
abbrev rm_X1_remember : Room := { frames := 3, cells := 0, slots := 0, locals := 72 }
theorem ydv_X1_remember : yX1_remember.cls = RX1 ∧ yX1_remember.cls ≠ "java/lang/invoke/MethodHandle" ∧ yX1_remember.cls ≠ "java/lang/invoke/VarHandle" ∧ (parseMethodDescriptor yX1_remember.desc).map (fun d => d.parameters.length) = some 1 := by decide +kernel
theorem inf_X1_remember_X1 : ∀ w ∈ wsX10, w ∈ wsX1_remember := fun w h => List.mem_cons_of_mem _ (List.mem_append_left _ (List.mem_append_left _ (List.mem_append_right _ (h))))
set_option maxHeartbeats 4000000 in
set_option maxRecDepth 100000 in
theorem c_X1_remember (l : Launch) (D : va_G) (cA : ClassId) (c0 c1 c2 : Nat) (o r : Nat) (hs : Nat → Nat) (h0 h1 h2 : Nat) (a : Nat → Nat) (ho : o < 4) (hr_ : r ≤ 4) : MV l D cA yX1_remember wsX1_remember rm_X1_remember [.ref c0, .ref h0] [(c1, .inr (3, [.ref c2])), (h0, .inr (4, [.ref h1])), (h1, .inr (3, [.ref h2]))] [(c0, .inr (1, [.ref c1, .int (nI o), .int (nI r)])), (c2, .inl (cA, 1144, .inl (nF hs))), (h2, .inl (cA, 286, .inl (nF a)))] (S := Unit) (fun (u : Unit) => True) (fun (u : Unit) => [(c0, .inr (1, [.ref c1, .int (nI (hisO o r)), .int (nI (hisT r + 1))])), (c2, .inl (cA, 1144, .inl (nF (cpyN a hs 0 ((hisO o r + hisT r) % 4 * 286) 286)))), (h2, .inl (cA, 286, .inl (nF a)))]) := by
  refine ofWv (cc := cX1_remember) (maxL := 2) (by decide) rfl (Nat.le_of_ble_eq_true rfl) ?_
  intro p e s m args below meth c Q A ls F hK hR hP hD hA hS hl RET
  obtain ⟨hx, hb, hml, hown, hts⟩ := id F
  have hl : lv_has ls 2 [(0, .ref c0), (1, .ref h0)] := hl
  refine lv_aload_n hx hb dX1_remember_0 rfl (lv_at hl 0 rfl) ?_
  refine va_get (D := D) (cl := vwCl) (ci := 1) (v := .int (nI r)) (C := RX1) (T := TX1) (N := 3) hx hb hts inf_X1_remember_X1 hown hK.1 hP 0 rfl rfl 2 (by decide) (hts _ (List.mem_of_getElem? (i := 1) rfl)) (fun _ h9 => h9) rfl dX1_remember_1 ?_
  refine lv_iconst (v := nI 4) hx hb dX1_remember_4 (by decide) ?_
  refine nv_icmp_ne (tgt := 30) hx hb dX1_remember_5 (by decide) (by omega) (by decide) (fun c_5 => ?_) (fun c_5 => ?_)
  · refine lv_aload_n hx hb dX1_remember_30 rfl (lv_at hl 1 rfl) ?_
    refine lv_aload_n hx hb dX1_remember_31 rfl (lv_at hl 0 rfl) ?_
    refine va_get (D := D) (cl := vwCl) (ci := 1) (v := .ref c1) (C := RX1) (T := TX1) (N := 3) hx hb hts inf_X1_remember_X1 hown hK.1 hP 0 rfl rfl 0 (by decide) (hts _ (List.mem_of_getElem? (i := 3) rfl)) (fun _ h9 => h9) rfl dX1_remember_32 ?_
    refine lv_aload_n hx hb dX1_remember_35 rfl (lv_at hl 0 rfl) ?_
    refine lv_aload_n hx hb dX1_remember_36 rfl (lv_at hl 0 rfl) ?_
    refine va_get (D := D) (cl := vwCl) (ci := 1) (v := .int (nI r)) (C := RX1) (T := TX1) (N := 3) hx hb hts inf_X1_remember_X1 hown hK.1 hP 0 rfl rfl 2 (by decide) (hts _ (List.mem_of_getElem? (i := 1) rfl)) (fun _ h9 => h9) rfl dX1_remember_37 ?_
    refine call_r (q := (RX1, TX1, 3)) (As := [.int (nI r)]) (rest := [.ref c1, .ref h0]) F (c_X1_cellOf l D cA c0 c1 o r r (by omega)) (cwV 1 hts gX1_remember_X1_cellOf rfl rfl rfl ydv_X1_cellOf ⟨Nat.le_of_ble_eq_true rfl, Nat.le_of_ble_eq_true rfl⟩) hK hR hP hD hA hS [3] rfl rfl 3 1 rfl rfl rfl hl.1 rfl (Nat.le_of_ble_eq_true rfl) dX1_remember_40 ⟨Nat.zero_le _, Nat.zero_le _⟩ (fun H locs hP hS => ?_)
    refine call_v (q := (RX4, TX4, 1)) (As := [.ref c1, .int (nI ((o + r) % 4 * 286))]) (rest := []) F (c_X4_saveTo l D cA h0 h1 h2 a c1 c2 1144 hs ((o + r) % 4 * 286) (by omega) (by decide)) (cwV 2 hts gX1_remember_X4_saveTo rfl rfl rfl ydv_X4_saveTo ⟨Nat.le_of_ble_eq_true rfl, Nat.le_of_ble_eq_true rfl⟩) hK hR hP hD hA hS [1, 2, 0, 5, 4] [2, 1] rfl rfl rfl 1 4 rfl rfl (fun _ => rfl) rfl hl.1 rfl (Nat.le_of_ble_eq_true rfl) dX1_remember_43 ⟨Nat.zero_le _, Nat.zero_le _⟩ (fun u_43 H locs hw hP hD hS => ?_)
    have hP : va_P D vwCl [(c0, .inr (1, [.ref c1, .int (nI o), .int (nI r)])), (c2, .inl (cA, 1144, .inl (nF (cpyN a hs 0 ((o + r) % 4 * 286) 286)))), (h2, .inl (cA, 286, .inl (nF a)))] H := hP
    have hD : va_D A [(c0, .inr (1, [.ref c1, .int (nI o), .int (nI r)])), (c2, .inl (cA, 1144, .inl (nF (cpyN a hs 0 ((o + r) % 4 * 286) 286)))), (h2, .inl (cA, 286, .inl (nF a)))] := hD
    refine lv_aload_n hx hb dX1_remember_46 rfl (lv_at hl 0 rfl) ?_
    refine lv_dup hx hb dX1_remember_47 rfl ?_
    refine va_get (D := D) (cl := vwCl) (ci := 1) (v := .int (nI r)) (C := RX1) (T := TX1) (N := 3) hx hb hts inf_X1_remember_X1 hown hK.1 hP 0 rfl rfl 2 (by decide) (hts _ (List.mem_of_getElem? (i := 1) rfl)) (fun _ h9 => h9) rfl dX1_remember_48 ?_
    refine lv_iconst (v := nI 1) hx hb dX1_remember_51 (by decide) ?_
    refine nv_iadd hx hb dX1_remember_52 ?_
    refine va_put (D := D) (ci := 1) (v := .int (nI (r + 1))) (ty := .int) (C := RX1) (T := TX1) (N := 3) hx hb hts inf_X1_remember_X1 tyX1 tyX1_ok nmX1 hown hK.1 hP hD hS 0 rfl rfl 2 (by decide) (hts _ (List.mem_of_getElem? (i := 1) rfl)) (fun _ h9 => h9) rfl (by decide +kernel) rfl rfl (Nat.le_of_ble_eq_true rfl) dX1_remember_53 (fun H locs hP hD hS => ?_)
    have hP : va_P D vwCl [(c0, .inr (1, [.ref c1, .int (nI o), .int (nI (r + 1))])), (c2, .inl (cA, 1144, .inl (nF (cpyN a hs 0 ((o + r) % 4 * 286) 286)))), (h2, .inl (cA, 286, .inl (nF a)))] H := hP
    have hD : va_D A [(c0, .inr (1, [.ref c1, .int (nI o), .int (nI (r + 1))])), (c2, .inl (cA, 1144, .inl (nF (cpyN a hs 0 ((o + r) % 4 * 286) 286)))), (h2, .inl (cA, 286, .inl (nF a)))] := hD
    exact RET _ _ _ _ () dX1_remember_56 trivial (by have e1 : hisO o r = o := (by simp [hisO, c_5]); have e2 : hisT r = r := (by simp [hisT, c_5]); simp only [e1, e2]; exact hP) hS
  · refine lv_aload_n hx hb dX1_remember_8 rfl (lv_at hl 0 rfl) ?_
    refine lv_aload_n hx hb dX1_remember_9 rfl (lv_at hl 0 rfl) ?_
    refine va_get (D := D) (cl := vwCl) (ci := 1) (v := .int (nI o)) (C := RX1) (T := TX1) (N := 3) hx hb hts inf_X1_remember_X1 hown hK.1 hP 0 rfl rfl 1 (by decide) (hts _ (List.mem_of_getElem? (i := 2) rfl)) (fun _ h9 => h9) rfl dX1_remember_10 ?_
    refine lv_iconst (v := nI 1) hx hb dX1_remember_13 (by decide) ?_
    refine nv_iadd hx hb dX1_remember_14 ?_
    refine lv_iconst (v := nI 4) hx hb dX1_remember_15 (by decide) ?_
    refine nv_irem hx hb dX1_remember_16 (by omega) (by decide) (by decide) ?_
    refine va_put (D := D) (ci := 1) (v := .int (nI ((o + 1) % 4))) (ty := .int) (C := RX1) (T := TX1) (N := 3) hx hb hts inf_X1_remember_X1 tyX1 tyX1_ok nmX1 hown hK.1 hP hD hS 0 rfl rfl 1 (by decide) (hts _ (List.mem_of_getElem? (i := 2) rfl)) (fun _ h9 => h9) rfl (by decide +kernel) rfl rfl (Nat.le_of_ble_eq_true rfl) dX1_remember_17 (fun H locs hP hD hS => ?_)
    have hP : va_P D vwCl [(c0, .inr (1, [.ref c1, .int (nI ((o + 1) % 4)), .int (nI r)])), (c2, .inl (cA, 1144, .inl (nF hs))), (h2, .inl (cA, 286, .inl (nF a)))] H := hP
    have hD : va_D A [(c0, .inr (1, [.ref c1, .int (nI ((o + 1) % 4)), .int (nI r)])), (c2, .inl (cA, 1144, .inl (nF hs))), (h2, .inl (cA, 286, .inl (nF a)))] := hD
    refine lv_aload_n hx hb dX1_remember_20 rfl (lv_at hl 0 rfl) ?_
    refine lv_dup hx hb dX1_remember_21 rfl ?_
    refine va_get (D := D) (cl := vwCl) (ci := 1) (v := .int (nI r)) (C := RX1) (T := TX1) (N := 3) hx hb hts inf_X1_remember_X1 hown hK.1 hP 0 rfl rfl 2 (by decide) (hts _ (List.mem_of_getElem? (i := 1) rfl)) (fun _ h9 => h9) rfl dX1_remember_22 ?_
    refine lv_iconst (v := nI 1) hx hb dX1_remember_25 (by decide) ?_
    refine nv_isub hx hb dX1_remember_26 (by omega) ?_
    refine va_put (D := D) (ci := 1) (v := .int (nI (r - 1))) (ty := .int) (C := RX1) (T := TX1) (N := 3) hx hb hts inf_X1_remember_X1 tyX1 tyX1_ok nmX1 hown hK.1 hP hD hS 0 rfl rfl 2 (by decide) (hts _ (List.mem_of_getElem? (i := 1) rfl)) (fun _ h9 => h9) rfl (by decide +kernel) rfl rfl (Nat.le_of_ble_eq_true rfl) dX1_remember_27 (fun H locs hP hD hS => ?_)
    have hP : va_P D vwCl [(c0, .inr (1, [.ref c1, .int (nI ((o + 1) % 4)), .int (nI (r - 1))])), (c2, .inl (cA, 1144, .inl (nF hs))), (h2, .inl (cA, 286, .inl (nF a)))] H := hP
    have hD : va_D A [(c0, .inr (1, [.ref c1, .int (nI ((o + 1) % 4)), .int (nI (r - 1))])), (c2, .inl (cA, 1144, .inl (nF hs))), (h2, .inl (cA, 286, .inl (nF a)))] := hD
    refine lv_aload_n hx hb dX1_remember_30 rfl (lv_at hl 1 rfl) ?_
    refine lv_aload_n hx hb dX1_remember_31 rfl (lv_at hl 0 rfl) ?_
    refine va_get (D := D) (cl := vwCl) (ci := 1) (v := .ref c1) (C := RX1) (T := TX1) (N := 3) hx hb hts inf_X1_remember_X1 hown hK.1 hP 0 rfl rfl 0 (by decide) (hts _ (List.mem_of_getElem? (i := 3) rfl)) (fun _ h9 => h9) rfl dX1_remember_32 ?_
    refine lv_aload_n hx hb dX1_remember_35 rfl (lv_at hl 0 rfl) ?_
    refine lv_aload_n hx hb dX1_remember_36 rfl (lv_at hl 0 rfl) ?_
    refine va_get (D := D) (cl := vwCl) (ci := 1) (v := .int (nI (r - 1))) (C := RX1) (T := TX1) (N := 3) hx hb hts inf_X1_remember_X1 hown hK.1 hP 0 rfl rfl 2 (by decide) (hts _ (List.mem_of_getElem? (i := 1) rfl)) (fun _ h9 => h9) rfl dX1_remember_37 ?_
    refine call_r (q := (RX1, TX1, 3)) (As := [.int (nI (r - 1))]) (rest := [.ref c1, .ref h0]) F (c_X1_cellOf l D cA c0 c1 ((o + 1) % 4) (r - 1) (r - 1) (by omega)) (cwV 1 hts gX1_remember_X1_cellOf rfl rfl rfl ydv_X1_cellOf ⟨Nat.le_of_ble_eq_true rfl, Nat.le_of_ble_eq_true rfl⟩) hK hR hP hD hA hS [3] rfl rfl 3 1 rfl rfl rfl hl.1 rfl (Nat.le_of_ble_eq_true rfl) dX1_remember_40 ⟨Nat.zero_le _, Nat.zero_le _⟩ (fun H locs hP hS => ?_)
    refine call_v (q := (RX4, TX4, 1)) (As := [.ref c1, .int (nI ((((o + 1) % 4) + (r - 1)) % 4 * 286))]) (rest := []) F (c_X4_saveTo l D cA h0 h1 h2 a c1 c2 1144 hs ((((o + 1) % 4) + (r - 1)) % 4 * 286) (by omega) (by decide)) (cwV 2 hts gX1_remember_X4_saveTo rfl rfl rfl ydv_X4_saveTo ⟨Nat.le_of_ble_eq_true rfl, Nat.le_of_ble_eq_true rfl⟩) hK hR hP hD hA hS [1, 2, 0, 5, 4] [2, 1] rfl rfl rfl 1 4 rfl rfl (fun _ => rfl) rfl hl.1 rfl (Nat.le_of_ble_eq_true rfl) dX1_remember_43 ⟨Nat.zero_le _, Nat.zero_le _⟩ (fun u_43 H locs hw hP hD hS => ?_)
    have hP : va_P D vwCl [(c0, .inr (1, [.ref c1, .int (nI ((o + 1) % 4)), .int (nI (r - 1))])), (c2, .inl (cA, 1144, .inl (nF (cpyN a hs 0 ((((o + 1) % 4) + (r - 1)) % 4 * 286) 286)))), (h2, .inl (cA, 286, .inl (nF a)))] H := hP
    have hD : va_D A [(c0, .inr (1, [.ref c1, .int (nI ((o + 1) % 4)), .int (nI (r - 1))])), (c2, .inl (cA, 1144, .inl (nF (cpyN a hs 0 ((((o + 1) % 4) + (r - 1)) % 4 * 286) 286)))), (h2, .inl (cA, 286, .inl (nF a)))] := hD
    refine lv_aload_n hx hb dX1_remember_46 rfl (lv_at hl 0 rfl) ?_
    refine lv_dup hx hb dX1_remember_47 rfl ?_
    refine va_get (D := D) (cl := vwCl) (ci := 1) (v := .int (nI (r - 1))) (C := RX1) (T := TX1) (N := 3) hx hb hts inf_X1_remember_X1 hown hK.1 hP 0 rfl rfl 2 (by decide) (hts _ (List.mem_of_getElem? (i := 1) rfl)) (fun _ h9 => h9) rfl dX1_remember_48 ?_
    refine lv_iconst (v := nI 1) hx hb dX1_remember_51 (by decide) ?_
    refine nv_iadd hx hb dX1_remember_52 ?_
    refine va_put (D := D) (ci := 1) (v := .int (nI ((r - 1) + 1))) (ty := .int) (C := RX1) (T := TX1) (N := 3) hx hb hts inf_X1_remember_X1 tyX1 tyX1_ok nmX1 hown hK.1 hP hD hS 0 rfl rfl 2 (by decide) (hts _ (List.mem_of_getElem? (i := 1) rfl)) (fun _ h9 => h9) rfl (by decide +kernel) rfl rfl (Nat.le_of_ble_eq_true rfl) dX1_remember_53 (fun H locs hP hD hS => ?_)
    have hP : va_P D vwCl [(c0, .inr (1, [.ref c1, .int (nI ((o + 1) % 4)), .int (nI ((r - 1) + 1))])), (c2, .inl (cA, 1144, .inl (nF (cpyN a hs 0 ((((o + 1) % 4) + (r - 1)) % 4 * 286) 286)))), (h2, .inl (cA, 286, .inl (nF a)))] H := hP
    have hD : va_D A [(c0, .inr (1, [.ref c1, .int (nI ((o + 1) % 4)), .int (nI ((r - 1) + 1))])), (c2, .inl (cA, 1144, .inl (nF (cpyN a hs 0 ((((o + 1) % 4) + (r - 1)) % 4 * 286) 286)))), (h2, .inl (cA, 286, .inl (nF a)))] := hD
    exact RET _ _ _ _ () dX1_remember_56 trivial (by have e1 : hisO o r = (o + 1) % 4 := (by simp [hisO, c_5]); have e2 : hisT r = r - 1 := (by simp [hisT, c_5]); simp only [e1, e2]; exact hP) hS
abbrev rm_X1_goBack : Room := { frames := 3, cells := 0, slots := 0, locals := 72 }
theorem ydv_X1_goBack : yX1_goBack.cls = RX1 ∧ yX1_goBack.cls ≠ "java/lang/invoke/MethodHandle" ∧ yX1_goBack.cls ≠ "java/lang/invoke/VarHandle" ∧ (parseMethodDescriptor yX1_goBack.desc).map (fun d => d.parameters.length) = some 1 := by decide +kernel
theorem inf_X1_goBack_X1 : ∀ w ∈ wsX10, w ∈ wsX1_goBack := fun w h => List.mem_cons_of_mem _ (List.mem_append_left _ (List.mem_append_left _ (List.mem_append_right _ (h))))
set_option maxHeartbeats 4000000 in
set_option maxRecDepth 100000 in
theorem c_X1_goBack (l : Launch) (D : va_G) (cA : ClassId) (c0 c1 c2 : Nat) (o r : Nat) (hs : Nat → Nat) (h0 h1 h2 : Nat) (a : Nat → Nat) (ho : o < 4) (hr_ : r ≤ 4) (h0_ : 0 < r) : MV l D cA yX1_goBack wsX1_goBack rm_X1_goBack [.ref c0, .ref h0] [(c1, .inr (3, [.ref c2])), (h0, .inr (4, [.ref h1])), (h1, .inr (3, [.ref h2]))] [(c0, .inr (1, [.ref c1, .int (nI o), .int (nI r)])), (c2, .inl (cA, 1144, .inl (nF hs))), (h2, .inl (cA, 286, .inl (nF a)))] (S := Unit) (fun (u : Unit) => True) (fun (u : Unit) => [(c0, .inr (1, [.ref c1, .int (nI o), .int (nI (r - 1))])), (c2, .inl (cA, 1144, .inl (nF hs))), (h2, .inl (cA, 286, .inl (nF (cpyN hs a ((o + (r - 1)) % 4 * 286) 0 286))))]) := by
  refine ofWv (cc := cX1_goBack) (maxL := 2) (by decide) rfl (Nat.le_of_ble_eq_true rfl) ?_
  intro p e s m args below meth c Q A ls F hK hR hP hD hA hS hl RET
  obtain ⟨hx, hb, hml, hown, hts⟩ := id F
  have hl : lv_has ls 2 [(0, .ref c0), (1, .ref h0)] := hl
  refine lv_aload_n hx hb dX1_goBack_0 rfl (lv_at hl 0 rfl) ?_
  refine va_get (D := D) (cl := vwCl) (ci := 1) (v := .int (nI r)) (C := RX1) (T := TX1) (N := 3) hx hb hts inf_X1_goBack_X1 hown hK.1 hP 0 rfl rfl 2 (by decide) (hts _ (List.mem_of_getElem? (i := 1) rfl)) (fun _ h9 => h9) rfl dX1_goBack_1 ?_
  refine nv_if_le (tgt := 33) hx hb dX1_goBack_4 (by decide) (by omega) (fun c_4 => absurd c_4 (by omega)) (fun c_4 => ?_)
  refine lv_aload_n hx hb dX1_goBack_7 rfl (lv_at hl 0 rfl) ?_
  refine lv_dup hx hb dX1_goBack_8 rfl ?_
  refine va_get (D := D) (cl := vwCl) (ci := 1) (v := .int (nI r)) (C := RX1) (T := TX1) (N := 3) hx hb hts inf_X1_goBack_X1 hown hK.1 hP 0 rfl rfl 2 (by decide) (hts _ (List.mem_of_getElem? (i := 1) rfl)) (fun _ h9 => h9) rfl dX1_goBack_9 ?_
  refine lv_iconst (v := nI 1) hx hb dX1_goBack_12 (by decide) ?_
  refine nv_isub hx hb dX1_goBack_13 (by omega) ?_
  refine va_put (D := D) (ci := 1) (v := .int (nI (r - 1))) (ty := .int) (C := RX1) (T := TX1) (N := 3) hx hb hts inf_X1_goBack_X1 tyX1 tyX1_ok nmX1 hown hK.1 hP hD hS 0 rfl rfl 2 (by decide) (hts _ (List.mem_of_getElem? (i := 1) rfl)) (fun _ h9 => h9) rfl (by decide +kernel) rfl rfl (Nat.le_of_ble_eq_true rfl) dX1_goBack_14 (fun H locs hP hD hS => ?_)
  have hP : va_P D vwCl [(c0, .inr (1, [.ref c1, .int (nI o), .int (nI (r - 1))])), (c2, .inl (cA, 1144, .inl (nF hs))), (h2, .inl (cA, 286, .inl (nF a)))] H := hP
  have hD : va_D A [(c0, .inr (1, [.ref c1, .int (nI o), .int (nI (r - 1))])), (c2, .inl (cA, 1144, .inl (nF hs))), (h2, .inl (cA, 286, .inl (nF a)))] := hD
  refine lv_aload_n hx hb dX1_goBack_17 rfl (lv_at hl 1 rfl) ?_
  refine lv_aload_n hx hb dX1_goBack_18 rfl (lv_at hl 0 rfl) ?_
  refine va_get (D := D) (cl := vwCl) (ci := 1) (v := .ref c1) (C := RX1) (T := TX1) (N := 3) hx hb hts inf_X1_goBack_X1 hown hK.1 hP 0 rfl rfl 0 (by decide) (hts _ (List.mem_of_getElem? (i := 2) rfl)) (fun _ h9 => h9) rfl dX1_goBack_19 ?_
  refine lv_aload_n hx hb dX1_goBack_22 rfl (lv_at hl 0 rfl) ?_
  refine lv_aload_n hx hb dX1_goBack_23 rfl (lv_at hl 0 rfl) ?_
  refine va_get (D := D) (cl := vwCl) (ci := 1) (v := .int (nI (r - 1))) (C := RX1) (T := TX1) (N := 3) hx hb hts inf_X1_goBack_X1 hown hK.1 hP 0 rfl rfl 2 (by decide) (hts _ (List.mem_of_getElem? (i := 1) rfl)) (fun _ h9 => h9) rfl dX1_goBack_24 ?_
  refine call_r (q := (RX1, TX1, 3)) (As := [.int (nI (r - 1))]) (rest := [.ref c1, .ref h0]) F (c_X1_cellOf l D cA c0 c1 o (r - 1) (r - 1) (by omega)) (cwV 1 hts gX1_goBack_X1_cellOf rfl rfl rfl ydv_X1_cellOf ⟨Nat.le_of_ble_eq_true rfl, Nat.le_of_ble_eq_true rfl⟩) hK hR hP hD hA hS [3] rfl rfl 3 1 rfl rfl rfl hl.1 rfl (Nat.le_of_ble_eq_true rfl) dX1_goBack_27 ⟨Nat.zero_le _, Nat.zero_le _⟩ (fun H locs hP hS => ?_)
  refine call_v (q := (RX4, TX4, 1)) (As := [.ref c1, .int (nI ((o + (r - 1)) % 4 * 286))]) (rest := []) F (c_X4_loadFrom l D cA h0 h1 h2 a c1 c2 1144 hs ((o + (r - 1)) % 4 * 286) (by omega) (by decide)) (cwV 2 hts gX1_goBack_X4_loadFrom rfl rfl rfl ydv_X4_loadFrom ⟨Nat.le_of_ble_eq_true rfl, Nat.le_of_ble_eq_true rfl⟩) hK hR hP hD hA hS [1, 2, 0, 4, 5] [1, 2] rfl rfl rfl 1 4 rfl rfl (fun _ => rfl) rfl hl.1 rfl (Nat.le_of_ble_eq_true rfl) dX1_goBack_30 ⟨Nat.zero_le _, Nat.zero_le _⟩ (fun u_30 H locs hw hP hD hS => ?_)
  have hP : va_P D vwCl [(c0, .inr (1, [.ref c1, .int (nI o), .int (nI (r - 1))])), (c2, .inl (cA, 1144, .inl (nF hs))), (h2, .inl (cA, 286, .inl (nF (cpyN hs a ((o + (r - 1)) % 4 * 286) 0 286))))] H := hP
  have hD : va_D A [(c0, .inr (1, [.ref c1, .int (nI o), .int (nI (r - 1))])), (c2, .inl (cA, 1144, .inl (nF hs))), (h2, .inl (cA, 286, .inl (nF (cpyN hs a ((o + (r - 1)) % 4 * 286) 0 286))))] := hD
  exact RET _ _ _ _ () dX1_goBack_33 trivial hP hS
abbrev rm_X5_size : Room := { frames := 0, cells := 0, slots := 0, locals := 0 }
theorem ydv_X5_size : yX5_size.cls = RX5 ∧ yX5_size.cls ≠ "java/lang/invoke/MethodHandle" ∧ yX5_size.cls ≠ "java/lang/invoke/VarHandle" ∧ (parseMethodDescriptor yX5_size.desc).map (fun d => d.parameters.length) = some 0 := by decide +kernel
theorem inf_X5_size_X5 : ∀ w ∈ wsX50, w ∈ wsX5_size := fun w h => List.mem_cons_of_mem _ (List.mem_append_right _ (h))
set_option maxHeartbeats 4000000 in
set_option maxRecDepth 100000 in
theorem c_X5_size (l : Launch) (D : va_G) (cA : ClassId) (t0 t1 z : Nat)  : RO l D cA yX5_size wsX5_size rm_X5_size [.ref t0] [(t0, .inr (5, [.ref t1, .int (nI z)]))] (nI z) := by
  refine ofWi (cc := cX5_size) (maxL := 1) (rt := .int) (by decide) rfl (Nat.le_of_ble_eq_true rfl) ?_
  intro p e s m args below meth c Q A ls F hK hR hP hD hA hS hl RET
  obtain ⟨hx, hb, hml, hown, hts⟩ := id F
  have hl : lv_has ls 1 [(0, .ref t0)] := hl
  refine lv_aload_n hx hb dX5_size_0 rfl (lv_at hl 0 rfl) ?_
  refine va_get (D := D) (cl := vwCl) (ci := 5) (v := .int (nI z)) (C := RX5) (T := TX5) (N := 2) hx hb hts inf_X5_size_X5 hown hK.1 (hR.at hS) 0 rfl rfl 1 (by decide) (hts _ (List.mem_of_getElem? (i := 1) rfl)) (fun _ h9 => h9) rfl dX5_size_1 ?_
  exact RET _ _ _ _ _ () dX5_size_4 rfl rfl hP hS
abbrev rm_X5_isFull : Room := { frames := 0, cells := 0, slots := 0, locals := 0 }
theorem ydv_X5_isFull : yX5_isFull.cls = RX5 ∧ yX5_isFull.cls ≠ "java/lang/invoke/MethodHandle" ∧ yX5_isFull.cls ≠ "java/lang/invoke/VarHandle" ∧ (parseMethodDescriptor yX5_isFull.desc).map (fun d => d.parameters.length) = some 0 := by decide +kernel
theorem inf_X5_isFull_X5 : ∀ w ∈ wsX50, w ∈ wsX5_isFull := fun w h => List.mem_cons_of_mem _ (List.mem_append_right _ (h))
set_option maxHeartbeats 4000000 in
set_option maxRecDepth 100000 in
theorem c_X5_isFull (l : Launch) (D : va_G) (cA : ClassId) (t0 t1 z : Nat) (hz : z < 2 ^ 31) : RO l D cA yX5_isFull wsX5_isFull rm_X5_isFull [.ref t0] [(t0, .inr (5, [.ref t1, .int (nI z)]))] (bI (decide (80 ≤ z))) := by
  refine ofWi (cc := cX5_isFull) (maxL := 1) (rt := .boolean) (by decide) rfl (Nat.le_of_ble_eq_true rfl) ?_
  intro p e s m args below meth c Q A ls F hK hR hP hD hA hS hl RET
  obtain ⟨hx, hb, hml, hown, hts⟩ := id F
  have hl : lv_has ls 1 [(0, .ref t0)] := hl
  refine lv_aload_n hx hb dX5_isFull_0 rfl (lv_at hl 0 rfl) ?_
  refine va_get (D := D) (cl := vwCl) (ci := 5) (v := .int (nI z)) (C := RX5) (T := TX5) (N := 2) hx hb hts inf_X5_isFull_X5 hown hK.1 (hR.at hS) 0 rfl rfl 1 (by decide) (hts _ (List.mem_of_getElem? (i := 1) rfl)) (fun _ h9 => h9) rfl dX5_isFull_1 ?_
  refine lv_bipush (v := nI 80) hx hb dX5_isFull_4 (by decide) ?_
  refine nv_icmp_lt (tgt := 13) hx hb dX5_isFull_6 (by decide) (by omega) (by decide) (fun c_6 => ?_) (fun c_6 => ?_)
  · refine lv_iconst (v := nI 0) hx hb dX5_isFull_13 (by decide) ?_
    refine tope (y := bI (decide (80 ≤ z))) (by first | exact bI_f (decide_eq_false (by omega)) | exact bI_t (decide_eq_true (by omega))) ?_
    exact RET _ _ _ _ _ () dX5_isFull_14 (nbI _) rfl hP hS
  · refine lv_iconst (v := nI 1) hx hb dX5_isFull_9 (by decide) ?_
    refine lv_goto (tgt := 14) hx hb dX5_isFull_10 (by decide) ?_
    refine tope (y := bI (decide (80 ≤ z))) (by first | exact bI_f (decide_eq_false (by omega)) | exact bI_t (decide_eq_true (by omega))) ?_
    exact RET _ _ _ _ _ () dX5_isFull_14 (nbI _) rfl hP hS
abbrev rm_X5_add : Room := { frames := 1, cells := 0, slots := 0, locals := 22 }
theorem ydv_X5_add : yX5_add.cls = RX5 ∧ yX5_add.cls ≠ "java/lang/invoke/MethodHandle" ∧ yX5_add.cls ≠ "java/lang/invoke/VarHandle" ∧ (parseMethodDescriptor yX5_add.desc).map (fun d => d.parameters.length) = some 1 := by decide +kernel
theorem inf_X5_add_X5 : ∀ w ∈ wsX50, w ∈ wsX5_add := fun w h => List.mem_cons_of_mem _ (List.mem_append_left _ (List.mem_append_right _ (h)))
set_option maxHeartbeats 4000000 in
set_option maxRecDepth 100000 in
theorem c_X5_add (l : Launch) (D : va_G) (cA : ClassId) (t0 t1 t2 : Nat) (tc : Nat → Nat) (z : Nat) (x : Nat) (hz : z < 80) : MI l D cA yX5_add wsX5_add rm_X5_add [.ref t0, .int (nI x)] [(t1, .inr (3, [.ref t2]))] [(t0, .inr (5, [.ref t1, .int (nI z)])), (t2, .inl (cA, 80, .inl (nF tc)))] (S := Unit) (fun r (u : Unit) => r = nI (z + 1)) (fun (u : Unit) => [(t0, .inr (5, [.ref t1, .int (nI (z + 1))])), (t2, .inl (cA, 80, .inl (nF (updN tc z x))))]) := by
  refine ofWi (cc := cX5_add) (maxL := 2) (rt := .int) (by decide) rfl (Nat.le_of_ble_eq_true rfl) ?_
  intro p e s m args below meth c Q A ls F hK hR hP hD hA hS hl RET
  obtain ⟨hx, hb, hml, hown, hts⟩ := id F
  have hl : lv_has ls 2 [(0, .ref t0), (1, .int (nI x))] := hl
  refine lv_aload_n hx hb dX5_add_0 rfl (lv_at hl 0 rfl) ?_
  refine va_get (D := D) (cl := vwCl) (ci := 5) (v := .ref t1) (C := RX5) (T := TX5) (N := 2) hx hb hts inf_X5_add_X5 hown hK.1 hP 0 rfl rfl 0 (by decide) (hts _ (List.mem_of_getElem? (i := 1) rfl)) (fun _ h9 => h9) rfl dX5_add_1 ?_
  refine lv_aload_n hx hb dX5_add_4 rfl (lv_at hl 0 rfl) ?_
  refine va_get (D := D) (cl := vwCl) (ci := 5) (v := .int (nI z)) (C := RX5) (T := TX5) (N := 2) hx hb hts inf_X5_add_X5 hown hK.1 hP 0 rfl rfl 1 (by decide) (hts _ (List.mem_of_getElem? (i := 2) rfl)) (fun _ h9 => h9) rfl dX5_add_5 ?_
  refine lv_iload_n hx hb dX5_add_8 rfl (lv_at hl 1 rfl) ?_
  refine call_v (q := (RX3, TX3, 1)) (As := [.int (nI z), .int (nI x)]) (rest := []) F (c_X3_put l D cA t1 t2 80 tc z x (by omega) (by decide)) (cwV 2 hts gX5_add_X3_put rfl rfl rfl ydv_X3_put ⟨Nat.le_of_ble_eq_true rfl, Nat.le_of_ble_eq_true rfl⟩) hK hR hP hD hA hS [0, 2] [1] rfl rfl rfl 0 3 rfl rfl (fun _ => rfl) rfl hl.1 rfl (Nat.le_of_ble_eq_true rfl) dX5_add_9 ⟨Nat.zero_le _, Nat.zero_le _⟩ (fun u_9 H locs hw hP hD hS => ?_)
  have hP : va_P D vwCl [(t0, .inr (5, [.ref t1, .int (nI z)])), (t2, .inl (cA, 80, .inl (nF (updN tc z x))))] H := hP
  have hD : va_D A [(t0, .inr (5, [.ref t1, .int (nI z)])), (t2, .inl (cA, 80, .inl (nF (updN tc z x))))] := hD
  refine lv_aload_n hx hb dX5_add_12 rfl (lv_at hl 0 rfl) ?_
  refine lv_dup hx hb dX5_add_13 rfl ?_
  refine va_get (D := D) (cl := vwCl) (ci := 5) (v := .int (nI z)) (C := RX5) (T := TX5) (N := 2) hx hb hts inf_X5_add_X5 hown hK.1 hP 0 rfl rfl 1 (by decide) (hts _ (List.mem_of_getElem? (i := 2) rfl)) (fun _ h9 => h9) rfl dX5_add_14 ?_
  refine lv_iconst (v := nI 1) hx hb dX5_add_17 (by decide) ?_
  refine nv_iadd hx hb dX5_add_18 ?_
  refine va_put (D := D) (ci := 5) (v := .int (nI (z + 1))) (ty := .int) (C := RX5) (T := TX5) (N := 2) hx hb hts inf_X5_add_X5 tyX5 tyX5_ok nmX5 hown hK.1 hP hD hS 0 rfl rfl 1 (by decide) (hts _ (List.mem_of_getElem? (i := 2) rfl)) (fun _ h9 => h9) rfl (by decide +kernel) rfl rfl (Nat.le_of_ble_eq_true rfl) dX5_add_19 (fun H locs hP hD hS => ?_)
  have hP : va_P D vwCl [(t0, .inr (5, [.ref t1, .int (nI (z + 1))])), (t2, .inl (cA, 80, .inl (nF (updN tc z x))))] H := hP
  have hD : va_D A [(t0, .inr (5, [.ref t1, .int (nI (z + 1))])), (t2, .inl (cA, 80, .inl (nF (updN tc z x))))] := hD
  refine lv_aload_n hx hb dX5_add_22 rfl (lv_at hl 0 rfl) ?_
  refine va_get (D := D) (cl := vwCl) (ci := 5) (v := .int (nI (z + 1))) (C := RX5) (T := TX5) (N := 2) hx hb hts inf_X5_add_X5 hown hK.1 hP 0 rfl rfl 1 (by decide) (hts _ (List.mem_of_getElem? (i := 2) rfl)) (fun _ h9 => h9) rfl dX5_add_23 ?_
  exact RET _ _ _ _ _ () dX5_add_26 rfl rfl hP hS
abbrev rm_X5_empty : Room := { frames := 0, cells := 0, slots := 0, locals := 0 }
theorem ydv_X5_empty : yX5_empty.cls = RX5 ∧ yX5_empty.cls ≠ "java/lang/invoke/MethodHandle" ∧ yX5_empty.cls ≠ "java/lang/invoke/VarHandle" ∧ (parseMethodDescriptor yX5_empty.desc).map (fun d => d.parameters.length) = some 0 := by decide +kernel
theorem inf_X5_empty_X5 : ∀ w ∈ wsX50, w ∈ wsX5_empty := fun w h => List.mem_cons_of_mem _ (List.mem_append_right _ (h))
set_option maxHeartbeats 4000000 in
set_option maxRecDepth 100000 in
theorem c_X5_empty (l : Launch) (D : va_G) (cA : ClassId) (t0 t1 z : Nat)  : MI l D cA yX5_empty wsX5_empty rm_X5_empty [.ref t0] [] [(t0, .inr (5, [.ref t1, .int (nI z)]))] (S := Unit) (fun r (u : Unit) => r = nI z) (fun (u : Unit) => [(t0, .inr (5, [.ref t1, .int (nI 0)]))]) := by
  refine ofWi (cc := cX5_empty) (maxL := 2) (rt := .int) (by decide) rfl (Nat.le_of_ble_eq_true rfl) ?_
  intro p e s m args below meth c Q A ls F hK hR hP hD hA hS hl RET
  obtain ⟨hx, hb, hml, hown, hts⟩ := id F
  have hl : lv_has ls 2 [(0, .ref t0)] := hl
  refine lv_aload_n hx hb dX5_empty_0 rfl (lv_at hl 0 rfl) ?_
  refine va_get (D := D) (cl := vwCl) (ci := 5) (v := .int (nI z)) (C := RX5) (T := TX5) (N := 2) hx hb hts inf_X5_empty_X5 hown hK.1 hP 0 rfl rfl 1 (by decide) (hts _ (List.mem_of_getElem? (i := 1) rfl)) (fun _ h9 => h9) rfl dX5_empty_1 ?_
  refine lv_istore_n (lv' := [(1, .int (nI z)), (0, .ref t0)]) hx hb dX5_empty_4 rfl hl (by decide) rfl (fun ls hl => ?_)
  refine lv_aload_n hx hb dX5_empty_5 rfl (lv_at hl 1 rfl) ?_
  refine lv_iconst (v := nI 0) hx hb dX5_empty_6 (by decide) ?_
  refine va_put (D := D) (ci := 5) (v := .int (nI 0)) (ty := .int) (C := RX5) (T := TX5) (N := 2) hx hb hts inf_X5_empty_X5 tyX5 tyX5_ok nmX5 hown hK.1 hP hD hS 0 rfl rfl 1 (by decide) (hts _ (List.mem_of_getElem? (i := 1) rfl)) (fun _ h9 => h9) rfl (by decide +kernel) rfl rfl (Nat.le_of_ble_eq_true rfl) dX5_empty_7 (fun H locs hP hD hS => ?_)
  have hP : va_P D vwCl [(t0, .inr (5, [.ref t1, .int (nI 0)]))] H := hP
  have hD : va_D A [(t0, .inr (5, [.ref t1, .int (nI 0)]))] := hD
  refine lv_iload_n hx hb dX5_empty_10 rfl (lv_at hl 0 rfl) ?_
  exact RET _ _ _ _ _ () dX5_empty_11 rfl rfl hP hS
abbrev rm_X5_isDigit : Room := { frames := 0, cells := 0, slots := 0, locals := 0 }
theorem yd_X5_isDigit : yX5_isDigit.cls ≠ "java/lang/invoke/MethodHandle" ∧ yX5_isDigit.cls ≠ "java/lang/invoke/VarHandle" ∧ (parseMethodDescriptor yX5_isDigit.desc).map (fun d => d.parameters.length) = some 1 := by decide +kernel
set_option maxHeartbeats 4000000 in
set_option maxRecDepth 100000 in
theorem c_X5_isDigit (l : Launch) (D : va_G) (cA : ClassId) (x : Nat) (hx_ : x < 2 ^ 31) : RO l D cA yX5_isDigit wsX5_isDigit rm_X5_isDigit [.int (nI x)] [] (bI (dig x)) := by
  refine ofWi (cc := cX5_isDigit) (maxL := 1) (rt := .boolean) (by decide) rfl (Nat.le_of_ble_eq_true rfl) ?_
  intro p e s m args below meth c Q A ls F hK hR hP hD hA hS hl RET
  obtain ⟨hx, hb, hml, hown, hts⟩ := id F
  have hl : lv_has ls 1 [(0, .int (nI x))] := hl
  refine lv_iload_n hx hb dX5_isDigit_0 rfl (lv_at hl 0 rfl) ?_
  refine lv_bipush (v := nI 48) hx hb dX5_isDigit_1 (by decide) ?_
  refine nv_icmp_lt (tgt := 16) hx hb dX5_isDigit_3 (by decide) (by omega) (by decide) (fun c_3 => ?_) (fun c_3 => ?_)
  · refine lv_iconst (v := nI 0) hx hb dX5_isDigit_16 (by decide) ?_
    refine tope (y := bI (dig x)) (by first | exact bI_f (decide_eq_false (by omega)) | exact bI_t (decide_eq_true (by omega))) ?_
    exact RET _ _ _ _ _ () dX5_isDigit_17 (nbI _) rfl hP hS
  · refine lv_iload_n hx hb dX5_isDigit_6 rfl (lv_at hl 0 rfl) ?_
    refine lv_bipush (v := nI 57) hx hb dX5_isDigit_7 (by decide) ?_
    refine nv_icmp_gt (tgt := 16) hx hb dX5_isDigit_9 (by decide) (by omega) (by decide) (fun c_9 => ?_) (fun c_9 => ?_)
    · refine lv_iconst (v := nI 0) hx hb dX5_isDigit_16 (by decide) ?_
      refine tope (y := bI (dig x)) (by first | exact bI_f (decide_eq_false (by omega)) | exact bI_t (decide_eq_true (by omega))) ?_
      exact RET _ _ _ _ _ () dX5_isDigit_17 (nbI _) rfl hP hS
    · refine lv_iconst (v := nI 1) hx hb dX5_isDigit_12 (by decide) ?_
      refine lv_goto (tgt := 17) hx hb dX5_isDigit_13 (by decide) ?_
      refine tope (y := bI (dig x)) (by first | exact bI_f (decide_eq_false (by omega)) | exact bI_t (decide_eq_true (by omega))) ?_
      exact RET _ _ _ _ _ () dX5_isDigit_17 (nbI _) rfl hP hS
abbrev rm_X5_fault : Room := { frames := 1, cells := 0, slots := 0, locals := 21 }
theorem ydv_X5_fault : yX5_fault.cls = RX5 ∧ yX5_fault.cls ≠ "java/lang/invoke/MethodHandle" ∧ yX5_fault.cls ≠ "java/lang/invoke/VarHandle" ∧ (parseMethodDescriptor yX5_fault.desc).map (fun d => d.parameters.length) = some 0 := by decide +kernel
theorem inf_X5_fault_X5 : ∀ w ∈ wsX50, w ∈ wsX5_fault := fun w h => List.mem_cons_of_mem _ (List.mem_append_left _ (List.mem_append_right _ (h)))
set_option maxHeartbeats 4000000 in
set_option maxRecDepth 100000 in
theorem c_X5_fault (l : Launch) (D : va_G) (cA : ClassId) (t0 t1 t2 : Nat) (tc : Nat → Nat) (z : Nat) (hz : z ≤ 80) (htc : ∀ j, j < z → tc j < 2 ^ 31) : RO l D cA yX5_fault wsX5_fault rm_X5_fault [.ref t0] [(t0, .inr (5, [.ref t1, .int (nI z)])), (t1, .inr (3, [.ref t2])), (t2, .inl (cA, 80, .inl (nF tc)))] (flI z (flt tc z 0 0 true false)) := by
  refine ofWi (cc := cX5_fault) (maxL := 6) (rt := .int) (by decide) rfl (Nat.le_of_ble_eq_true rfl) ?_
  intro p e s m args below meth c Q A ls F hK hR hP hD hA hS hl RET
  obtain ⟨hx, hb, hml, hown, hts⟩ := id F
  have hl : lv_has ls 6 [(0, .ref t0)] := hl
  refine lv_iconst (v := nI 0) hx hb dX5_fault_0 (by decide) ?_
  refine lv_istore_n (lv' := [(1, .int (nI 0)), (0, .ref t0)]) hx hb dX5_fault_1 rfl hl (by decide) rfl (fun ls hl => ?_)
  refine lv_iconst (v := nI 1) hx hb dX5_fault_2 (by decide) ?_
  refine lv_istore_n (lv' := [(2, .int (nI 1)), (1, .int (nI 0)), (0, .ref t0)]) hx hb dX5_fault_3 rfl hl (by decide) rfl (fun ls hl => ?_)
  refine lv_iconst (v := nI 0) hx hb dX5_fault_4 (by decide) ?_
  refine lv_istore_n (lv' := [(3, .int (nI 0)), (2, .int (nI 1)), (1, .int (nI 0)), (0, .ref t0)]) hx hb dX5_fault_5 rfl hl (by decide) rfl (fun ls hl => ?_)
  refine lv_iconst (v := nI 0) hx hb dX5_fault_6 (by decide) ?_
  refine lv_istore (lv' := [(4, .int (nI 0)), (3, .int (nI 0)), (2, .int (nI 1)), (1, .int (nI 0)), (0, .ref t0)]) hx hb dX5_fault_7 hl (by decide) rfl (fun ls hl => ?_)
  have LP_9 : ∀ (k_9 : Nat) (i : Nat) (n : Nat) (w : Bool) (m_ : Bool) (H : Heap) (locs : List Loc) (ls : Array Slot), z - i = k_9 → (i ≤ z) → (n ≤ i) → (flt tc (z - i) i n w m_ = flt tc z 0 0 true false) → va_P D vwCl [] H → va_D A [] → va_S A s.heap H locs → lv_has ls 6 [(0, .ref t0), (1, .int (nI n)), (2, .int (bI w)), (3, .int (bI m_)), (4, .int (nI i))] → W p l e rm_X5_fault s m args below meth c H locs 0 0 Q (F0 m 9 ls []) := by
    refine sind (fun k_9 ih_9 => ?_)
    intro i n w m_ H locs ls hk_9 hi hn_ hF_ hP hD hS hl
    refine lv_iload hx hb dX5_fault_9 (lv_at hl 4 rfl) ?_
    refine lv_aload_n hx hb dX5_fault_11 rfl (lv_at hl 0 rfl) ?_
    refine va_get (D := D) (cl := vwCl) (ci := 5) (v := .int (nI z)) (C := RX5) (T := TX5) (N := 2) hx hb hts inf_X5_fault_X5 hown hK.1 (hR.at hS) 0 rfl rfl 1 (by decide) (hts _ (List.mem_of_getElem? (i := 1) rfl)) (fun _ h9 => h9) rfl dX5_fault_12 ?_
    refine nv_icmp_ge (tgt := 100) hx hb dX5_fault_15 (by decide) (by omega) (by omega) (fun c_15 => ?_) (fun c_15 => ?_)
    · refine lv_iload_n hx hb dX5_fault_100 rfl (lv_at hl 2 rfl) ?_
      refine bv_if_eq (tgt := 111) hx hb dX5_fault_101 (by decide) (fun c_101 => ?_) (fun c_101 => ?_)
      · refine lv_iconst (v := -1) hx hb dX5_fault_111 (by decide) ?_
        refine tope (y := flI z (flt tc z 0 0 true false)) (by rw [show flt tc z 0 0 true false = z + 1 from by rw [← hF_, show z - i = 0 by omega, flt, c_101]; simp; omega, flI, if_pos rfl]) ?_
        exact RET _ _ _ _ _ () dX5_fault_112 rfl rfl hP hS
      · refine lv_aload_n hx hb dX5_fault_104 rfl (lv_at hl 0 rfl) ?_
        refine va_get (D := D) (cl := vwCl) (ci := 5) (v := .int (nI z)) (C := RX5) (T := TX5) (N := 2) hx hb hts inf_X5_fault_X5 hown hK.1 (hR.at hS) 0 rfl rfl 1 (by decide) (hts _ (List.mem_of_getElem? (i := 1) rfl)) (fun _ h9 => h9) rfl dX5_fault_105 ?_
        refine lv_goto (tgt := 112) hx hb dX5_fault_108 (by decide) ?_
        refine tope (y := flI z (flt tc z 0 0 true false)) (by rw [show flt tc z 0 0 true false = z from by rw [← hF_, show z - i = 0 by omega, flt, c_101]; simp; omega, flI, if_neg (by omega)]) ?_
        exact RET _ _ _ _ _ () dX5_fault_112 rfl rfl hP hS
    · have hc_ := htc i c_15
      refine lv_aload_n hx hb dX5_fault_18 rfl (lv_at hl 0 rfl) ?_
      refine va_get (D := D) (cl := vwCl) (ci := 5) (v := .ref t1) (C := RX5) (T := TX5) (N := 2) hx hb hts inf_X5_fault_X5 hown hK.1 (hR.at hS) 0 rfl rfl 0 (by decide) (hts _ (List.mem_of_getElem? (i := 2) rfl)) (fun _ h9 => h9) rfl dX5_fault_19 ?_
      refine lv_iload hx hb dX5_fault_22 (lv_at hl 4 rfl) ?_
      refine call_r (q := (RX3, TX3, 1)) (As := [.int (nI i)]) (rest := []) F (c_X3_at l D cA t1 t2 80 tc i (by omega) (by decide)) (cwV 1 hts gX5_fault_X3_at rfl rfl rfl ydv_X3_at ⟨Nat.le_of_ble_eq_true rfl, Nat.le_of_ble_eq_true rfl⟩) hK hR hP hD hA hS [1, 2] rfl rfl 1 3 rfl rfl rfl hl.1 rfl (Nat.le_of_ble_eq_true rfl) dX5_fault_24 ⟨Nat.zero_le _, Nat.zero_le _⟩ (fun H locs hP hS => ?_)
      refine lv_istore (lv' := [(5, .int (nI (tc i))), (0, .ref t0), (1, .int (nI n)), (2, .int (bI w)), (3, .int (bI m_)), (4, .int (nI i))]) hx hb dX5_fault_27 hl (by decide) rfl (fun ls hl => ?_)
      refine lv_iload_n hx hb dX5_fault_29 rfl (lv_at hl 3 rfl) ?_
      refine bv_if_eq (tgt := 51) hx hb dX5_fault_30 (by decide) (fun c_30 => ?_) (fun c_30 => ?_)
      · refine lv_iload_n hx hb dX5_fault_51 rfl (lv_at hl 4 rfl) ?_
        refine bv_if_eq (tgt := 67) hx hb dX5_fault_52 (by decide) (fun c_52 => ?_) (fun c_52 => ?_)
        · refine lv_iload_n hx hb dX5_fault_67 rfl (lv_at hl 3 rfl) ?_
          refine bv_if_ne (tgt := 91) hx hb dX5_fault_68 (by decide) (fun c_68 => ?_) (fun c_68 => ?_)
          · refine lv_iload hx hb dX5_fault_91 (lv_at hl 5 rfl) ?_
            refine tope (y := flI z (flt tc z 0 0 true false)) (by rw [show flt tc z 0 0 true false = i from (by rw [← hF_, flt_s c_15]; first | (simp [c_30, c_52, c_68, dig_44, dig_39]; done) | (simp [c_30, c_52, c_68, dig_44, dig_39]; intros; omega) | (exact absurd (c_30.symm.trans c_68) Bool.false_ne_true) | (exact absurd (c_68.symm.trans c_30) Bool.false_ne_true)), flI, if_neg (by omega)]) ?_
            exact RET _ _ _ _ _ () dX5_fault_93 rfl rfl hP hS
          · refine lv_iload hx hb dX5_fault_71 (lv_at hl 0 rfl) ?_
            refine lv_bipush (v := nI 44) hx hb dX5_fault_73 (by decide) ?_
            refine nv_icmp_ne (tgt := 91) hx hb dX5_fault_75 (by decide) (by omega) (by decide) (fun c_75 => ?_) (fun c_75 => ?_)
            · refine lv_iload hx hb dX5_fault_91 (lv_at hl 5 rfl) ?_
              refine tope (y := flI z (flt tc z 0 0 true false)) (by rw [show flt tc z 0 0 true false = i from (by rw [← hF_, flt_s c_15]; first | (simp [c_30, c_52, c_68, c_75, dig_44, dig_39]; done) | (simp [c_30, c_52, c_68, c_75, dig_44, dig_39]; intros; omega) | (exact absurd (c_30.symm.trans c_68) Bool.false_ne_true) | (exact absurd (c_68.symm.trans c_30) Bool.false_ne_true)), flI, if_neg (by omega)]) ?_
              exact RET _ _ _ _ _ () dX5_fault_93 rfl rfl hP hS
            · refine lv_iload_n hx hb dX5_fault_78 rfl (lv_at hl 2 rfl) ?_
              refine lv_bipush (v := nI 32) hx hb dX5_fault_79 (by decide) ?_
              refine nv_icmp_ge (tgt := 91) hx hb dX5_fault_81 (by decide) (by omega) (by decide) (fun c_81 => ?_) (fun c_81 => ?_)
              · refine lv_iload hx hb dX5_fault_91 (lv_at hl 5 rfl) ?_
                refine tope (y := flI z (flt tc z 0 0 true false)) (by rw [show flt tc z 0 0 true false = i from (by rw [← hF_, flt_s c_15]; first | (simp [c_30, c_52, c_68, c_75, c_81, dig_44, dig_39]; done) | (simp [c_30, c_52, c_68, c_75, c_81, dig_44, dig_39]; intros; omega) | (exact absurd (c_30.symm.trans c_68) Bool.false_ne_true) | (exact absurd (c_68.symm.trans c_30) Bool.false_ne_true)), flI, if_neg (by omega)]) ?_
                exact RET _ _ _ _ _ () dX5_fault_93 rfl rfl hP hS
              · refine lv_iconst (v := nI 1) hx hb dX5_fault_84 (by decide) ?_
                refine lv_istore_n (lv' := [(2, .int (nI 1)), (5, .int (nI (tc i))), (0, .ref t0), (1, .int (nI n)), (3, .int (bI m_)), (4, .int (nI i))]) hx hb dX5_fault_85 rfl hl (by decide) rfl (fun ls hl => ?_)
                refine lv_iconst (v := nI 0) hx hb dX5_fault_86 (by decide) ?_
                refine lv_istore_n (lv' := [(3, .int (nI 0)), (2, .int (nI 1)), (5, .int (nI (tc i))), (0, .ref t0), (1, .int (nI n)), (4, .int (nI i))]) hx hb dX5_fault_87 rfl hl (by decide) rfl (fun ls hl => ?_)
                refine lv_goto (tgt := 94) hx hb dX5_fault_88 (by decide) ?_
                refine lv_iinc (v := nI (i + 1)) (lv' := [(4, .int (nI (i + 1))), (3, .int (nI 0)), (2, .int (nI 1)), (5, .int (nI (tc i))), (0, .ref t0), (1, .int (nI n))]) hx hb dX5_fault_94 hl (k := 5) rfl (nI_add _ _) (by decide) rfl (fun ls hl => ?_)
                refine lv_goto (tgt := 9) hx hb dX5_fault_97 (by decide) ?_
                exact ih_9 _ (by omega) (i + 1) n true false _ _ _ rfl (by omega) (by omega) (by rw [← hF_, flt_s c_15]; first | (simp [c_30, c_52, c_68, c_75, c_81, dig_44, dig_39]; done) | (simp [c_30, c_52, c_68, c_75, c_81, dig_44, dig_39]; intros; omega) | (exact absurd (c_30.symm.trans c_68) Bool.false_ne_true) | (exact absurd (c_68.symm.trans c_30) Bool.false_ne_true)) hP hD hS (lv_sub hl [4, 5, 2, 1, 0] rfl)
        · refine lv_iload hx hb dX5_fault_55 (lv_at hl 0 rfl) ?_
          refine lv_bipush (v := nI 39) hx hb dX5_fault_57 (by decide) ?_
          refine nv_icmp_ne (tgt := 67) hx hb dX5_fault_59 (by decide) (by omega) (by decide) (fun c_59 => ?_) (fun c_59 => ?_)
          · refine lv_iload_n hx hb dX5_fault_67 rfl (lv_at hl 3 rfl) ?_
            refine bv_if_ne (tgt := 91) hx hb dX5_fault_68 (by decide) (fun c_68 => ?_) (fun c_68 => ?_)
            · refine lv_iload hx hb dX5_fault_91 (lv_at hl 5 rfl) ?_
              refine tope (y := flI z (flt tc z 0 0 true false)) (by rw [show flt tc z 0 0 true false = i from (by rw [← hF_, flt_s c_15]; first | (simp [c_30, c_52, c_59, c_68, dig_44, dig_39]; done) | (simp [c_30, c_52, c_59, c_68, dig_44, dig_39]; intros; omega) | (exact absurd (c_30.symm.trans c_68) Bool.false_ne_true) | (exact absurd (c_68.symm.trans c_30) Bool.false_ne_true)), flI, if_neg (by omega)]) ?_
              exact RET _ _ _ _ _ () dX5_fault_93 rfl rfl hP hS
            · refine lv_iload hx hb dX5_fault_71 (lv_at hl 0 rfl) ?_
              refine lv_bipush (v := nI 44) hx hb dX5_fault_73 (by decide) ?_
              refine nv_icmp_ne (tgt := 91) hx hb dX5_fault_75 (by decide) (by omega) (by decide) (fun c_75 => ?_) (fun c_75 => ?_)
              · refine lv_iload hx hb dX5_fault_91 (lv_at hl 5 rfl) ?_
                refine tope (y := flI z (flt tc z 0 0 true false)) (by rw [show flt tc z 0 0 true false = i from (by rw [← hF_, flt_s c_15]; first | (simp [c_30, c_52, c_59, c_68, c_75, dig_44, dig_39]; done) | (simp [c_30, c_52, c_59, c_68, c_75, dig_44, dig_39]; intros; omega) | (exact absurd (c_30.symm.trans c_68) Bool.false_ne_true) | (exact absurd (c_68.symm.trans c_30) Bool.false_ne_true)), flI, if_neg (by omega)]) ?_
                exact RET _ _ _ _ _ () dX5_fault_93 rfl rfl hP hS
              · refine lv_iload_n hx hb dX5_fault_78 rfl (lv_at hl 2 rfl) ?_
                refine lv_bipush (v := nI 32) hx hb dX5_fault_79 (by decide) ?_
                refine nv_icmp_ge (tgt := 91) hx hb dX5_fault_81 (by decide) (by omega) (by decide) (fun c_81 => ?_) (fun c_81 => ?_)
                · refine lv_iload hx hb dX5_fault_91 (lv_at hl 5 rfl) ?_
                  refine tope (y := flI z (flt tc z 0 0 true false)) (by rw [show flt tc z 0 0 true false = i from (by rw [← hF_, flt_s c_15]; first | (simp [c_30, c_52, c_59, c_68, c_75, c_81, dig_44, dig_39]; done) | (simp [c_30, c_52, c_59, c_68, c_75, c_81, dig_44, dig_39]; intros; omega) | (exact absurd (c_30.symm.trans c_68) Bool.false_ne_true) | (exact absurd (c_68.symm.trans c_30) Bool.false_ne_true)), flI, if_neg (by omega)]) ?_
                  exact RET _ _ _ _ _ () dX5_fault_93 rfl rfl hP hS
                · refine lv_iconst (v := nI 1) hx hb dX5_fault_84 (by decide) ?_
                  refine lv_istore_n (lv' := [(2, .int (nI 1)), (5, .int (nI (tc i))), (0, .ref t0), (1, .int (nI n)), (3, .int (bI m_)), (4, .int (nI i))]) hx hb dX5_fault_85 rfl hl (by decide) rfl (fun ls hl => ?_)
                  refine lv_iconst (v := nI 0) hx hb dX5_fault_86 (by decide) ?_
                  refine lv_istore_n (lv' := [(3, .int (nI 0)), (2, .int (nI 1)), (5, .int (nI (tc i))), (0, .ref t0), (1, .int (nI n)), (4, .int (nI i))]) hx hb dX5_fault_87 rfl hl (by decide) rfl (fun ls hl => ?_)
                  refine lv_goto (tgt := 94) hx hb dX5_fault_88 (by decide) ?_
                  refine lv_iinc (v := nI (i + 1)) (lv' := [(4, .int (nI (i + 1))), (3, .int (nI 0)), (2, .int (nI 1)), (5, .int (nI (tc i))), (0, .ref t0), (1, .int (nI n))]) hx hb dX5_fault_94 hl (k := 5) rfl (nI_add _ _) (by decide) rfl (fun ls hl => ?_)
                  refine lv_goto (tgt := 9) hx hb dX5_fault_97 (by decide) ?_
                  exact ih_9 _ (by omega) (i + 1) n true false _ _ _ rfl (by omega) (by omega) (by rw [← hF_, flt_s c_15]; first | (simp [c_30, c_52, c_59, c_68, c_75, c_81, dig_44, dig_39]; done) | (simp [c_30, c_52, c_59, c_68, c_75, c_81, dig_44, dig_39]; intros; omega) | (exact absurd (c_30.symm.trans c_68) Bool.false_ne_true) | (exact absurd (c_68.symm.trans c_30) Bool.false_ne_true)) hP hD hS (lv_sub hl [4, 5, 2, 1, 0] rfl)
          · refine lv_iconst (v := nI 0) hx hb dX5_fault_62 (by decide) ?_
            refine lv_istore_n (lv' := [(3, .int (nI 0)), (5, .int (nI (tc i))), (0, .ref t0), (1, .int (nI n)), (2, .int (bI w)), (4, .int (nI i))]) hx hb dX5_fault_63 rfl hl (by decide) rfl (fun ls hl => ?_)
            refine lv_goto (tgt := 94) hx hb dX5_fault_64 (by decide) ?_
            refine lv_iinc (v := nI (i + 1)) (lv' := [(4, .int (nI (i + 1))), (3, .int (nI 0)), (5, .int (nI (tc i))), (0, .ref t0), (1, .int (nI n)), (2, .int (bI w))]) hx hb dX5_fault_94 hl (k := 5) rfl (nI_add _ _) (by decide) rfl (fun ls hl => ?_)
            refine lv_goto (tgt := 9) hx hb dX5_fault_97 (by decide) ?_
            exact ih_9 _ (by omega) (i + 1) n w false _ _ _ rfl (by omega) (by omega) (by rw [← hF_, flt_s c_15]; first | (simp [c_30, c_52, c_59, dig_44, dig_39]; done) | (simp [c_30, c_52, c_59, dig_44, dig_39]; intros; omega) | (exact absurd (c_30.symm.trans c_68) Bool.false_ne_true) | (exact absurd (c_68.symm.trans c_30) Bool.false_ne_true)) hP hD hS (lv_sub hl [3, 4, 5, 1, 0] rfl)
      · refine lv_iload hx hb dX5_fault_33 (lv_at hl 0 rfl) ?_
        refine call_s (As := [.int (nI (tc i))]) (rest := []) F (c_X5_isDigit l D cA (tc i) (by omega)) (va_cwS 1 hts gX5_fault_X5_isDigit rfl rfl rfl yd_X5_isDigit ⟨Nat.le_of_ble_eq_true rfl, Nat.le_of_ble_eq_true rfl⟩) hK hR hP hD hA hS rfl hl.1 rfl (Nat.le_of_ble_eq_true rfl) dX5_fault_35 ⟨Nat.zero_le _, Nat.zero_le _⟩ (fun H locs hP hS => ?_)
        refine bv_if_eq (tgt := 51) hx hb dX5_fault_38 (by decide) (fun c_38 => ?_) (fun c_38 => ?_)
        · refine lv_iload_n hx hb dX5_fault_51 rfl (lv_at hl 4 rfl) ?_
          refine bv_if_eq (tgt := 67) hx hb dX5_fault_52 (by decide) (fun c_52 => ?_) (fun c_52 => ?_)
          · refine lv_iload_n hx hb dX5_fault_67 rfl (lv_at hl 3 rfl) ?_
            refine bv_if_ne (tgt := 91) hx hb dX5_fault_68 (by decide) (fun c_68 => ?_) (fun c_68 => ?_)
            · refine lv_iload hx hb dX5_fault_91 (lv_at hl 5 rfl) ?_
              refine tope (y := flI z (flt tc z 0 0 true false)) (by rw [show flt tc z 0 0 true false = i from (by rw [← hF_, flt_s c_15]; first | (simp [c_30, c_38, c_52, c_68, dig_44, dig_39]; done) | (simp [c_30, c_38, c_52, c_68, dig_44, dig_39]; intros; omega) | (exact absurd (c_30.symm.trans c_68) Bool.false_ne_true) | (exact absurd (c_68.symm.trans c_30) Bool.false_ne_true)), flI, if_neg (by omega)]) ?_
              exact RET _ _ _ _ _ () dX5_fault_93 rfl rfl hP hS
            · refine lv_iload hx hb dX5_fault_71 (lv_at hl 0 rfl) ?_
              refine lv_bipush (v := nI 44) hx hb dX5_fault_73 (by decide) ?_
              refine nv_icmp_ne (tgt := 91) hx hb dX5_fault_75 (by decide) (by omega) (by decide) (fun c_75 => ?_) (fun c_75 => ?_)
              · refine lv_iload hx hb dX5_fault_91 (lv_at hl 5 rfl) ?_
                refine tope (y := flI z (flt tc z 0 0 true false)) (by rw [show flt tc z 0 0 true false = i from (by rw [← hF_, flt_s c_15]; first | (simp [c_30, c_38, c_52, c_68, c_75, dig_44, dig_39]; done) | (simp [c_30, c_38, c_52, c_68, c_75, dig_44, dig_39]; intros; omega) | (exact absurd (c_30.symm.trans c_68) Bool.false_ne_true) | (exact absurd (c_68.symm.trans c_30) Bool.false_ne_true)), flI, if_neg (by omega)]) ?_
                exact RET _ _ _ _ _ () dX5_fault_93 rfl rfl hP hS
              · refine lv_iload_n hx hb dX5_fault_78 rfl (lv_at hl 2 rfl) ?_
                refine lv_bipush (v := nI 32) hx hb dX5_fault_79 (by decide) ?_
                refine nv_icmp_ge (tgt := 91) hx hb dX5_fault_81 (by decide) (by omega) (by decide) (fun c_81 => ?_) (fun c_81 => ?_)
                · refine lv_iload hx hb dX5_fault_91 (lv_at hl 5 rfl) ?_
                  refine tope (y := flI z (flt tc z 0 0 true false)) (by rw [show flt tc z 0 0 true false = i from (by rw [← hF_, flt_s c_15]; first | (simp [c_30, c_38, c_52, c_68, c_75, c_81, dig_44, dig_39]; done) | (simp [c_30, c_38, c_52, c_68, c_75, c_81, dig_44, dig_39]; intros; omega) | (exact absurd (c_30.symm.trans c_68) Bool.false_ne_true) | (exact absurd (c_68.symm.trans c_30) Bool.false_ne_true)), flI, if_neg (by omega)]) ?_
                  exact RET _ _ _ _ _ () dX5_fault_93 rfl rfl hP hS
                · refine lv_iconst (v := nI 1) hx hb dX5_fault_84 (by decide) ?_
                  refine lv_istore_n (lv' := [(2, .int (nI 1)), (5, .int (nI (tc i))), (0, .ref t0), (1, .int (nI n)), (3, .int (bI m_)), (4, .int (nI i))]) hx hb dX5_fault_85 rfl hl (by decide) rfl (fun ls hl => ?_)
                  refine lv_iconst (v := nI 0) hx hb dX5_fault_86 (by decide) ?_
                  refine lv_istore_n (lv' := [(3, .int (nI 0)), (2, .int (nI 1)), (5, .int (nI (tc i))), (0, .ref t0), (1, .int (nI n)), (4, .int (nI i))]) hx hb dX5_fault_87 rfl hl (by decide) rfl (fun ls hl => ?_)
                  refine lv_goto (tgt := 94) hx hb dX5_fault_88 (by decide) ?_
                  refine lv_iinc (v := nI (i + 1)) (lv' := [(4, .int (nI (i + 1))), (3, .int (nI 0)), (2, .int (nI 1)), (5, .int (nI (tc i))), (0, .ref t0), (1, .int (nI n))]) hx hb dX5_fault_94 hl (k := 5) rfl (nI_add _ _) (by decide) rfl (fun ls hl => ?_)
                  refine lv_goto (tgt := 9) hx hb dX5_fault_97 (by decide) ?_
                  exact ih_9 _ (by omega) (i + 1) n true false _ _ _ rfl (by omega) (by omega) (by rw [← hF_, flt_s c_15]; first | (simp [c_30, c_38, c_52, c_68, c_75, c_81, dig_44, dig_39]; done) | (simp [c_30, c_38, c_52, c_68, c_75, c_81, dig_44, dig_39]; intros; omega) | (exact absurd (c_30.symm.trans c_68) Bool.false_ne_true) | (exact absurd (c_68.symm.trans c_30) Bool.false_ne_true)) hP hD hS (lv_sub hl [4, 5, 2, 1, 0] rfl)
          · refine lv_iload hx hb dX5_fault_55 (lv_at hl 0 rfl) ?_
            refine lv_bipush (v := nI 39) hx hb dX5_fault_57 (by decide) ?_
            refine nv_icmp_ne (tgt := 67) hx hb dX5_fault_59 (by decide) (by omega) (by decide) (fun c_59 => ?_) (fun c_59 => ?_)
            · refine lv_iload_n hx hb dX5_fault_67 rfl (lv_at hl 3 rfl) ?_
              refine bv_if_ne (tgt := 91) hx hb dX5_fault_68 (by decide) (fun c_68 => ?_) (fun c_68 => ?_)
              · refine lv_iload hx hb dX5_fault_91 (lv_at hl 5 rfl) ?_
                refine tope (y := flI z (flt tc z 0 0 true false)) (by rw [show flt tc z 0 0 true false = i from (by rw [← hF_, flt_s c_15]; first | (simp [c_30, c_38, c_52, c_59, c_68, dig_44, dig_39]; done) | (simp [c_30, c_38, c_52, c_59, c_68, dig_44, dig_39]; intros; omega) | (exact absurd (c_30.symm.trans c_68) Bool.false_ne_true) | (exact absurd (c_68.symm.trans c_30) Bool.false_ne_true)), flI, if_neg (by omega)]) ?_
                exact RET _ _ _ _ _ () dX5_fault_93 rfl rfl hP hS
              · refine lv_iload hx hb dX5_fault_71 (lv_at hl 0 rfl) ?_
                refine lv_bipush (v := nI 44) hx hb dX5_fault_73 (by decide) ?_
                refine nv_icmp_ne (tgt := 91) hx hb dX5_fault_75 (by decide) (by omega) (by decide) (fun c_75 => ?_) (fun c_75 => ?_)
                · refine lv_iload hx hb dX5_fault_91 (lv_at hl 5 rfl) ?_
                  refine tope (y := flI z (flt tc z 0 0 true false)) (by rw [show flt tc z 0 0 true false = i from (by rw [← hF_, flt_s c_15]; first | (simp [c_30, c_38, c_52, c_59, c_68, c_75, dig_44, dig_39]; done) | (simp [c_30, c_38, c_52, c_59, c_68, c_75, dig_44, dig_39]; intros; omega) | (exact absurd (c_30.symm.trans c_68) Bool.false_ne_true) | (exact absurd (c_68.symm.trans c_30) Bool.false_ne_true)), flI, if_neg (by omega)]) ?_
                  exact RET _ _ _ _ _ () dX5_fault_93 rfl rfl hP hS
                · refine lv_iload_n hx hb dX5_fault_78 rfl (lv_at hl 2 rfl) ?_
                  refine lv_bipush (v := nI 32) hx hb dX5_fault_79 (by decide) ?_
                  refine nv_icmp_ge (tgt := 91) hx hb dX5_fault_81 (by decide) (by omega) (by decide) (fun c_81 => ?_) (fun c_81 => ?_)
                  · refine lv_iload hx hb dX5_fault_91 (lv_at hl 5 rfl) ?_
                    refine tope (y := flI z (flt tc z 0 0 true false)) (by rw [show flt tc z 0 0 true false = i from (by rw [← hF_, flt_s c_15]; first | (simp [c_30, c_38, c_52, c_59, c_68, c_75, c_81, dig_44, dig_39]; done) | (simp [c_30, c_38, c_52, c_59, c_68, c_75, c_81, dig_44, dig_39]; intros; omega) | (exact absurd (c_30.symm.trans c_68) Bool.false_ne_true) | (exact absurd (c_68.symm.trans c_30) Bool.false_ne_true)), flI, if_neg (by omega)]) ?_
                    exact RET _ _ _ _ _ () dX5_fault_93 rfl rfl hP hS
                  · refine lv_iconst (v := nI 1) hx hb dX5_fault_84 (by decide) ?_
                    refine lv_istore_n (lv' := [(2, .int (nI 1)), (5, .int (nI (tc i))), (0, .ref t0), (1, .int (nI n)), (3, .int (bI m_)), (4, .int (nI i))]) hx hb dX5_fault_85 rfl hl (by decide) rfl (fun ls hl => ?_)
                    refine lv_iconst (v := nI 0) hx hb dX5_fault_86 (by decide) ?_
                    refine lv_istore_n (lv' := [(3, .int (nI 0)), (2, .int (nI 1)), (5, .int (nI (tc i))), (0, .ref t0), (1, .int (nI n)), (4, .int (nI i))]) hx hb dX5_fault_87 rfl hl (by decide) rfl (fun ls hl => ?_)
                    refine lv_goto (tgt := 94) hx hb dX5_fault_88 (by decide) ?_
                    refine lv_iinc (v := nI (i + 1)) (lv' := [(4, .int (nI (i + 1))), (3, .int (nI 0)), (2, .int (nI 1)), (5, .int (nI (tc i))), (0, .ref t0), (1, .int (nI n))]) hx hb dX5_fault_94 hl (k := 5) rfl (nI_add _ _) (by decide) rfl (fun ls hl => ?_)
                    refine lv_goto (tgt := 9) hx hb dX5_fault_97 (by decide) ?_
                    exact ih_9 _ (by omega) (i + 1) n true false _ _ _ rfl (by omega) (by omega) (by rw [← hF_, flt_s c_15]; first | (simp [c_30, c_38, c_52, c_59, c_68, c_75, c_81, dig_44, dig_39]; done) | (simp [c_30, c_38, c_52, c_59, c_68, c_75, c_81, dig_44, dig_39]; intros; omega) | (exact absurd (c_30.symm.trans c_68) Bool.false_ne_true) | (exact absurd (c_68.symm.trans c_30) Bool.false_ne_true)) hP hD hS (lv_sub hl [4, 5, 2, 1, 0] rfl)
            · refine lv_iconst (v := nI 0) hx hb dX5_fault_62 (by decide) ?_
              refine lv_istore_n (lv' := [(3, .int (nI 0)), (5, .int (nI (tc i))), (0, .ref t0), (1, .int (nI n)), (2, .int (bI w)), (4, .int (nI i))]) hx hb dX5_fault_63 rfl hl (by decide) rfl (fun ls hl => ?_)
              refine lv_goto (tgt := 94) hx hb dX5_fault_64 (by decide) ?_
              refine lv_iinc (v := nI (i + 1)) (lv' := [(4, .int (nI (i + 1))), (3, .int (nI 0)), (5, .int (nI (tc i))), (0, .ref t0), (1, .int (nI n)), (2, .int (bI w))]) hx hb dX5_fault_94 hl (k := 5) rfl (nI_add _ _) (by decide) rfl (fun ls hl => ?_)
              refine lv_goto (tgt := 9) hx hb dX5_fault_97 (by decide) ?_
              exact ih_9 _ (by omega) (i + 1) n w false _ _ _ rfl (by omega) (by omega) (by rw [← hF_, flt_s c_15]; first | (simp [c_30, c_38, c_52, c_59, dig_44, dig_39]; done) | (simp [c_30, c_38, c_52, c_59, dig_44, dig_39]; intros; omega) | (exact absurd (c_30.symm.trans c_68) Bool.false_ne_true) | (exact absurd (c_68.symm.trans c_30) Bool.false_ne_true)) hP hD hS (lv_sub hl [3, 4, 5, 1, 0] rfl)
        · refine lv_iinc (v := nI (n + 1)) (lv' := [(1, .int (nI (n + 1))), (5, .int (nI (tc i))), (0, .ref t0), (2, .int (bI w)), (3, .int (bI m_)), (4, .int (nI i))]) hx hb dX5_fault_41 hl (k := 2) rfl (nI_add _ _) (by decide) rfl (fun ls hl => ?_)
          refine lv_iconst (v := nI 0) hx hb dX5_fault_44 (by decide) ?_
          refine lv_istore_n (lv' := [(2, .int (nI 0)), (1, .int (nI (n + 1))), (5, .int (nI (tc i))), (0, .ref t0), (3, .int (bI m_)), (4, .int (nI i))]) hx hb dX5_fault_45 rfl hl (by decide) rfl (fun ls hl => ?_)
          refine lv_iconst (v := nI 1) hx hb dX5_fault_46 (by decide) ?_
          refine lv_istore_n (lv' := [(3, .int (nI 1)), (2, .int (nI 0)), (1, .int (nI (n + 1))), (5, .int (nI (tc i))), (0, .ref t0), (4, .int (nI i))]) hx hb dX5_fault_47 rfl hl (by decide) rfl (fun ls hl => ?_)
          refine lv_goto (tgt := 94) hx hb dX5_fault_48 (by decide) ?_
          refine lv_iinc (v := nI (i + 1)) (lv' := [(4, .int (nI (i + 1))), (3, .int (nI 1)), (2, .int (nI 0)), (1, .int (nI (n + 1))), (5, .int (nI (tc i))), (0, .ref t0)]) hx hb dX5_fault_94 hl (k := 5) rfl (nI_add _ _) (by decide) rfl (fun ls hl => ?_)
          refine lv_goto (tgt := 9) hx hb dX5_fault_97 (by decide) ?_
          exact ih_9 _ (by omega) (i + 1) (n + 1) false true _ _ _ rfl (by omega) (by omega) (by rw [← hF_, flt_s c_15]; first | (simp [c_30, c_38, dig_44, dig_39]; done) | (simp [c_30, c_38, dig_44, dig_39]; intros; omega) | (exact absurd (c_30.symm.trans c_68) Bool.false_ne_true) | (exact absurd (c_68.symm.trans c_30) Bool.false_ne_true)) hP hD hS (lv_sub hl [5, 3, 2, 1, 0] rfl)
  exact LP_9 _ 0 0 true false _ _ _ rfl (by omega) (by omega) (rfl) hP hD hS (lv_sub hl [4, 3, 2, 1, 0] rfl)
abbrev rm_X5_spellDolls : Room := { frames := 2, cells := 0, slots := 0, locals := 41 }
theorem ydv_X5_spellDolls : yX5_spellDolls.cls = RX5 ∧ yX5_spellDolls.cls ≠ "java/lang/invoke/MethodHandle" ∧ yX5_spellDolls.cls ≠ "java/lang/invoke/VarHandle" ∧ (parseMethodDescriptor yX5_spellDolls.desc).map (fun d => d.parameters.length) = some 1 := by decide +kernel
theorem inf_X5_spellDolls_X5 : ∀ w ∈ wsX50, w ∈ wsX5_spellDolls := fun w h => List.mem_cons_of_mem _ (List.mem_append_left _ (List.mem_append_right _ (h)))
set_option maxHeartbeats 4000000 in
set_option maxRecDepth 100000 in
theorem c_X5_spellDolls (l : Launch) (D : va_G) (cA : ClassId) (t0 t1 t2 : Nat) (tc : Nat → Nat) (z : Nat) (g0 g1 : Nat) (b0 : Nat → Nat) (hz : z ≤ 80) (htc : ∀ j, j < z → tc j < 2 ^ 31) (hok : flt tc z 0 0 true false = z + 1) : MI l D cA yX5_spellDolls wsX5_spellDolls rm_X5_spellDolls [.ref t0, .ref g0] [(t0, .inr (5, [.ref t1, .int (nI z)])), (t1, .inr (3, [.ref t2])), (t2, .inl (cA, 80, .inl (nF tc))), (g0, .inr (3, [.ref g1]))] [(g1, .inl (cA, 32, .inl (nF b0)))] (S := Unit) (fun r (u : Unit) => r = nI ((spl tc z 0 0 b0).1)) (fun (u : Unit) => [(g1, .inl (cA, 32, .inl (nF ((spl tc z 0 0 b0).2))))]) := by
  refine ofWi (cc := cX5_spellDolls) (maxL := 5) (rt := .int) (by decide) rfl (Nat.le_of_ble_eq_true rfl) ?_
  intro p e s m args below meth c Q A ls F hK hR hP hD hA hS hl RET
  obtain ⟨hx, hb, hml, hown, hts⟩ := id F
  have hl : lv_has ls 5 [(0, .ref t0), (1, .ref g0)] := hl
  refine lv_iconst (v := nI 0) hx hb dX5_spellDolls_0 (by decide) ?_
  refine lv_istore_n (lv' := [(2, .int (nI 0)), (0, .ref t0), (1, .ref g0)]) hx hb dX5_spellDolls_1 rfl hl (by decide) rfl (fun ls hl => ?_)
  refine lv_iconst (v := nI 0) hx hb dX5_spellDolls_2 (by decide) ?_
  refine lv_istore_n (lv' := [(3, .int (nI 0)), (2, .int (nI 0)), (0, .ref t0), (1, .ref g0)]) hx hb dX5_spellDolls_3 rfl hl (by decide) rfl (fun ls hl => ?_)
  have LP_4 : ∀ (k_4 : Nat) (i : Nat) (n : Nat) (b : Nat → Nat) (w : Bool) (m_ : Bool) (H : Heap) (locs : List Loc) (ls : Array Slot), z - i = k_4 → (i ≤ z) → (n ≤ 32) → (flt tc (z - i) i n w m_ = z + 1) → (okS n w m_) → (spl tc (z - i) i n b = spl tc z 0 0 b0) → va_P D vwCl [(g1, .inl (cA, 32, .inl (nF b)))] H → va_D A [(g1, .inl (cA, 32, .inl (nF b)))] → va_S A s.heap H locs → lv_has ls 5 [(0, .ref t0), (1, .ref g0), (2, .int (nI n)), (3, .int (nI i))] → W p l e rm_X5_spellDolls s m args below meth c H locs 0 0 Q (F0 m 4 ls []) := by
    refine sind (fun k_4 ih_4 => ?_)
    intro i n b w m_ H locs ls hk_4 hi hn_ hF_ hO_ hs_ hP hD hS hl
    refine lv_iload_n hx hb dX5_spellDolls_4 rfl (lv_at hl 3 rfl) ?_
    refine lv_aload_n hx hb dX5_spellDolls_5 rfl (lv_at hl 0 rfl) ?_
    refine va_get (D := D) (cl := vwCl) (ci := 5) (v := .int (nI z)) (C := RX5) (T := TX5) (N := 2) hx hb hts inf_X5_spellDolls_X5 hown hK.1 (hR.at hS) 0 rfl rfl 1 (by decide) (hts _ (List.mem_of_getElem? (i := 1) rfl)) (fun _ h9 => h9) rfl dX5_spellDolls_6 ?_
    refine nv_icmp_ge (tgt := 80) hx hb dX5_spellDolls_9 (by decide) (by omega) (by omega) (fun c_9 => ?_) (fun c_9 => ?_)
    · refine lv_iload_n hx hb dX5_spellDolls_80 rfl (lv_at hl 2 rfl) ?_
      refine tope (y := nI ((spl tc z 0 0 b0).1)) (by rw [← hs_, show z - i = 0 by omega]; rfl) ?_
      exact RET _ _ _ _ _ () dX5_spellDolls_81 rfl rfl (by rw [← hs_, show z - i = 0 by omega]; exact hP) hS
    · have hc_ := htc i c_9
      refine lv_aload_n hx hb dX5_spellDolls_12 rfl (lv_at hl 0 rfl) ?_
      refine va_get (D := D) (cl := vwCl) (ci := 5) (v := .ref t1) (C := RX5) (T := TX5) (N := 2) hx hb hts inf_X5_spellDolls_X5 hown hK.1 (hR.at hS) 0 rfl rfl 0 (by decide) (hts _ (List.mem_of_getElem? (i := 2) rfl)) (fun _ h9 => h9) rfl dX5_spellDolls_13 ?_
      refine lv_iload_n hx hb dX5_spellDolls_16 rfl (lv_at hl 3 rfl) ?_
      refine call_r (q := (RX3, TX3, 1)) (As := [.int (nI i)]) (rest := []) F (c_X3_at l D cA t1 t2 80 tc i (by omega) (by decide)) (cwV 1 hts gX5_spellDolls_X3_at rfl rfl rfl ydv_X3_at ⟨Nat.le_of_ble_eq_true rfl, Nat.le_of_ble_eq_true rfl⟩) hK hR hP hD hA hS [1, 2] rfl rfl 1 3 rfl rfl rfl hl.1 rfl (Nat.le_of_ble_eq_true rfl) dX5_spellDolls_17 ⟨Nat.zero_le _, Nat.zero_le _⟩ (fun H locs hP hS => ?_)
      refine lv_istore (lv' := [(4, .int (nI (tc i))), (0, .ref t0), (1, .ref g0), (2, .int (nI n)), (3, .int (nI i))]) hx hb dX5_spellDolls_20 hl (by decide) rfl (fun ls hl => ?_)
      refine lv_iload hx hb dX5_spellDolls_22 (lv_at hl 0 rfl) ?_
      refine call_s (As := [.int (nI (tc i))]) (rest := []) F (c_X5_isDigit l D cA (tc i) (by omega)) (va_cwS 1 hts gX5_spellDolls_X5_isDigit rfl rfl rfl yd_X5_isDigit ⟨Nat.le_of_ble_eq_true rfl, Nat.le_of_ble_eq_true rfl⟩) hK hR hP hD hA hS rfl hl.1 rfl (Nat.le_of_ble_eq_true rfl) dX5_spellDolls_24 ⟨Nat.zero_le _, Nat.zero_le _⟩ (fun H locs hP hS => ?_)
      refine bv_if_eq (tgt := 50) hx hb dX5_spellDolls_27 (by decide) (fun c_27 => ?_) (fun c_27 => ?_)
      · refine lv_iload hx hb dX5_spellDolls_50 (lv_at hl 0 rfl) ?_
        refine lv_bipush (v := nI 39) hx hb dX5_spellDolls_52 (by decide) ?_
        refine nv_icmp_ne (tgt := 74) hx hb dX5_spellDolls_54 (by decide) (by omega) (by decide) (fun c_54 => ?_) (fun c_54 => ?_)
        · have h_ := flt_comma c_9 hF_ c_27 c_54
          refine lv_iinc (v := nI (i + 1)) (lv' := [(3, .int (nI (i + 1))), (4, .int (nI (tc i))), (0, .ref t0), (1, .ref g0), (2, .int (nI n))]) hx hb dX5_spellDolls_74 hl (k := 4) rfl (nI_add _ _) (by decide) rfl (fun ls hl => ?_)
          refine lv_goto (tgt := 4) hx hb dX5_spellDolls_77 (by decide) ?_
          exact ih_4 _ (by omega) (i + 1) n b true false _ _ _ rfl (by omega) (by omega) (h_.1) (h_.2) (by rw [← hs_, spl_s c_9]; simp [c_27, c_54, dig_44, dig_39]) hP hD hS (lv_sub hl [2, 3, 4, 0] rfl)
        · have h_ := flt_mark c_9 hF_ hO_ c_54
          refine lv_aload_n hx hb dX5_spellDolls_57 rfl (lv_at hl 2 rfl) ?_
          refine lv_iload_n hx hb dX5_spellDolls_58 rfl (lv_at hl 3 rfl) ?_
          refine lv_iconst (v := nI 1) hx hb dX5_spellDolls_59 (by decide) ?_
          refine nv_isub hx hb dX5_spellDolls_60 (by omega) ?_
          refine lv_aload_n hx hb dX5_spellDolls_61 rfl (lv_at hl 2 rfl) ?_
          refine lv_iload_n hx hb dX5_spellDolls_62 rfl (lv_at hl 3 rfl) ?_
          refine lv_iconst (v := nI 1) hx hb dX5_spellDolls_63 (by decide) ?_
          refine nv_isub hx hb dX5_spellDolls_64 (by omega) ?_
          refine call_r (q := (RX3, TX3, 1)) (As := [.int (nI (n - 1))]) (rest := [.int (nI (n - 1)), .ref g0]) F (c_X3_at l D cA g0 g1 32 b (n - 1) (by omega) (by decide)) (cwV 1 hts gX5_spellDolls_X3_at rfl rfl rfl ydv_X3_at ⟨Nat.le_of_ble_eq_true rfl, Nat.le_of_ble_eq_true rfl⟩) hK hR hP hD hA hS [3, 4] rfl rfl 3 3 rfl rfl rfl hl.1 rfl (Nat.le_of_ble_eq_true rfl) dX5_spellDolls_65 ⟨Nat.zero_le _, Nat.zero_le _⟩ (fun H locs hP hS => ?_)
          refine call_n (As := [.int (nI (b (n - 1)))]) (rest := [.int (nI (n - 1)), .ref g0]) F (c_X6_mirrorOf l D cA (b (n - 1))) ⟨va_cnB 1 hts gX5_spellDolls_X6_mirrorOf_n40 rfl rfl rfl (hK.2 _ (List.mem_of_getElem? (i := 9) rfl)) (hts _ (List.mem_of_getElem? (i := 14) rfl)) yd_X6_mirrorOf ⟨Nat.le_of_ble_eq_true rfl, Nat.le_of_ble_eq_true rfl⟩, (hts _ (List.mem_of_getElem? (i := 23) rfl)), trivial⟩ hK hR hP hD hA hS rfl hl.1 rfl (Nat.le_of_ble_eq_true rfl) dX5_spellDolls_68 ⟨Nat.zero_le _, Nat.zero_le _⟩ (fun H locs hP hS => ?_)
          refine call_v (q := (RX3, TX3, 1)) (As := [.int (nI (n - 1)), .int (nI (mir (b (n - 1))))]) (rest := []) F (c_X3_put l D cA g0 g1 32 b (n - 1) (mir (b (n - 1))) (by omega) (by decide)) (cwV 2 hts gX5_spellDolls_X3_put rfl rfl rfl ydv_X3_put ⟨Nat.le_of_ble_eq_true rfl, Nat.le_of_ble_eq_true rfl⟩) hK hR hP hD hA hS [3, 4] [0] rfl rfl rfl 3 3 rfl rfl (fun _ => rfl) rfl hl.1 rfl (Nat.le_of_ble_eq_true rfl) dX5_spellDolls_71 ⟨Nat.zero_le _, Nat.zero_le _⟩ (fun u_71 H locs hw hP hD hS => ?_)
          have hP : va_P D vwCl [(g1, .inl (cA, 32, .inl (nF (updN b (n - 1) (mir (b (n - 1)))))))] H := hP
          have hD : va_D A [(g1, .inl (cA, 32, .inl (nF (updN b (n - 1) (mir (b (n - 1)))))))] := hD
          refine lv_iinc (v := nI (i + 1)) (lv' := [(3, .int (nI (i + 1))), (4, .int (nI (tc i))), (0, .ref t0), (1, .ref g0), (2, .int (nI n))]) hx hb dX5_spellDolls_74 hl (k := 4) rfl (nI_add _ _) (by decide) rfl (fun ls hl => ?_)
          refine lv_goto (tgt := 4) hx hb dX5_spellDolls_77 (by decide) ?_
          exact ih_4 _ (by omega) (i + 1) n (updN b (n - 1) (mir (b (n - 1)))) w false _ _ _ rfl (by omega) (by omega) (h_.2.2.1) (h_.2.2.2) (by rw [← hs_, spl_s c_9]; simp [c_27, c_54, dig_44, dig_39]) hP hD hS (lv_sub hl [2, 3, 4, 0] rfl)
      · have h_ := flt_dig c_9 hF_ hO_ c_27
        have hd_ : 48 ≤ tc i := by have := c_27; simp [dig] at this; omega
        refine lv_aload_n hx hb dX5_spellDolls_30 rfl (lv_at hl 2 rfl) ?_
        refine lv_iload_n hx hb dX5_spellDolls_31 rfl (lv_at hl 3 rfl) ?_
        refine lv_iload hx hb dX5_spellDolls_32 (lv_at hl 0 rfl) ?_
        refine lv_bipush (v := nI 48) hx hb dX5_spellDolls_34 (by decide) ?_
        refine nv_isub hx hb dX5_spellDolls_36 (by omega) ?_
        refine lv_iconst (v := nI 0) hx hb dX5_spellDolls_37 (by decide) ?_
        refine call_n (As := [.int (nI ((tc i) - 48)), .int (nI 0)]) (rest := [.int (nI n), .ref g0]) F (c_X6_dollOf l D cA ((tc i) - 48) false) ⟨va_cnB 2 hts gX5_spellDolls_X6_dollOf_n36 rfl rfl rfl (hK.2 _ (List.mem_of_getElem? (i := 8) rfl)) (hts _ (List.mem_of_getElem? (i := 14) rfl)) yd_X6_dollOf ⟨Nat.le_of_ble_eq_true rfl, Nat.le_of_ble_eq_true rfl⟩, (hts _ (List.mem_of_getElem? (i := 13) rfl)), trivial⟩ hK hR hP hD hA hS rfl hl.1 rfl (Nat.le_of_ble_eq_true rfl) dX5_spellDolls_38 ⟨Nat.zero_le _, Nat.zero_le _⟩ (fun H locs hP hS => ?_)
        refine call_v (q := (RX3, TX3, 1)) (As := [.int (nI n), .int (nI (2 * ((tc i) - 48) + b2n false))]) (rest := []) F (c_X3_put l D cA g0 g1 32 b n (2 * ((tc i) - 48) + b2n false) (by omega) (by decide)) (cwV 2 hts gX5_spellDolls_X3_put rfl rfl rfl ydv_X3_put ⟨Nat.le_of_ble_eq_true rfl, Nat.le_of_ble_eq_true rfl⟩) hK hR hP hD hA hS [3, 4] [0] rfl rfl rfl 3 3 rfl rfl (fun _ => rfl) rfl hl.1 rfl (Nat.le_of_ble_eq_true rfl) dX5_spellDolls_41 ⟨Nat.zero_le _, Nat.zero_le _⟩ (fun u_41 H locs hw hP hD hS => ?_)
        have hP : va_P D vwCl [(g1, .inl (cA, 32, .inl (nF (updN b n (2 * ((tc i) - 48) + b2n false)))))] H := hP
        have hD : va_D A [(g1, .inl (cA, 32, .inl (nF (updN b n (2 * ((tc i) - 48) + b2n false)))))] := hD
        refine lv_iinc (v := nI (n + 1)) (lv' := [(2, .int (nI (n + 1))), (4, .int (nI (tc i))), (0, .ref t0), (1, .ref g0), (3, .int (nI i))]) hx hb dX5_spellDolls_44 hl (k := 3) rfl (nI_add _ _) (by decide) rfl (fun ls hl => ?_)
        refine lv_goto (tgt := 74) hx hb dX5_spellDolls_47 (by decide) ?_
        refine lv_iinc (v := nI (i + 1)) (lv' := [(3, .int (nI (i + 1))), (2, .int (nI (n + 1))), (4, .int (nI (tc i))), (0, .ref t0), (1, .ref g0)]) hx hb dX5_spellDolls_74 hl (k := 4) rfl (nI_add _ _) (by decide) rfl (fun ls hl => ?_)
        refine lv_goto (tgt := 4) hx hb dX5_spellDolls_77 (by decide) ?_
        exact ih_4 _ (by omega) (i + 1) (n + 1) (updN b n (2 * ((tc i) - 48) + b2n false)) false true _ _ _ rfl (by omega) (by omega) (h_.2.1) (h_.2.2) (by rw [← hs_, spl_s c_9]; simp [c_27, dig_44, dig_39]) hP hD hS (lv_sub hl [3, 4, 1, 0] rfl)
  exact LP_4 _ 0 0 b0 true false _ _ _ rfl (by omega) (by omega) (hok) (⟨fun _ => by decide, fun e => by simp at e, fun e => by simp at e⟩) (rfl) hP hD hS (lv_sub hl [2, 3, 1, 0] rfl)
