/-! laid by a program: contracts of X6_type, X6_clearText, X6_readGarland, X6_undo, X6_keep, X6_restore, X6_kind, X6_garland, X6_doll, X6_reason, X6_between, X6_ways, X6_longest, X6_count -/
abbrev rm_X6_type : Room := { frames := 2, cells := 0, slots := 0, locals := 43 }
theorem ydv_X6_type : yX6_type.cls = RX6 ∧ yX6_type.cls ≠ "java/lang/invoke/MethodHandle" ∧ yX6_type.cls ≠ "java/lang/invoke/VarHandle" ∧ (parseMethodDescriptor yX6_type.desc).map (fun d => d.parameters.length) = some 1 := by decide +kernel
theorem inf_X6_type_X6 : ∀ w ∈ wsX60, w ∈ wsX6_type := fun w h => List.mem_cons_of_mem _ (List.mem_append_left _ (List.mem_append_left _ (List.mem_append_right _ (h))))
set_option maxHeartbeats 4000000 in
set_option maxRecDepth 100000 in
theorem c_X6_type (l : Launch) (D : va_G) (cA : ClassId) (d0 h0 k0 q0 c0 t0 s0 b0 : Nat) (fs : List Value) (t1 t2 : Nat) (tc : Nat → Nat) (z : Nat) (x : Nat) (hz : z ≤ 80) : MI l D cA yX6_type wsX6_type rm_X6_type [.ref d0, .int (nI x)] [(d0, .inr (6, .ref h0 :: .ref k0 :: .ref q0 :: .ref c0 :: .ref t0 :: .ref s0 :: .ref b0 :: fs)), (t1, .inr (3, [.ref t2]))] [(t0, .inr (5, [.ref t1, .int (nI z)])), (t2, .inl (cA, 80, .inl (nF tc)))] (S := Unit) (fun rr_ (uu_ : Unit) => rr_ = txR z) (fun (uu_ : Unit) => [(t0, .inr (5, [.ref t1, .int (nI (txZ z))])), (t2, .inl (cA, 80, .inl (nF (txC tc z x))))]) := by
  refine ofWi (cc := cX6_type) (maxL := 2) (rt := .int) (by decide) rfl (Nat.le_of_ble_eq_true rfl) ?_
  intro p e s m args below meth c Q A ls F hK hR hP hD hA hS hl RET
  obtain ⟨hx, hb, hml, hown, hts⟩ := id F
  have hl : lv_has ls 2 [(0, .ref d0), (1, .int (nI x))] := hl
  refine lv_aload_n hx hb dX6_type_0 rfl (lv_at hl 0 rfl) ?_
  refine va_get (D := D) (cl := vwCl) (ci := 6) (v := .ref t0) (C := RX6) (T := TX6) (N := 8) hx hb hts inf_X6_type_X6 hown hK.1 (hR.at hS) 0 rfl rfl 4 (by decide) (hts _ (List.mem_of_getElem? (i := 1) rfl)) (fun _ h9 => h9) rfl dX6_type_1 ?_
  refine call_r (q := (RX5, TX5, 2)) (As := []) (rest := []) F (c_X5_isFull l D cA t0 t1 z (by omega)) (cwV 0 hts gX6_type_X5_isFull rfl rfl rfl ydv_X5_isFull ⟨Nat.le_of_ble_eq_true rfl, Nat.le_of_ble_eq_true rfl⟩) hK hR hP hD hA hS [2] rfl rfl 2 5 rfl rfl rfl hl.1 rfl (Nat.le_of_ble_eq_true rfl) dX6_type_4 ⟨Nat.zero_le _, Nat.zero_le _⟩ (fun H locs hP hS => ?_)
  refine bv_if_eq (tgt := 13) hx hb dX6_type_7 (by decide) (fun c_7 => ?_) (fun c_7 => ?_)
  · have hz_ : z < 80 := by simp at c_7; omega
    refine lv_aload_n hx hb dX6_type_13 rfl (lv_at hl 0 rfl) ?_
    refine va_get (D := D) (cl := vwCl) (ci := 6) (v := .ref t0) (C := RX6) (T := TX6) (N := 8) hx hb hts inf_X6_type_X6 hown hK.1 (hR.at hS) 0 rfl rfl 4 (by decide) (hts _ (List.mem_of_getElem? (i := 1) rfl)) (fun _ h9 => h9) rfl dX6_type_14 ?_
    refine lv_iload_n hx hb dX6_type_17 rfl (lv_at hl 1 rfl) ?_
    refine call_i (q := (RX5, TX5, 2)) (As := [.int (nI x)]) (rest := []) F (c_X5_add l D cA t0 t1 t2 tc z x (by omega)) (cwV 1 hts gX6_type_X5_add rfl rfl rfl ydv_X5_add ⟨Nat.le_of_ble_eq_true rfl, Nat.le_of_ble_eq_true rfl⟩) hK hR hP hD hA hS [1, 2, 3] [0, 1] rfl rfl rfl 2 5 rfl rfl (fun _ => rfl) rfl hl.1 rfl (Nat.le_of_ble_eq_true rfl) dX6_type_18 ⟨Nat.zero_le _, Nat.zero_le _⟩ (fun r_18 u_18 H locs hw hP hD hS => ?_)
    have hP : va_P D vwCl [(t0, .inr (5, [.ref t1, .int (nI (z + 1))])), (t2, .inl (cA, 80, .inl (nF (updN tc z x))))] H := hP
    have hD : va_D A [(t0, .inr (5, [.ref t1, .int (nI (z + 1))])), (t2, .inl (cA, 80, .inl (nF (updN tc z x))))] := hD
    obtain rfl : r_18 = nI (z + 1) := hw
    refine tope (y := txR z) (by rw [txR, if_pos (by simp at c_7; omega)]) ?_
    exact RET _ _ _ _ _ () dX6_type_21 rfl rfl (by rw [show txZ z = z + 1 from if_pos hz_, show txC tc z x = updN tc z x from if_pos hz_]; exact hP) hS
  · refine lv_bipush (v := -3) hx hb dX6_type_10 (by decide) ?_
    refine tope (y := txR z) (by rw [txR, if_neg (by simp at c_7; omega)]) ?_
    exact RET _ _ _ _ _ () dX6_type_12 rfl rfl (by rw [show txZ z = z from if_neg (by simp at c_7; omega), show txC tc z x = tc from if_neg (by simp at c_7; omega)]; exact hP) hS
abbrev rm_X6_clearText : Room := { frames := 1, cells := 0, slots := 0, locals := 21 }
theorem ydv_X6_clearText : yX6_clearText.cls = RX6 ∧ yX6_clearText.cls ≠ "java/lang/invoke/MethodHandle" ∧ yX6_clearText.cls ≠ "java/lang/invoke/VarHandle" ∧ (parseMethodDescriptor yX6_clearText.desc).map (fun d => d.parameters.length) = some 0 := by decide +kernel
theorem inf_X6_clearText_X6 : ∀ w ∈ wsX60, w ∈ wsX6_clearText := fun w h => List.mem_cons_of_mem _ (List.mem_append_left _ (List.mem_append_right _ (h)))
set_option maxHeartbeats 4000000 in
set_option maxRecDepth 100000 in
theorem c_X6_clearText (l : Launch) (D : va_G) (cA : ClassId) (d0 h0 k0 q0 c0 t0 s0 b0 : Nat) (fs : List Value) (t1 z : Nat)  : MI l D cA yX6_clearText wsX6_clearText rm_X6_clearText [.ref d0] [(d0, .inr (6, .ref h0 :: .ref k0 :: .ref q0 :: .ref c0 :: .ref t0 :: .ref s0 :: .ref b0 :: fs))] [(t0, .inr (5, [.ref t1, .int (nI z)]))] (S := Unit) (fun rr_ (uu_ : Unit) => rr_ = nI z) (fun (uu_ : Unit) => [(t0, .inr (5, [.ref t1, .int (nI 0)]))]) := by
  refine ofWi (cc := cX6_clearText) (maxL := 1) (rt := .int) (by decide) rfl (Nat.le_of_ble_eq_true rfl) ?_
  intro p e s m args below meth c Q A ls F hK hR hP hD hA hS hl RET
  obtain ⟨hx, hb, hml, hown, hts⟩ := id F
  have hl : lv_has ls 1 [(0, .ref d0)] := hl
  refine lv_aload_n hx hb dX6_clearText_0 rfl (lv_at hl 0 rfl) ?_
  refine va_get (D := D) (cl := vwCl) (ci := 6) (v := .ref t0) (C := RX6) (T := TX6) (N := 8) hx hb hts inf_X6_clearText_X6 hown hK.1 (hR.at hS) 0 rfl rfl 4 (by decide) (hts _ (List.mem_of_getElem? (i := 1) rfl)) (fun _ h9 => h9) rfl dX6_clearText_1 ?_
  refine call_i (q := (RX5, TX5, 2)) (As := []) (rest := []) F (c_X5_empty l D cA t0 t1 z) (cwV 0 hts gX6_clearText_X5_empty rfl rfl rfl ydv_X5_empty ⟨Nat.le_of_ble_eq_true rfl, Nat.le_of_ble_eq_true rfl⟩) hK hR hP hD hA hS [1] [0] rfl rfl rfl 1 5 rfl rfl (fun _ => rfl) rfl hl.1 rfl (Nat.le_of_ble_eq_true rfl) dX6_clearText_4 ⟨Nat.zero_le _, Nat.zero_le _⟩ (fun r_4 u_4 H locs hw hP hD hS => ?_)
  have hP : va_P D vwCl [(t0, .inr (5, [.ref t1, .int (nI 0)]))] H := hP
  have hD : va_D A [(t0, .inr (5, [.ref t1, .int (nI 0)]))] := hD
  obtain rfl : r_4 = nI z := hw
  exact RET _ _ _ _ _ () dX6_clearText_7 rfl rfl hP hS
abbrev rm_X6_readGarland : Room := { frames := 4, cells := 0, slots := 0, locals := 93 }
theorem ydv_X6_readGarland : yX6_readGarland.cls = RX6 ∧ yX6_readGarland.cls ≠ "java/lang/invoke/MethodHandle" ∧ yX6_readGarland.cls ≠ "java/lang/invoke/VarHandle" ∧ (parseMethodDescriptor yX6_readGarland.desc).map (fun d => d.parameters.length) = some 0 := by decide +kernel
theorem inf_X6_readGarland_X6 : ∀ w ∈ wsX60, w ∈ wsX6_readGarland := fun w h => List.mem_cons_of_mem _ (List.mem_append_left _ (List.mem_append_left _ (List.mem_append_left _ (List.mem_append_left _ (List.mem_append_right _ (h))))))
set_option maxHeartbeats 4000000 in
set_option maxRecDepth 100000 in
theorem c_X6_readGarland (l : Launch) (D : va_G) (cA : ClassId) (d0 h0 k0 q0 c0 t0 s0 b0 : Nat) (fs : List Value) (c1 c2 : Nat) (o r : Nat) (hs : Nat → Nat) (h1 h2 : Nat) (a : Nat → Nat) (t1 t2 : Nat) (tc : Nat → Nat) (z : Nat) (b1 : Nat) (b : Nat → Nat)  (ho : o < 4) (hr_ : r ≤ 4) (hV : Vd a) (hz : z ≤ 80) (htc : ∀ j, j < z → tc j < 2 ^ 31) : MI l D cA yX6_readGarland wsX6_readGarland rm_X6_readGarland [.ref d0] [(d0, .inr (6, .ref h0 :: .ref k0 :: .ref q0 :: .ref c0 :: .ref t0 :: .ref s0 :: .ref b0 :: fs)), (c1, .inr (3, [.ref c2])), (h0, .inr (4, [.ref h1])), (h1, .inr (3, [.ref h2])), (t0, .inr (5, [.ref t1, .int (nI z)])), (t1, .inr (3, [.ref t2])), (t2, .inl (cA, 80, .inl (nF tc))), (b0, .inr (3, [.ref b1]))] [(c0, .inr (1, [.ref c1, .int (nI o), .int (nI r)])), (c2, .inl (cA, 1144, .inl (nF hs))), (h2, .inl (cA, 286, .inl (nF a))), (b1, .inl (cA, 32, .inl (nF b)))] (S := (Nat) × (Nat) × (Nat → Nat) × (Nat → Nat) × (Nat → Nat)) (fun rr_ (uu_ : (Nat) × (Nat) × (Nat → Nat) × (Nat → Nat) × (Nat → Nat)) => rr_ = (aRead a tc z b).1 ∧ (ActC a hs o r (aRead a tc z b).2 uu_.1 uu_.2.1 uu_.2.2.1 uu_.2.2.2.1)) (fun (uu_ : (Nat) × (Nat) × (Nat → Nat) × (Nat → Nat) × (Nat → Nat)) => [(c0, .inr (1, [.ref c1, .int (nI uu_.1), .int (nI uu_.2.1)])), (c2, .inl (cA, 1144, .inl (nF uu_.2.2.1))), (h2, .inl (cA, 286, .inl (nF uu_.2.2.2.1))), (b1, .inl (cA, 32, .inl (nF uu_.2.2.2.2)))]) := by
  refine ofWi (cc := cX6_readGarland) (maxL := 4) (rt := .int) (by decide) rfl (Nat.le_of_ble_eq_true rfl) ?_
  intro p e s m args below meth c Q A ls F hK hR hP hD hA hS hl RET
  obtain ⟨hx, hb, hml, hown, hts⟩ := id F
  have hl : lv_has ls 4 [(0, .ref d0)] := hl
  refine lv_aload_n hx hb dX6_readGarland_0 rfl (lv_at hl 0 rfl) ?_
  refine va_get (D := D) (cl := vwCl) (ci := 6) (v := .ref t0) (C := RX6) (T := TX6) (N := 8) hx hb hts inf_X6_readGarland_X6 hown hK.1 (hR.at hS) 0 rfl rfl 4 (by decide) (hts _ (List.mem_of_getElem? (i := 1) rfl)) (fun _ h9 => h9) rfl dX6_readGarland_1 ?_
  refine call_r (q := (RX5, TX5, 2)) (As := []) (rest := []) F (c_X5_fault l D cA t0 t1 t2 tc z (by omega) (by omega)) (cwV 0 hts gX6_readGarland_X5_fault rfl rfl rfl ydv_X5_fault ⟨Nat.le_of_ble_eq_true rfl, Nat.le_of_ble_eq_true rfl⟩) hK hR hP hD hA hS [4, 5, 6] rfl rfl 4 5 rfl rfl rfl hl.1 rfl (Nat.le_of_ble_eq_true rfl) dX6_readGarland_4 ⟨Nat.zero_le _, Nat.zero_le _⟩ (fun H locs hP hS => ?_)
  rcases flt_c tc z with hfl | hfl
  · refine tope (y := -1) (flI_y hfl) ?_
    refine lv_istore_n (lv' := [(1, .int ((-1))), (0, .ref d0)]) hx hb dX6_readGarland_7 rfl hl (by decide) rfl (fun ls hl => ?_)
    refine lv_iload_n hx hb dX6_readGarland_8 rfl (lv_at hl 0 rfl) ?_
    refine lv_iconst (v := -1) hx hb dX6_readGarland_9 (by decide) ?_
    refine lv_icmp_eq (tgt := 18) hx hb dX6_readGarland_10 (by decide) (fun c_10 => ?_) (fun c_10 => absurd c_10 ((not_not_intro rfl)))
    have hs_ := spl_ok0 b hfl
    have hk_ := hV.k
    refine lv_aload_n hx hb dX6_readGarland_18 rfl (lv_at hl 1 rfl) ?_
    refine va_get (D := D) (cl := vwCl) (ci := 6) (v := .ref t0) (C := RX6) (T := TX6) (N := 8) hx hb hts inf_X6_readGarland_X6 hown hK.1 (hR.at hS) 0 rfl rfl 4 (by decide) (hts _ (List.mem_of_getElem? (i := 1) rfl)) (fun _ h9 => h9) rfl dX6_readGarland_19 ?_
    refine lv_aload_n hx hb dX6_readGarland_22 rfl (lv_at hl 1 rfl) ?_
    refine va_get (D := D) (cl := vwCl) (ci := 6) (v := .ref b0) (C := RX6) (T := TX6) (N := 8) hx hb hts inf_X6_readGarland_X6 hown hK.1 (hR.at hS) 0 rfl rfl 6 (by decide) (hts _ (List.mem_of_getElem? (i := 2) rfl)) (fun _ h9 => h9) rfl dX6_readGarland_23 ?_
    refine call_i (q := (RX5, TX5, 2)) (As := [.ref b0]) (rest := []) F (c_X5_spellDolls l D cA t0 t1 t2 tc z b0 b1 b (hz) (htc) (hfl)) (cwV 1 hts gX6_readGarland_X5_spellDolls rfl rfl rfl ydv_X5_spellDolls ⟨Nat.le_of_ble_eq_true rfl, Nat.le_of_ble_eq_true rfl⟩) hK hR hP hD hA hS [4, 5, 6, 7, 11] [3] rfl rfl rfl 4 5 rfl rfl (fun _ => rfl) rfl hl.1 rfl (Nat.le_of_ble_eq_true rfl) dX6_readGarland_26 ⟨Nat.zero_le _, Nat.zero_le _⟩ (fun r_26 u_26 H locs hw hP hD hS => ?_)
    have hP : va_P D vwCl [(c0, .inr (1, [.ref c1, .int (nI o), .int (nI r)])), (c2, .inl (cA, 1144, .inl (nF hs))), (h2, .inl (cA, 286, .inl (nF a))), (b1, .inl (cA, 32, .inl (nF ((spl tc z 0 0 b).2))))] H := hP
    have hD : va_D A [(c0, .inr (1, [.ref c1, .int (nI o), .int (nI r)])), (c2, .inl (cA, 1144, .inl (nF hs))), (h2, .inl (cA, 286, .inl (nF a))), (b1, .inl (cA, 32, .inl (nF ((spl tc z 0 0 b).2))))] := hD
    obtain rfl : r_26 = nI ((spl tc z 0 0 b).1) := hw
    refine lv_istore_n (lv' := [(2, .int (nI ((spl tc z 0 0 b).1))), (1, .int ((-1))), (0, .ref d0)]) hx hb dX6_readGarland_29 rfl hl (by decide) rfl (fun ls hl => ?_)
    refine lv_aload_n hx hb dX6_readGarland_30 rfl (lv_at hl 2 rfl) ?_
    refine va_get (D := D) (cl := vwCl) (ci := 6) (v := .ref h0) (C := RX6) (T := TX6) (N := 8) hx hb hts inf_X6_readGarland_X6 hown hK.1 (hR.at hS) 0 rfl rfl 0 (by decide) (hts _ (List.mem_of_getElem? (i := 3) rfl)) (fun _ h9 => h9) rfl dX6_readGarland_31 ?_
    refine lv_aload_n hx hb dX6_readGarland_34 rfl (lv_at hl 2 rfl) ?_
    refine va_get (D := D) (cl := vwCl) (ci := 6) (v := .ref b0) (C := RX6) (T := TX6) (N := 8) hx hb hts inf_X6_readGarland_X6 hown hK.1 (hR.at hS) 0 rfl rfl 6 (by decide) (hts _ (List.mem_of_getElem? (i := 2) rfl)) (fun _ h9 => h9) rfl dX6_readGarland_35 ?_
    refine lv_iload_n hx hb dX6_readGarland_38 rfl (lv_at hl 0 rfl) ?_
    refine call_r (q := (RX4, TX4, 1)) (As := [.ref b0, .int (nI ((spl tc z 0 0 b).1))]) (rest := []) F (c_X4_hasKindsOf l D cA h0 h1 h2 a b0 b1 32 ((spl tc z 0 0 b).2) ((spl tc z 0 0 b).1) (by omega) (by omega) (by decide) (hs_.2.2)) (cwV 2 hts gX6_readGarland_X4_hasKindsOf rfl rfl rfl ydv_X4_hasKindsOf ⟨Nat.le_of_ble_eq_true rfl, Nat.le_of_ble_eq_true rfl⟩) hK hR hP hD hA hS [2, 3, 10, 7, 11] rfl rfl 2 4 rfl rfl rfl hl.1 rfl (Nat.le_of_ble_eq_true rfl) dX6_readGarland_39 ⟨Nat.zero_le _, Nat.zero_le _⟩ (fun H locs hP hS => ?_)
    refine bv_if_ne (tgt := 47) hx hb dX6_readGarland_42 (by decide) (fun c_42 => ?_) (fun c_42 => ?_)
    · refine lv_aload_n hx hb dX6_readGarland_47 rfl (lv_at hl 2 rfl) ?_
      refine va_get (D := D) (cl := vwCl) (ci := 6) (v := .ref h0) (C := RX6) (T := TX6) (N := 8) hx hb hts inf_X6_readGarland_X6 hown hK.1 (hR.at hS) 0 rfl rfl 0 (by decide) (hts _ (List.mem_of_getElem? (i := 3) rfl)) (fun _ h9 => h9) rfl dX6_readGarland_48 ?_
      refine lv_aload_n hx hb dX6_readGarland_51 rfl (lv_at hl 2 rfl) ?_
      refine va_get (D := D) (cl := vwCl) (ci := 6) (v := .ref b0) (C := RX6) (T := TX6) (N := 8) hx hb hts inf_X6_readGarland_X6 hown hK.1 (hR.at hS) 0 rfl rfl 6 (by decide) (hts _ (List.mem_of_getElem? (i := 2) rfl)) (fun _ h9 => h9) rfl dX6_readGarland_52 ?_
      refine lv_iconst (v := nI 0) hx hb dX6_readGarland_55 (by decide) ?_
      refine lv_iload_n hx hb dX6_readGarland_56 rfl (lv_at hl 0 rfl) ?_
      refine call_r (q := (RX4, TX4, 1)) (As := [.ref b0, .int (nI 0), .int (nI ((spl tc z 0 0 b).1))]) (rest := []) F (c_X4_hasClashIn l D cA h0 h1 h2 a b0 b1 32 ((spl tc z 0 0 b).2) 0 ((spl tc z 0 0 b).1) (hV) (by omega) (by decide) (fun j hj => by rw [Nat.zero_add]; exact hs_.2.2 j hj)) (cwV 3 hts gX6_readGarland_X4_hasClashIn rfl rfl rfl ydv_X4_hasClashIn ⟨Nat.le_of_ble_eq_true rfl, Nat.le_of_ble_eq_true rfl⟩) hK hR hP hD hA hS [2, 3, 10, 7, 11] rfl rfl 2 4 rfl rfl rfl hl.1 rfl (Nat.le_of_ble_eq_true rfl) dX6_readGarland_57 ⟨Nat.zero_le _, Nat.zero_le _⟩ (fun H locs hP hS => ?_)
      refine bv_if_eq (tgt := 66) hx hb dX6_readGarland_60 (by decide) (fun c_60 => ?_) (fun c_60 => ?_)
      · refine lv_aload_n hx hb dX6_readGarland_66 rfl (lv_at hl 2 rfl) ?_
        refine va_get (D := D) (cl := vwCl) (ci := 6) (v := .ref h0) (C := RX6) (T := TX6) (N := 8) hx hb hts inf_X6_readGarland_X6 hown hK.1 (hR.at hS) 0 rfl rfl 0 (by decide) (hts _ (List.mem_of_getElem? (i := 3) rfl)) (fun _ h9 => h9) rfl dX6_readGarland_67 ?_
        refine call_r (q := (RX4, TX4, 1)) (As := []) (rest := []) F (c_X4_freeNumber l D cA h0 h1 h2 a (hV)) (cwV 0 hts gX6_readGarland_X4_freeNumber rfl rfl rfl ydv_X4_freeNumber ⟨Nat.le_of_ble_eq_true rfl, Nat.le_of_ble_eq_true rfl⟩) hK hR hP hD hA hS [2, 3, 10] rfl rfl 2 4 rfl rfl rfl hl.1 rfl (Nat.le_of_ble_eq_true rfl) dX6_readGarland_70 ⟨Nat.zero_le _, Nat.zero_le _⟩ (fun H locs hP hS => ?_)
        rcases fr_c a with hf8 | hf8
        · refine tope (y := -1) (frI_8 hf8) ?_
          refine lv_istore_n (lv' := [(3, .int ((-1))), (2, .int (nI ((spl tc z 0 0 b).1))), (1, .int ((-1))), (0, .ref d0)]) hx hb dX6_readGarland_73 rfl hl (by decide) rfl (fun ls hl => ?_)
          refine lv_iload_n hx hb dX6_readGarland_74 rfl (lv_at hl 0 rfl) ?_
          refine lv_iconst (v := -1) hx hb dX6_readGarland_75 (by decide) ?_
          refine lv_icmp_ne (tgt := 82) hx hb dX6_readGarland_76 (by decide) (fun c_76 => absurd c_76 ((fun h => h rfl))) (fun c_76 => ?_)
          refine lv_bipush (v := -3) hx hb dX6_readGarland_79 (by decide) ?_
          have hE : aRead a tc z b = ((-3), none) := by first | (simp only [aRead]; simp [c_10, c_42, c_60, c_76, hfl, hf8]; done) | (simp only [aRead]; simp [c_10, c_42, c_60, c_76, hfl, hf8]; omega)
          refine tope (y := (aRead a tc z b).1) (by rw [hE]) ?_
          exact RET _ _ _ _ _ (o, r, hs, a, (spl tc z 0 0 b).2) dX6_readGarland_81 rfl ⟨rfl, (by rw [hE]; exact ⟨rfl, rfl, rfl, rfl⟩)⟩ hP hS
        · refine tope (y := nI (fr a)) (frI_n hf8) ?_
          refine lv_istore_n (lv' := [(3, .int (nI (fr a))), (2, .int (nI ((spl tc z 0 0 b).1))), (1, .int ((-1))), (0, .ref d0)]) hx hb dX6_readGarland_73 rfl hl (by decide) rfl (fun ls hl => ?_)
          refine lv_iload_n hx hb dX6_readGarland_74 rfl (lv_at hl 0 rfl) ?_
          refine lv_iconst (v := -1) hx hb dX6_readGarland_75 (by decide) ?_
          refine lv_icmp_ne (tgt := 82) hx hb dX6_readGarland_76 (by decide) (fun c_76 => ?_) (fun c_76 => absurd c_76 ((nI_m1 (by omega))))
          refine lv_aload_n hx hb dX6_readGarland_82 rfl (lv_at hl 3 rfl) ?_
          refine va_get (D := D) (cl := vwCl) (ci := 6) (v := .ref c0) (C := RX6) (T := TX6) (N := 8) hx hb hts inf_X6_readGarland_X6 hown hK.1 (hR.at hS) 0 rfl rfl 3 (by decide) (hts _ (List.mem_of_getElem? (i := 4) rfl)) (fun _ h9 => h9) rfl dX6_readGarland_83 ?_
          refine lv_aload_n hx hb dX6_readGarland_86 rfl (lv_at hl 3 rfl) ?_
          refine va_get (D := D) (cl := vwCl) (ci := 6) (v := .ref h0) (C := RX6) (T := TX6) (N := 8) hx hb hts inf_X6_readGarland_X6 hown hK.1 (hR.at hS) 0 rfl rfl 0 (by decide) (hts _ (List.mem_of_getElem? (i := 3) rfl)) (fun _ h9 => h9) rfl dX6_readGarland_87 ?_
          refine call_v (q := (RX1, TX1, 3)) (As := [.ref h0]) (rest := []) F (c_X1_remember l D cA c0 c1 c2 o r hs h0 h1 h2 a (by omega) (by omega)) (cwV 1 hts gX6_readGarland_X1_remember rfl rfl rfl ydv_X1_remember ⟨Nat.le_of_ble_eq_true rfl, Nat.le_of_ble_eq_true rfl⟩) hK hR hP hD hA hS [1, 2, 3, 8, 9, 10] [0, 1, 2] rfl rfl rfl 8 1 rfl rfl (fun _ => rfl) rfl hl.1 rfl (Nat.le_of_ble_eq_true rfl) dX6_readGarland_90 ⟨Nat.zero_le _, Nat.zero_le _⟩ (fun u_90 H locs hw hP hD hS => ?_)
          have hP : va_P D vwCl [(c0, .inr (1, [.ref c1, .int (nI (hisO o r)), .int (nI (hisT r + 1))])), (c2, .inl (cA, 1144, .inl (nF (cpyN a hs 0 ((hisO o r + hisT r) % 4 * 286) 286)))), (h2, .inl (cA, 286, .inl (nF a))), (b1, .inl (cA, 32, .inl (nF ((spl tc z 0 0 b).2))))] H := hP
          have hD : va_D A [(c0, .inr (1, [.ref c1, .int (nI (hisO o r)), .int (nI (hisT r + 1))])), (c2, .inl (cA, 1144, .inl (nF (cpyN a hs 0 ((hisO o r + hisT r) % 4 * 286) 286)))), (h2, .inl (cA, 286, .inl (nF a))), (b1, .inl (cA, 32, .inl (nF ((spl tc z 0 0 b).2))))] := hD
          refine lv_aload_n hx hb dX6_readGarland_93 rfl (lv_at hl 3 rfl) ?_
          refine va_get (D := D) (cl := vwCl) (ci := 6) (v := .ref h0) (C := RX6) (T := TX6) (N := 8) hx hb hts inf_X6_readGarland_X6 hown hK.1 (hR.at hS) 0 rfl rfl 0 (by decide) (hts _ (List.mem_of_getElem? (i := 3) rfl)) (fun _ h9 => h9) rfl dX6_readGarland_94 ?_
          refine lv_iload_n hx hb dX6_readGarland_97 rfl (lv_at hl 0 rfl) ?_
          refine lv_aload_n hx hb dX6_readGarland_98 rfl (lv_at hl 3 rfl) ?_
          refine va_get (D := D) (cl := vwCl) (ci := 6) (v := .ref b0) (C := RX6) (T := TX6) (N := 8) hx hb hts inf_X6_readGarland_X6 hown hK.1 (hR.at hS) 0 rfl rfl 6 (by decide) (hts _ (List.mem_of_getElem? (i := 2) rfl)) (fun _ h9 => h9) rfl dX6_readGarland_99 ?_
          refine lv_iload_n hx hb dX6_readGarland_102 rfl (lv_at hl 1 rfl) ?_
          refine call_v (q := (RX4, TX4, 1)) (As := [.int (nI (fr a)), .ref b0, .int (nI ((spl tc z 0 0 b).1))]) (rest := []) F (c_X4_hangUp l D cA h0 h1 h2 a b0 b1 32 ((spl tc z 0 0 b).2) (fr a) ((spl tc z 0 0 b).1) (hf8) (by omega) (by omega) (by decide)) (cwV 3 hts gX6_readGarland_X4_hangUp rfl rfl rfl ydv_X4_hangUp ⟨Nat.le_of_ble_eq_true rfl, Nat.le_of_ble_eq_true rfl⟩) hK hR hP hD hA hS [2, 3, 7, 11, 10] [3, 2] rfl rfl rfl 2 4 rfl rfl (fun _ => rfl) rfl hl.1 rfl (Nat.le_of_ble_eq_true rfl) dX6_readGarland_103 ⟨Nat.zero_le _, Nat.zero_le _⟩ (fun u_103 H locs hw hP hD hS => ?_)
          have hP : va_P D vwCl [(c0, .inr (1, [.ref c1, .int (nI (hisO o r)), .int (nI (hisT r + 1))])), (c2, .inl (cA, 1144, .inl (nF (cpyN a hs 0 ((hisO o r + hisT r) % 4 * 286) 286)))), (h2, .inl (cA, 286, .inl (nF (updN (cpyN ((spl tc z 0 0 b).2) a 0 (30 + (fr a) * 32 + 0) ((spl tc z 0 0 b).1)) (22 + (fr a)) ((spl tc z 0 0 b).1))))), (b1, .inl (cA, 32, .inl (nF ((spl tc z 0 0 b).2))))] H := hP
          have hD : va_D A [(c0, .inr (1, [.ref c1, .int (nI (hisO o r)), .int (nI (hisT r + 1))])), (c2, .inl (cA, 1144, .inl (nF (cpyN a hs 0 ((hisO o r + hisT r) % 4 * 286) 286)))), (h2, .inl (cA, 286, .inl (nF (updN (cpyN ((spl tc z 0 0 b).2) a 0 (30 + (fr a) * 32 + 0) ((spl tc z 0 0 b).1)) (22 + (fr a)) ((spl tc z 0 0 b).1))))), (b1, .inl (cA, 32, .inl (nF ((spl tc z 0 0 b).2))))] := hD
          refine lv_iload_n hx hb dX6_readGarland_106 rfl (lv_at hl 0 rfl) ?_
          have hE : aRead a tc z b = (nI (fr a), some (updN (cpyN ((spl tc z 0 0 b).2) a 0 (30 + (fr a) * 32 + 0) ((spl tc z 0 0 b).1)) (22 + (fr a)) ((spl tc z 0 0 b).1))) := by first | (simp only [aRead]; simp [c_10, c_42, c_60, c_76, hfl, Nat.ne_of_lt hf8]; done) | (simp only [aRead]; simp [c_10, c_42, c_60, c_76, hfl, Nat.ne_of_lt hf8]; omega)
          refine tope (y := (aRead a tc z b).1) (by rw [hE]) ?_
          exact RET _ _ _ _ _ (hisO o r, hisT r + 1, cpyN a hs 0 ((hisO o r + hisT r) % 4 * 286) 286, updN (cpyN ((spl tc z 0 0 b).2) a 0 (30 + (fr a) * 32 + 0) ((spl tc z 0 0 b).1)) (22 + (fr a)) ((spl tc z 0 0 b).1), (spl tc z 0 0 b).2) dX6_readGarland_107 rfl ⟨rfl, (by rw [hE]; exact ⟨rfl, rfl, rfl, rfl⟩)⟩ hP hS
      · refine lv_bipush (v := -4) hx hb dX6_readGarland_63 (by decide) ?_
        have hE : aRead a tc z b = ((-4), none) := by first | (simp only [aRead]; simp [c_10, c_42, c_60, hfl]; done) | (simp only [aRead]; simp [c_10, c_42, c_60, hfl]; omega)
        refine tope (y := (aRead a tc z b).1) (by rw [hE]) ?_
        exact RET _ _ _ _ _ (o, r, hs, a, (spl tc z 0 0 b).2) dX6_readGarland_65 rfl ⟨rfl, (by rw [hE]; exact ⟨rfl, rfl, rfl, rfl⟩)⟩ hP hS
    · refine lv_iconst (v := -1) hx hb dX6_readGarland_45 (by decide) ?_
      have hE : aRead a tc z b = ((-1), none) := by first | (simp only [aRead]; simp [c_10, c_42, hfl]; done) | (simp only [aRead]; simp [c_10, c_42, hfl]; omega)
      refine tope (y := (aRead a tc z b).1) (by rw [hE]) ?_
      exact RET _ _ _ _ _ (o, r, hs, a, (spl tc z 0 0 b).2) dX6_readGarland_46 rfl ⟨rfl, (by rw [hE]; exact ⟨rfl, rfl, rfl, rfl⟩)⟩ hP hS
  · have hfn : flt tc z 0 0 true false ≠ z + 1 := by omega
    refine tope (y := nI (flt tc z 0 0 true false)) (flI_n hfl) ?_
    refine lv_istore_n (lv' := [(1, .int (nI (flt tc z 0 0 true false))), (0, .ref d0)]) hx hb dX6_readGarland_7 rfl hl (by decide) rfl (fun ls hl => ?_)
    refine lv_iload_n hx hb dX6_readGarland_8 rfl (lv_at hl 0 rfl) ?_
    refine lv_iconst (v := -1) hx hb dX6_readGarland_9 (by decide) ?_
    refine lv_icmp_eq (tgt := 18) hx hb dX6_readGarland_10 (by decide) (fun c_10 => absurd c_10 (nI_m1 (by omega))) (fun c_10 => ?_)
    refine lv_bipush (v := -100) hx hb dX6_readGarland_13 (by decide) ?_
    refine lv_iload_n hx hb dX6_readGarland_15 rfl (lv_at hl 0 rfl) ?_
    refine lv_isub hx hb dX6_readGarland_16 ?_
    have hE : aRead a tc z b = (((-100)) - (nI (flt tc z 0 0 true false)), none) := by first | (simp only [aRead]; simp [c_10, hfn]; done) | (simp only [aRead]; simp [c_10, hfn]; omega)
    refine tope (y := (aRead a tc z b).1) (by rw [hE]) ?_
    exact RET _ _ _ _ _ (o, r, hs, a, b) dX6_readGarland_17 rfl ⟨rfl, (by rw [hE]; exact ⟨rfl, rfl, rfl, rfl⟩)⟩ hP hS
abbrev rm_X6_undo : Room := { frames := 4, cells := 0, slots := 0, locals := 93 }
theorem ydv_X6_undo : yX6_undo.cls = RX6 ∧ yX6_undo.cls ≠ "java/lang/invoke/MethodHandle" ∧ yX6_undo.cls ≠ "java/lang/invoke/VarHandle" ∧ (parseMethodDescriptor yX6_undo.desc).map (fun d => d.parameters.length) = some 0 := by decide +kernel
theorem inf_X6_undo_X6 : ∀ w ∈ wsX60, w ∈ wsX6_undo := fun w h => List.mem_cons_of_mem _ (List.mem_append_left _ (List.mem_append_left _ (List.mem_append_left _ (List.mem_append_right _ (h)))))
set_option maxHeartbeats 4000000 in
set_option maxRecDepth 100000 in
theorem c_X6_undo (l : Launch) (D : va_G) (cA : ClassId) (d0 h0 k0 q0 c0 t0 s0 b0 : Nat) (fs : List Value) (c1 c2 : Nat) (o r : Nat) (hs : Nat → Nat) (h1 h2 : Nat) (a : Nat → Nat) (ho : o < 4) (hr_ : r ≤ 4) : MI l D cA yX6_undo wsX6_undo rm_X6_undo [.ref d0] [(d0, .inr (6, .ref h0 :: .ref k0 :: .ref q0 :: .ref c0 :: .ref t0 :: .ref s0 :: .ref b0 :: fs)), (c1, .inr (3, [.ref c2])), (h0, .inr (4, [.ref h1])), (h1, .inr (3, [.ref h2]))] [(c0, .inr (1, [.ref c1, .int (nI o), .int (nI r)])), (c2, .inl (cA, 1144, .inl (nF hs))), (h2, .inl (cA, 286, .inl (nF a)))] (S := Unit) (fun rr_ (uu_ : Unit) => rr_ = unR r) (fun (uu_ : Unit) => [(c0, .inr (1, [.ref c1, .int (nI o), .int (nI (r - 1))])), (c2, .inl (cA, 1144, .inl (nF hs))), (h2, .inl (cA, 286, .inl (nF (unA a hs o r))))]) := by
  refine ofWi (cc := cX6_undo) (maxL := 1) (rt := .int) (by decide) rfl (Nat.le_of_ble_eq_true rfl) ?_
  intro p e s m args below meth c Q A ls F hK hR hP hD hA hS hl RET
  obtain ⟨hx, hb, hml, hown, hts⟩ := id F
  have hl : lv_has ls 1 [(0, .ref d0)] := hl
  refine lv_aload_n hx hb dX6_undo_0 rfl (lv_at hl 0 rfl) ?_
  refine va_get (D := D) (cl := vwCl) (ci := 6) (v := .ref c0) (C := RX6) (T := TX6) (N := 8) hx hb hts inf_X6_undo_X6 hown hK.1 (hR.at hS) 0 rfl rfl 3 (by decide) (hts _ (List.mem_of_getElem? (i := 1) rfl)) (fun _ h9 => h9) rfl dX6_undo_1 ?_
  refine call_r (q := (RX1, TX1, 3)) (As := []) (rest := []) F (c_X1_size l D cA c0 c1 o r) (cwV 0 hts gX6_undo_X1_size rfl rfl rfl ydv_X1_size ⟨Nat.le_of_ble_eq_true rfl, Nat.le_of_ble_eq_true rfl⟩) hK hR hP hD hA hS [4] rfl rfl 4 1 rfl rfl rfl hl.1 rfl (Nat.le_of_ble_eq_true rfl) dX6_undo_4 ⟨Nat.zero_le _, Nat.zero_le _⟩ (fun H locs hP hS => ?_)
  refine nv_if_ne (tgt := 13) hx hb dX6_undo_7 (by decide) (by omega) (fun c_7 => ?_) (fun c_7 => ?_)
  · refine lv_aload_n hx hb dX6_undo_13 rfl (lv_at hl 0 rfl) ?_
    refine va_get (D := D) (cl := vwCl) (ci := 6) (v := .ref c0) (C := RX6) (T := TX6) (N := 8) hx hb hts inf_X6_undo_X6 hown hK.1 (hR.at hS) 0 rfl rfl 3 (by decide) (hts _ (List.mem_of_getElem? (i := 1) rfl)) (fun _ h9 => h9) rfl dX6_undo_14 ?_
    refine lv_aload_n hx hb dX6_undo_17 rfl (lv_at hl 0 rfl) ?_
    refine va_get (D := D) (cl := vwCl) (ci := 6) (v := .ref h0) (C := RX6) (T := TX6) (N := 8) hx hb hts inf_X6_undo_X6 hown hK.1 (hR.at hS) 0 rfl rfl 0 (by decide) (hts _ (List.mem_of_getElem? (i := 2) rfl)) (fun _ h9 => h9) rfl dX6_undo_18 ?_
    refine call_v (q := (RX1, TX1, 3)) (As := [.ref h0]) (rest := []) F (c_X1_goBack l D cA c0 c1 c2 o r hs h0 h1 h2 a (by omega) (by omega) (by omega)) (cwV 1 hts gX6_undo_X1_goBack rfl rfl rfl ydv_X1_goBack ⟨Nat.le_of_ble_eq_true rfl, Nat.le_of_ble_eq_true rfl⟩) hK hR hP hD hA hS [1, 2, 3, 4, 5, 6] [0, 1, 2] rfl rfl rfl 4 1 rfl rfl (fun _ => rfl) rfl hl.1 rfl (Nat.le_of_ble_eq_true rfl) dX6_undo_21 ⟨Nat.zero_le _, Nat.zero_le _⟩ (fun u_21 H locs hw hP hD hS => ?_)
    have hP : va_P D vwCl [(c0, .inr (1, [.ref c1, .int (nI o), .int (nI (r - 1))])), (c2, .inl (cA, 1144, .inl (nF hs))), (h2, .inl (cA, 286, .inl (nF (cpyN hs a ((o + (r - 1)) % 4 * 286) 0 286))))] H := hP
    have hD : va_D A [(c0, .inr (1, [.ref c1, .int (nI o), .int (nI (r - 1))])), (c2, .inl (cA, 1144, .inl (nF hs))), (h2, .inl (cA, 286, .inl (nF (cpyN hs a ((o + (r - 1)) % 4 * 286) 0 286))))] := hD
    refine lv_aload_n hx hb dX6_undo_24 rfl (lv_at hl 0 rfl) ?_
    refine va_get (D := D) (cl := vwCl) (ci := 6) (v := .ref c0) (C := RX6) (T := TX6) (N := 8) hx hb hts inf_X6_undo_X6 hown hK.1 (hR.at hS) 0 rfl rfl 3 (by decide) (hts _ (List.mem_of_getElem? (i := 1) rfl)) (fun _ h9 => h9) rfl dX6_undo_25 ?_
    refine call_r (q := (RX1, TX1, 3)) (As := []) (rest := []) F (c_X1_size l D cA c0 c1 o (r - 1)) (cwV 0 hts gX6_undo_X1_size rfl rfl rfl ydv_X1_size ⟨Nat.le_of_ble_eq_true rfl, Nat.le_of_ble_eq_true rfl⟩) hK hR hP hD hA hS [4] rfl rfl 4 1 rfl rfl rfl hl.1 rfl (Nat.le_of_ble_eq_true rfl) dX6_undo_28 ⟨Nat.zero_le _, Nat.zero_le _⟩ (fun H locs hP hS => ?_)
    refine tope (y := unR r) (by rw [unR, if_neg c_7]) ?_
    exact RET _ _ _ _ _ () dX6_undo_31 rfl rfl (by rw [show unA a hs o r = cpyN hs a ((o + (r - 1)) % 4 * 286) 0 286 from if_neg c_7]; exact hP) hS
  · refine lv_bipush (v := -5) hx hb dX6_undo_10 (by decide) ?_
    refine tope (y := unR r) (by rw [unR, if_pos c_7]) ?_
    exact RET _ _ _ _ _ () dX6_undo_12 rfl rfl (by have e_ : r - 1 = r := (by omega); rw [e_, show unA a hs o r = a from if_pos c_7]; exact hP) hS
abbrev rm_X6_keep : Room := { frames := 4, cells := 0, slots := 0, locals := 85 }
theorem ydv_X6_keep : yX6_keep.cls = RX6 ∧ yX6_keep.cls ≠ "java/lang/invoke/MethodHandle" ∧ yX6_keep.cls ≠ "java/lang/invoke/VarHandle" ∧ (parseMethodDescriptor yX6_keep.desc).map (fun d => d.parameters.length) = some 0 := by decide +kernel
theorem inf_X6_keep_X6 : ∀ w ∈ wsX60, w ∈ wsX6_keep := fun w h => List.mem_cons_of_mem _ (List.mem_append_left _ (List.mem_append_left _ (List.mem_append_left _ (List.mem_append_right _ (h)))))
set_option maxHeartbeats 4000000 in
set_option maxRecDepth 100000 in
theorem c_X6_keep (l : Launch) (D : va_G) (cA : ClassId) (d0 h0 k0 q0 c0 t0 s0 b0 : Nat) (has : Bool) (h1 h2 s1 : Nat) (a sn : Nat → Nat) (hV : Vd a) : MI l D cA yX6_keep wsX6_keep rm_X6_keep [.ref d0] [(h0, .inr (4, [.ref h1])), (h1, .inr (3, [.ref h2])), (s0, .inr (3, [.ref s1])), (k0, .inr (2, [.ref h0]))] [(d0, .inr (6, [.ref h0, .ref k0, .ref q0, .ref c0, .ref t0, .ref s0, .ref b0, .int (bI has)])), (s1, .inl (cA, 286, .inl (nF sn))), (h2, .inl (cA, 286, .inl (nF a)))] (S := Unit) (fun rr_ (uu_ : Unit) => rr_ = nI (cntG a)) (fun (uu_ : Unit) => [(d0, .inr (6, [.ref h0, .ref k0, .ref q0, .ref c0, .ref t0, .ref s0, .ref b0, .int (bI true)])), (s1, .inl (cA, 286, .inl (nF (cpyN a sn 0 0 286)))), (h2, .inl (cA, 286, .inl (nF a)))]) := by
  refine ofWi (cc := cX6_keep) (maxL := 1) (rt := .int) (by decide) rfl (Nat.le_of_ble_eq_true rfl) ?_
  intro p e s m args below meth c Q A ls F hK hR hP hD hA hS hl RET
  obtain ⟨hx, hb, hml, hown, hts⟩ := id F
  have hl : lv_has ls 1 [(0, .ref d0)] := hl
  refine lv_aload_n hx hb dX6_keep_0 rfl (lv_at hl 0 rfl) ?_
  refine va_get (D := D) (cl := vwCl) (ci := 6) (v := .ref h0) (C := RX6) (T := TX6) (N := 8) hx hb hts inf_X6_keep_X6 hown hK.1 hP 0 rfl rfl 0 (by decide) (hts _ (List.mem_of_getElem? (i := 1) rfl)) (fun _ h9 => h9) rfl dX6_keep_1 ?_
  refine lv_aload_n hx hb dX6_keep_4 rfl (lv_at hl 0 rfl) ?_
  refine va_get (D := D) (cl := vwCl) (ci := 6) (v := .ref s0) (C := RX6) (T := TX6) (N := 8) hx hb hts inf_X6_keep_X6 hown hK.1 hP 0 rfl rfl 5 (by decide) (hts _ (List.mem_of_getElem? (i := 2) rfl)) (fun _ h9 => h9) rfl dX6_keep_5 ?_
  refine lv_iconst (v := nI 0) hx hb dX6_keep_8 (by decide) ?_
  refine call_v (q := (RX4, TX4, 1)) (As := [.ref s0, .int (nI 0)]) (rest := []) F (c_X4_saveTo l D cA h0 h1 h2 a s0 s1 286 sn 0 (by omega) (by decide)) (cwV 2 hts gX6_keep_X4_saveTo rfl rfl rfl ydv_X4_saveTo ⟨Nat.le_of_ble_eq_true rfl, Nat.le_of_ble_eq_true rfl⟩) hK hR hP hD hA hS [0, 1, 2, 6, 5] [2, 1] rfl rfl rfl 0 4 rfl rfl (fun _ => rfl) rfl hl.1 rfl (Nat.le_of_ble_eq_true rfl) dX6_keep_9 ⟨Nat.zero_le _, Nat.zero_le _⟩ (fun u_9 H locs hw hP hD hS => ?_)
  have hP : va_P D vwCl [(d0, .inr (6, [.ref h0, .ref k0, .ref q0, .ref c0, .ref t0, .ref s0, .ref b0, .int (bI has)])), (s1, .inl (cA, 286, .inl (nF (cpyN a sn 0 0 286)))), (h2, .inl (cA, 286, .inl (nF a)))] H := hP
  have hD : va_D A [(d0, .inr (6, [.ref h0, .ref k0, .ref q0, .ref c0, .ref t0, .ref s0, .ref b0, .int (bI has)])), (s1, .inl (cA, 286, .inl (nF (cpyN a sn 0 0 286)))), (h2, .inl (cA, 286, .inl (nF a)))] := hD
  refine lv_aload_n hx hb dX6_keep_12 rfl (lv_at hl 0 rfl) ?_
  refine lv_iconst (v := nI 1) hx hb dX6_keep_13 (by decide) ?_
  refine va_put (D := D) (ci := 6) (v := .int (nI 1)) (ty := .boolean) (C := RX6) (T := TX6) (N := 8) hx hb hts inf_X6_keep_X6 tyX6 tyX6_ok nmX6 hown hK.1 hP hD hS 0 rfl rfl 7 (by decide) (hts _ (List.mem_of_getElem? (i := 3) rfl)) (fun _ h9 => h9) rfl (by decide +kernel) rfl rfl (Nat.le_of_ble_eq_true rfl) dX6_keep_14 (fun H locs hP hD hS => ?_)
  have hP : va_P D vwCl [(d0, .inr (6, [.ref h0, .ref k0, .ref q0, .ref c0, .ref t0, .ref s0, .ref b0, .int (nI 1)])), (s1, .inl (cA, 286, .inl (nF (cpyN a sn 0 0 286)))), (h2, .inl (cA, 286, .inl (nF a)))] H := hP
  have hD : va_D A [(d0, .inr (6, [.ref h0, .ref k0, .ref q0, .ref c0, .ref t0, .ref s0, .ref b0, .int (nI 1)])), (s1, .inl (cA, 286, .inl (nF (cpyN a sn 0 0 286)))), (h2, .inl (cA, 286, .inl (nF a)))] := hD
  refine lv_aload_n hx hb dX6_keep_17 rfl (lv_at hl 0 rfl) ?_
  refine va_get (D := D) (cl := vwCl) (ci := 6) (v := .ref k0) (C := RX6) (T := TX6) (N := 8) hx hb hts inf_X6_keep_X6 hown hK.1 hP 0 rfl rfl 1 (by decide) (hts _ (List.mem_of_getElem? (i := 4) rfl)) (fun _ h9 => h9) rfl dX6_keep_18 ?_
  refine call_r (q := (RX2, TX2, 1)) (As := []) (rest := []) F (c_X2_garlands l D cA k0 h0 h1 h2 a (hV)) (cwV 0 hts gX6_keep_X2_garlands rfl rfl rfl ydv_X2_garlands ⟨Nat.le_of_ble_eq_true rfl, Nat.le_of_ble_eq_true rfl⟩) hK hR hP hD hA hS [3, 0, 1, 6] rfl rfl 3 2 rfl rfl rfl hl.1 rfl (Nat.le_of_ble_eq_true rfl) dX6_keep_21 ⟨Nat.zero_le _, Nat.zero_le _⟩ (fun H locs hP hS => ?_)
  exact RET _ _ _ _ _ () dX6_keep_24 rfl rfl hP hS
abbrev rm_X6_restore : Room := { frames := 4, cells := 0, slots := 0, locals := 93 }
theorem ydv_X6_restore : yX6_restore.cls = RX6 ∧ yX6_restore.cls ≠ "java/lang/invoke/MethodHandle" ∧ yX6_restore.cls ≠ "java/lang/invoke/VarHandle" ∧ (parseMethodDescriptor yX6_restore.desc).map (fun d => d.parameters.length) = some 0 := by decide +kernel
theorem inf_X6_restore_X6 : ∀ w ∈ wsX60, w ∈ wsX6_restore := fun w h => List.mem_cons_of_mem _ (List.mem_append_left _ (List.mem_append_left _ (List.mem_append_left _ (List.mem_append_left _ (List.mem_append_right _ (h))))))
set_option maxHeartbeats 4000000 in
set_option maxRecDepth 100000 in
theorem c_X6_restore (l : Launch) (D : va_G) (cA : ClassId) (d0 h0 k0 q0 c0 t0 s0 b0 : Nat) (has : Bool) (c1 c2 : Nat) (o r : Nat) (hs : Nat → Nat) (h1 h2 : Nat) (a : Nat → Nat) (s1 : Nat) (sn : Nat → Nat) (ho : o < 4) (hr_ : r ≤ 4) (hsn : has = true → Vd sn) : MI l D cA yX6_restore wsX6_restore rm_X6_restore [.ref d0] [(d0, .inr (6, [.ref h0, .ref k0, .ref q0, .ref c0, .ref t0, .ref s0, .ref b0, .int (bI has)])), (c1, .inr (3, [.ref c2])), (h0, .inr (4, [.ref h1])), (h1, .inr (3, [.ref h2])), (s0, .inr (3, [.ref s1])), (k0, .inr (2, [.ref h0]))] [(c0, .inr (1, [.ref c1, .int (nI o), .int (nI r)])), (c2, .inl (cA, 1144, .inl (nF hs))), (h2, .inl (cA, 286, .inl (nF a))), (s1, .inl (cA, 286, .inl (nF sn)))] (S := (Nat) × (Nat) × (Nat → Nat) × (Nat → Nat)) (fun rr_ (uu_ : (Nat) × (Nat) × (Nat → Nat) × (Nat → Nat)) => rr_ = (aRest a sn has).1 ∧ (ActC a hs o r (aRest a sn has).2 uu_.1 uu_.2.1 uu_.2.2.1 uu_.2.2.2)) (fun (uu_ : (Nat) × (Nat) × (Nat → Nat) × (Nat → Nat)) => [(c0, .inr (1, [.ref c1, .int (nI uu_.1), .int (nI uu_.2.1)])), (c2, .inl (cA, 1144, .inl (nF uu_.2.2.1))), (h2, .inl (cA, 286, .inl (nF uu_.2.2.2))), (s1, .inl (cA, 286, .inl (nF sn)))]) := by
  refine ofWi (cc := cX6_restore) (maxL := 1) (rt := .int) (by decide) rfl (Nat.le_of_ble_eq_true rfl) ?_
  intro p e s m args below meth c Q A ls F hK hR hP hD hA hS hl RET
  obtain ⟨hx, hb, hml, hown, hts⟩ := id F
  have hl : lv_has ls 1 [(0, .ref d0)] := hl
  refine lv_aload_n hx hb dX6_restore_0 rfl (lv_at hl 0 rfl) ?_
  refine va_get (D := D) (cl := vwCl) (ci := 6) (v := .int (bI has)) (C := RX6) (T := TX6) (N := 8) hx hb hts inf_X6_restore_X6 hown hK.1 (hR.at hS) 0 rfl rfl 7 (by decide) (hts _ (List.mem_of_getElem? (i := 1) rfl)) (fun _ h9 => h9) rfl dX6_restore_1 ?_
  refine bv_if_ne (tgt := 10) hx hb dX6_restore_4 (by decide) (fun c_4 => ?_) (fun c_4 => ?_)
  · refine lv_aload_n hx hb dX6_restore_10 rfl (lv_at hl 0 rfl) ?_
    refine va_get (D := D) (cl := vwCl) (ci := 6) (v := .ref c0) (C := RX6) (T := TX6) (N := 8) hx hb hts inf_X6_restore_X6 hown hK.1 (hR.at hS) 0 rfl rfl 3 (by decide) (hts _ (List.mem_of_getElem? (i := 2) rfl)) (fun _ h9 => h9) rfl dX6_restore_11 ?_
    refine lv_aload_n hx hb dX6_restore_14 rfl (lv_at hl 0 rfl) ?_
    refine va_get (D := D) (cl := vwCl) (ci := 6) (v := .ref h0) (C := RX6) (T := TX6) (N := 8) hx hb hts inf_X6_restore_X6 hown hK.1 (hR.at hS) 0 rfl rfl 0 (by decide) (hts _ (List.mem_of_getElem? (i := 3) rfl)) (fun _ h9 => h9) rfl dX6_restore_15 ?_
    refine call_v (q := (RX1, TX1, 3)) (As := [.ref h0]) (rest := []) F (c_X1_remember l D cA c0 c1 c2 o r hs h0 h1 h2 a (by omega) (by omega)) (cwV 1 hts gX6_restore_X1_remember rfl rfl rfl ydv_X1_remember ⟨Nat.le_of_ble_eq_true rfl, Nat.le_of_ble_eq_true rfl⟩) hK hR hP hD hA hS [1, 2, 3, 6, 7, 8] [0, 1, 2] rfl rfl rfl 6 1 rfl rfl (fun _ => rfl) rfl hl.1 rfl (Nat.le_of_ble_eq_true rfl) dX6_restore_18 ⟨Nat.zero_le _, Nat.zero_le _⟩ (fun u_18 H locs hw hP hD hS => ?_)
    have hP : va_P D vwCl [(c0, .inr (1, [.ref c1, .int (nI (hisO o r)), .int (nI (hisT r + 1))])), (c2, .inl (cA, 1144, .inl (nF (cpyN a hs 0 ((hisO o r + hisT r) % 4 * 286) 286)))), (h2, .inl (cA, 286, .inl (nF a))), (s1, .inl (cA, 286, .inl (nF sn)))] H := hP
    have hD : va_D A [(c0, .inr (1, [.ref c1, .int (nI (hisO o r)), .int (nI (hisT r + 1))])), (c2, .inl (cA, 1144, .inl (nF (cpyN a hs 0 ((hisO o r + hisT r) % 4 * 286) 286)))), (h2, .inl (cA, 286, .inl (nF a))), (s1, .inl (cA, 286, .inl (nF sn)))] := hD
    refine lv_aload_n hx hb dX6_restore_21 rfl (lv_at hl 0 rfl) ?_
    refine va_get (D := D) (cl := vwCl) (ci := 6) (v := .ref h0) (C := RX6) (T := TX6) (N := 8) hx hb hts inf_X6_restore_X6 hown hK.1 (hR.at hS) 0 rfl rfl 0 (by decide) (hts _ (List.mem_of_getElem? (i := 3) rfl)) (fun _ h9 => h9) rfl dX6_restore_22 ?_
    refine lv_aload_n hx hb dX6_restore_25 rfl (lv_at hl 0 rfl) ?_
    refine va_get (D := D) (cl := vwCl) (ci := 6) (v := .ref s0) (C := RX6) (T := TX6) (N := 8) hx hb hts inf_X6_restore_X6 hown hK.1 (hR.at hS) 0 rfl rfl 5 (by decide) (hts _ (List.mem_of_getElem? (i := 4) rfl)) (fun _ h9 => h9) rfl dX6_restore_26 ?_
    refine lv_iconst (v := nI 0) hx hb dX6_restore_29 (by decide) ?_
    refine call_v (q := (RX4, TX4, 1)) (As := [.ref s0, .int (nI 0)]) (rest := []) F (c_X4_loadFrom l D cA h0 h1 h2 a s0 s1 286 sn 0 (by omega) (by decide)) (cwV 2 hts gX6_restore_X4_loadFrom rfl rfl rfl ydv_X4_loadFrom ⟨Nat.le_of_ble_eq_true rfl, Nat.le_of_ble_eq_true rfl⟩) hK hR hP hD hA hS [2, 3, 4, 9, 8] [3, 2] rfl rfl rfl 2 4 rfl rfl (fun _ => rfl) rfl hl.1 rfl (Nat.le_of_ble_eq_true rfl) dX6_restore_30 ⟨Nat.zero_le _, Nat.zero_le _⟩ (fun u_30 H locs hw hP hD hS => ?_)
    have hP : va_P D vwCl [(c0, .inr (1, [.ref c1, .int (nI (hisO o r)), .int (nI (hisT r + 1))])), (c2, .inl (cA, 1144, .inl (nF (cpyN a hs 0 ((hisO o r + hisT r) % 4 * 286) 286)))), (h2, .inl (cA, 286, .inl (nF (cpyN sn a 0 0 286)))), (s1, .inl (cA, 286, .inl (nF sn)))] H := hP
    have hD : va_D A [(c0, .inr (1, [.ref c1, .int (nI (hisO o r)), .int (nI (hisT r + 1))])), (c2, .inl (cA, 1144, .inl (nF (cpyN a hs 0 ((hisO o r + hisT r) % 4 * 286) 286)))), (h2, .inl (cA, 286, .inl (nF (cpyN sn a 0 0 286)))), (s1, .inl (cA, 286, .inl (nF sn)))] := hD
    refine lv_aload_n hx hb dX6_restore_33 rfl (lv_at hl 0 rfl) ?_
    refine va_get (D := D) (cl := vwCl) (ci := 6) (v := .ref k0) (C := RX6) (T := TX6) (N := 8) hx hb hts inf_X6_restore_X6 hown hK.1 (hR.at hS) 0 rfl rfl 1 (by decide) (hts _ (List.mem_of_getElem? (i := 5) rfl)) (fun _ h9 => h9) rfl dX6_restore_34 ?_
    refine call_r (q := (RX2, TX2, 1)) (As := []) (rest := []) F (c_X2_garlands l D cA k0 h0 h1 h2 (cpyN sn a 0 0 286) (Vd_congr (hsn c_4) (fun i hi => by rw [cpyN, if_pos (by omega)]; simp))) (cwV 0 hts gX6_restore_X2_garlands rfl rfl rfl ydv_X2_garlands ⟨Nat.le_of_ble_eq_true rfl, Nat.le_of_ble_eq_true rfl⟩) hK hR hP hD hA hS [5, 2, 3, 8] rfl rfl 5 2 rfl rfl rfl hl.1 rfl (Nat.le_of_ble_eq_true rfl) dX6_restore_37 ⟨Nat.zero_le _, Nat.zero_le _⟩ (fun H locs hP hS => ?_)
    have hE : aRest a sn has = (nI (cntG (cpyN sn a 0 0 286)), some (cpyN sn a 0 0 286)) := by first | (simp only [aRest]; simp [c_4]; done) | (simp only [aRest]; simp [c_4]; omega)
    refine tope (y := (aRest a sn has).1) (by rw [hE]) ?_
    exact RET _ _ _ _ _ (hisO o r, hisT r + 1, cpyN a hs 0 ((hisO o r + hisT r) % 4 * 286) 286, cpyN sn a 0 0 286) dX6_restore_40 rfl ⟨rfl, (by rw [hE]; exact ⟨rfl, rfl, rfl, rfl⟩)⟩ hP hS
  · refine lv_bipush (v := -5) hx hb dX6_restore_7 (by decide) ?_
    have hE : aRest a sn has = ((-5), none) := by first | (simp only [aRest]; simp [c_4]; done) | (simp only [aRest]; simp [c_4]; omega)
    refine tope (y := (aRest a sn has).1) (by rw [hE]) ?_
    exact RET _ _ _ _ _ (o, r, hs, a) dX6_restore_9 rfl ⟨rfl, (by rw [hE]; exact ⟨rfl, rfl, rfl, rfl⟩)⟩ hP hS
abbrev rm_X6_kind : Room := { frames := 3, cells := 0, slots := 0, locals := 69 }
theorem ydv_X6_kind : yX6_kind.cls = RX6 ∧ yX6_kind.cls ≠ "java/lang/invoke/MethodHandle" ∧ yX6_kind.cls ≠ "java/lang/invoke/VarHandle" ∧ (parseMethodDescriptor yX6_kind.desc).map (fun d => d.parameters.length) = some 2 := by decide +kernel
theorem inf_X6_kind_X6 : ∀ w ∈ wsX60, w ∈ wsX6_kind := fun w h => List.mem_cons_of_mem _ (List.mem_append_left _ (List.mem_append_left _ (List.mem_append_left _ (List.mem_append_right _ (h)))))
set_option maxHeartbeats 4000000 in
set_option maxRecDepth 100000 in
theorem c_X6_kind (l : Launch) (D : va_G) (cA : ClassId) (d0 h0 k0 q0 c0 t0 s0 b0 : Nat) (fs : List Value) (h1 h2 : Nat) (a : Nat → Nat) (x w : Int32) (hV : Vd a) : RO l D cA yX6_kind wsX6_kind rm_X6_kind [.ref d0, .int x, .int w] [(d0, .inr (6, .ref h0 :: .ref k0 :: .ref q0 :: .ref c0 :: .ref t0 :: .ref s0 :: .ref b0 :: fs)), (h0, .inr (4, [.ref h1])), (h1, .inr (3, [.ref h2])), (h2, .inl (cA, 286, .inl (nF a))), (k0, .inr (2, [.ref h0]))] (sKind a x w) := by
  refine ofWi (cc := cX6_kind) (maxL := 3) (rt := .int) (by decide) rfl (Nat.le_of_ble_eq_true rfl) ?_
  intro p e s m args below meth c Q A ls F hK hR hP hD hA hS hl RET
  obtain ⟨hx, hb, hml, hown, hts⟩ := id F
  have hl : lv_has ls 3 [(0, .ref d0), (1, .int x), (2, .int w)] := hl
  refine lv_aload_n hx hb dX6_kind_0 rfl (lv_at hl 0 rfl) ?_
  refine va_get (D := D) (cl := vwCl) (ci := 6) (v := .ref h0) (C := RX6) (T := TX6) (N := 8) hx hb hts inf_X6_kind_X6 hown hK.1 (hR.at hS) 0 rfl rfl 0 (by decide) (hts _ (List.mem_of_getElem? (i := 1) rfl)) (fun _ h9 => h9) rfl dX6_kind_1 ?_
  refine lv_iload_n hx hb dX6_kind_4 rfl (lv_at hl 1 rfl) ?_
  refine call_r (q := (RX4, TX4, 1)) (As := [.int x]) (rest := []) F (c_X4_hasKind l D cA h0 h1 h2 a x (by have := hV.k; omega)) (cwV 1 hts gX6_kind_X4_hasKind rfl rfl rfl ydv_X4_hasKind ⟨Nat.le_of_ble_eq_true rfl, Nat.le_of_ble_eq_true rfl⟩) hK hR hP hD hA hS [1, 2, 3] rfl rfl 1 4 rfl rfl rfl hl.1 rfl (Nat.le_of_ble_eq_true rfl) dX6_kind_5 ⟨Nat.zero_le _, Nat.zero_le _⟩ (fun H locs hP hS => ?_)
  refine bv_if_ne (tgt := 13) hx hb dX6_kind_8 (by decide) (fun c_8 => ?_) (fun c_8 => ?_)
  · have hk_ := hV.k
    obtain ⟨k, hk, rfl⟩ := isB_t (by omega) c_8
    have hcx : cN (nI k) = k := cN_nI (by omega)
    have hb1_ := hV.h (k := k) (by omega)
    have hb2_ := hV.h (k := 10 + k) (by omega)
    rw [show 2 + (10 + k) = 12 + k by omega] at hb2_
    refine lv_iload_n hx hb dX6_kind_13 rfl (lv_at hl 2 rfl) ?_
    rcases sw_5 w with rfl | rfl | rfl | rfl | rfl | c_14
    · refine lv_tableIn (tgt := 48) hx hb dX6_kind_14 (by decide) (by decide) rfl (by decide) ?_
      refine lv_aload_n hx hb dX6_kind_48 rfl (lv_at hl 0 rfl) ?_
      refine va_get (D := D) (cl := vwCl) (ci := 6) (v := .ref h0) (C := RX6) (T := TX6) (N := 8) hx hb hts inf_X6_kind_X6 hown hK.1 (hR.at hS) 0 rfl rfl 0 (by decide) (hts _ (List.mem_of_getElem? (i := 1) rfl)) (fun _ h9 => h9) rfl dX6_kind_49 ?_
      refine lv_iload_n hx hb dX6_kind_52 rfl (lv_at hl 1 rfl) ?_
      refine call_r (q := (RX4, TX4, 1)) (As := [.int (nI k)]) (rest := []) F (c_X4_leftHand l D cA h0 h1 h2 a k (by omega)) (cwV 1 hts gX6_kind_X4_leftHand rfl rfl rfl ydv_X4_leftHand ⟨Nat.le_of_ble_eq_true rfl, Nat.le_of_ble_eq_true rfl⟩) hK hR hP hD hA hS [1, 2, 3] rfl rfl 1 4 rfl rfl rfl hl.1 rfl (Nat.le_of_ble_eq_true rfl) dX6_kind_53 ⟨Nat.zero_le _, Nat.zero_le _⟩ (fun H locs hP hS => ?_)
      refine tope (y := sKind a (nI k) (nI 0)) (by simp [sKind, c_8, hcx, swN_0]) ?_
      exact RET _ _ _ _ _ () dX6_kind_56 rfl rfl hP hS
    · refine lv_tableIn (tgt := 57) hx hb dX6_kind_14 (by decide) (by decide) rfl (by decide) ?_
      refine lv_aload_n hx hb dX6_kind_57 rfl (lv_at hl 0 rfl) ?_
      refine va_get (D := D) (cl := vwCl) (ci := 6) (v := .ref h0) (C := RX6) (T := TX6) (N := 8) hx hb hts inf_X6_kind_X6 hown hK.1 (hR.at hS) 0 rfl rfl 0 (by decide) (hts _ (List.mem_of_getElem? (i := 1) rfl)) (fun _ h9 => h9) rfl dX6_kind_58 ?_
      refine lv_iload_n hx hb dX6_kind_61 rfl (lv_at hl 1 rfl) ?_
      refine call_r (q := (RX4, TX4, 1)) (As := [.int (nI k)]) (rest := []) F (c_X4_rightHand l D cA h0 h1 h2 a k (by omega)) (cwV 1 hts gX6_kind_X4_rightHand rfl rfl rfl ydv_X4_rightHand ⟨Nat.le_of_ble_eq_true rfl, Nat.le_of_ble_eq_true rfl⟩) hK hR hP hD hA hS [1, 2, 3] rfl rfl 1 4 rfl rfl rfl hl.1 rfl (Nat.le_of_ble_eq_true rfl) dX6_kind_62 ⟨Nat.zero_le _, Nat.zero_le _⟩ (fun H locs hP hS => ?_)
      refine tope (y := sKind a (nI k) (nI 1)) (by simp [sKind, c_8, hcx, swN_1]) ?_
      exact RET _ _ _ _ _ () dX6_kind_65 rfl rfl hP hS
    · refine lv_tableIn (tgt := 66) hx hb dX6_kind_14 (by decide) (by decide) rfl (by decide) ?_
      refine lv_aload_n hx hb dX6_kind_66 rfl (lv_at hl 0 rfl) ?_
      refine va_get (D := D) (cl := vwCl) (ci := 6) (v := .ref k0) (C := RX6) (T := TX6) (N := 8) hx hb hts inf_X6_kind_X6 hown hK.1 (hR.at hS) 0 rfl rfl 1 (by decide) (hts _ (List.mem_of_getElem? (i := 2) rfl)) (fun _ h9 => h9) rfl dX6_kind_67 ?_
      refine lv_iload_n hx hb dX6_kind_70 rfl (lv_at hl 1 rfl) ?_
      refine lv_iconst (v := nI 0) hx hb dX6_kind_71 (by decide) ?_
      refine call_s (As := [.int (nI k), .int (nI 0)]) (rest := [.ref k0]) F (c_X6_dollOf l D cA k false) (va_cwS 2 hts gX6_kind_X6_dollOf rfl rfl rfl yd_X6_dollOf ⟨Nat.le_of_ble_eq_true rfl, Nat.le_of_ble_eq_true rfl⟩) hK hR hP hD hA hS rfl hl.1 rfl (Nat.le_of_ble_eq_true rfl) dX6_kind_72 ⟨Nat.zero_le _, Nat.zero_le _⟩ (fun H locs hP hS => ?_)
      refine call_r (q := (RX2, TX2, 1)) (As := [.int (nI (2 * k + b2n false))]) (rest := []) F (c_X2_dollsLike l D cA k0 h0 h1 h2 a (2 * k + b2n false) (hV) (by simp [b2n]; omega)) (cwV 1 hts gX6_kind_X2_dollsLike rfl rfl rfl ydv_X2_dollsLike ⟨Nat.le_of_ble_eq_true rfl, Nat.le_of_ble_eq_true rfl⟩) hK hR hP hD hA hS [4, 1, 2, 3] rfl rfl 4 2 rfl rfl rfl hl.1 rfl (Nat.le_of_ble_eq_true rfl) dX6_kind_75 ⟨Nat.zero_le _, Nat.zero_le _⟩ (fun H locs hP hS => ?_)
      refine lv_aload_n hx hb dX6_kind_78 rfl (lv_at hl 0 rfl) ?_
      refine va_get (D := D) (cl := vwCl) (ci := 6) (v := .ref k0) (C := RX6) (T := TX6) (N := 8) hx hb hts inf_X6_kind_X6 hown hK.1 (hR.at hS) 0 rfl rfl 1 (by decide) (hts _ (List.mem_of_getElem? (i := 2) rfl)) (fun _ h9 => h9) rfl dX6_kind_79 ?_
      refine lv_iload_n hx hb dX6_kind_82 rfl (lv_at hl 1 rfl) ?_
      refine lv_iconst (v := nI 1) hx hb dX6_kind_83 (by decide) ?_
      refine call_s (As := [.int (nI k), .int (nI 1)]) (rest := [.ref k0, .int (nI (likeD a (2 * k + b2n false)))]) F (c_X6_dollOf l D cA k true) (va_cwS 2 hts gX6_kind_X6_dollOf rfl rfl rfl yd_X6_dollOf ⟨Nat.le_of_ble_eq_true rfl, Nat.le_of_ble_eq_true rfl⟩) hK hR hP hD hA hS rfl hl.1 rfl (Nat.le_of_ble_eq_true rfl) dX6_kind_84 ⟨Nat.zero_le _, Nat.zero_le _⟩ (fun H locs hP hS => ?_)
      refine call_r (q := (RX2, TX2, 1)) (As := [.int (nI (2 * k + b2n true))]) (rest := [.int (nI (likeD a (2 * k + b2n false)))]) F (c_X2_dollsLike l D cA k0 h0 h1 h2 a (2 * k + b2n true) (hV) (by simp [b2n]; omega)) (cwV 1 hts gX6_kind_X2_dollsLike rfl rfl rfl ydv_X2_dollsLike ⟨Nat.le_of_ble_eq_true rfl, Nat.le_of_ble_eq_true rfl⟩) hK hR hP hD hA hS [4, 1, 2, 3] rfl rfl 4 2 rfl rfl rfl hl.1 rfl (Nat.le_of_ble_eq_true rfl) dX6_kind_87 ⟨Nat.zero_le _, Nat.zero_le _⟩ (fun H locs hP hS => ?_)
      refine nv_iadd hx hb dX6_kind_90 ?_
      refine tope (y := sKind a (nI k) (nI 2)) (by simp [sKind, c_8, hcx, swN_2]) ?_
      exact RET _ _ _ _ _ () dX6_kind_91 rfl rfl hP hS
    · refine lv_tableIn (tgt := 92) hx hb dX6_kind_14 (by decide) (by decide) rfl (by decide) ?_
      refine lv_aload_n hx hb dX6_kind_92 rfl (lv_at hl 0 rfl) ?_
      refine va_get (D := D) (cl := vwCl) (ci := 6) (v := .ref k0) (C := RX6) (T := TX6) (N := 8) hx hb hts inf_X6_kind_X6 hown hK.1 (hR.at hS) 0 rfl rfl 1 (by decide) (hts _ (List.mem_of_getElem? (i := 2) rfl)) (fun _ h9 => h9) rfl dX6_kind_93 ?_
      refine lv_iload_n hx hb dX6_kind_96 rfl (lv_at hl 1 rfl) ?_
      refine lv_iconst (v := nI 1) hx hb dX6_kind_97 (by decide) ?_
      refine call_s (As := [.int (nI k), .int (nI 1)]) (rest := [.ref k0]) F (c_X6_dollOf l D cA k true) (va_cwS 2 hts gX6_kind_X6_dollOf rfl rfl rfl yd_X6_dollOf ⟨Nat.le_of_ble_eq_true rfl, Nat.le_of_ble_eq_true rfl⟩) hK hR hP hD hA hS rfl hl.1 rfl (Nat.le_of_ble_eq_true rfl) dX6_kind_98 ⟨Nat.zero_le _, Nat.zero_le _⟩ (fun H locs hP hS => ?_)
      refine call_r (q := (RX2, TX2, 1)) (As := [.int (nI (2 * k + b2n true))]) (rest := []) F (c_X2_dollsLike l D cA k0 h0 h1 h2 a (2 * k + b2n true) (hV) (by simp [b2n]; omega)) (cwV 1 hts gX6_kind_X2_dollsLike rfl rfl rfl ydv_X2_dollsLike ⟨Nat.le_of_ble_eq_true rfl, Nat.le_of_ble_eq_true rfl⟩) hK hR hP hD hA hS [4, 1, 2, 3] rfl rfl 4 2 rfl rfl rfl hl.1 rfl (Nat.le_of_ble_eq_true rfl) dX6_kind_101 ⟨Nat.zero_le _, Nat.zero_le _⟩ (fun H locs hP hS => ?_)
      refine tope (y := sKind a (nI k) (nI 3)) (by simp [sKind, c_8, hcx, swN_3]) ?_
      exact RET _ _ _ _ _ () dX6_kind_104 rfl rfl hP hS
    · refine lv_tableIn (tgt := 105) hx hb dX6_kind_14 (by decide) (by decide) rfl (by decide) ?_
      refine lv_aload_n hx hb dX6_kind_105 rfl (lv_at hl 0 rfl) ?_
      refine va_get (D := D) (cl := vwCl) (ci := 6) (v := .ref h0) (C := RX6) (T := TX6) (N := 8) hx hb hts inf_X6_kind_X6 hown hK.1 (hR.at hS) 0 rfl rfl 0 (by decide) (hts _ (List.mem_of_getElem? (i := 1) rfl)) (fun _ h9 => h9) rfl dX6_kind_106 ?_
      refine lv_iload_n hx hb dX6_kind_109 rfl (lv_at hl 1 rfl) ?_
      refine call_r (q := (RX4, TX4, 1)) (As := [.int (nI k)]) (rest := []) F (c_X4_leftHand l D cA h0 h1 h2 a k (by omega)) (cwV 1 hts gX6_kind_X4_leftHand rfl rfl rfl ydv_X4_leftHand ⟨Nat.le_of_ble_eq_true rfl, Nat.le_of_ble_eq_true rfl⟩) hK hR hP hD hA hS [1, 2, 3] rfl rfl 1 4 rfl rfl rfl hl.1 rfl (Nat.le_of_ble_eq_true rfl) dX6_kind_110 ⟨Nat.zero_le _, Nat.zero_le _⟩ (fun H locs hP hS => ?_)
      refine lv_aload_n hx hb dX6_kind_113 rfl (lv_at hl 0 rfl) ?_
      refine va_get (D := D) (cl := vwCl) (ci := 6) (v := .ref h0) (C := RX6) (T := TX6) (N := 8) hx hb hts inf_X6_kind_X6 hown hK.1 (hR.at hS) 0 rfl rfl 0 (by decide) (hts _ (List.mem_of_getElem? (i := 1) rfl)) (fun _ h9 => h9) rfl dX6_kind_114 ?_
      refine lv_iload_n hx hb dX6_kind_117 rfl (lv_at hl 1 rfl) ?_
      refine call_r (q := (RX4, TX4, 1)) (As := [.int (nI k)]) (rest := [.int (nI (a (2 + k)))]) F (c_X4_rightHand l D cA h0 h1 h2 a k (by omega)) (cwV 1 hts gX6_kind_X4_rightHand rfl rfl rfl ydv_X4_rightHand ⟨Nat.le_of_ble_eq_true rfl, Nat.le_of_ble_eq_true rfl⟩) hK hR hP hD hA hS [1, 2, 3] rfl rfl 1 4 rfl rfl rfl hl.1 rfl (Nat.le_of_ble_eq_true rfl) dX6_kind_118 ⟨Nat.zero_le _, Nat.zero_le _⟩ (fun H locs hP hS => ?_)
      refine nv_icmp_ne (tgt := 128) hx hb dX6_kind_121 (by decide) (by omega) (by omega) (fun c_121 => ?_) (fun c_121 => ?_)
      · refine lv_iconst (v := nI 0) hx hb dX6_kind_128 (by decide) ?_
        refine call_s (As := [.int (nI 0)]) (rest := []) F (c_X6_oneIf l D cA false) (va_cwS 1 hts gX6_kind_X6_oneIf rfl rfl rfl yd_X6_oneIf ⟨Nat.le_of_ble_eq_true rfl, Nat.le_of_ble_eq_true rfl⟩) hK hR hP hD hA hS rfl hl.1 rfl (Nat.le_of_ble_eq_true rfl) dX6_kind_129 ⟨Nat.zero_le _, Nat.zero_le _⟩ (fun H locs hP hS => ?_)
        refine tope (y := sKind a (nI k) (nI 4)) (by first | (rw [← decide_eq_true c_121]; simp [sKind, c_8, hcx, swN_4]; done) | (rw [← decide_eq_false c_121]; simp [sKind, c_8, hcx, swN_4]; done)) ?_
        exact RET _ _ _ _ _ () dX6_kind_132 rfl rfl hP hS
      · refine lv_iconst (v := nI 1) hx hb dX6_kind_124 (by decide) ?_
        refine lv_goto (tgt := 129) hx hb dX6_kind_125 (by decide) ?_
        refine call_s (As := [.int (nI 1)]) (rest := []) F (c_X6_oneIf l D cA true) (va_cwS 1 hts gX6_kind_X6_oneIf rfl rfl rfl yd_X6_oneIf ⟨Nat.le_of_ble_eq_true rfl, Nat.le_of_ble_eq_true rfl⟩) hK hR hP hD hA hS rfl hl.1 rfl (Nat.le_of_ble_eq_true rfl) dX6_kind_129 ⟨Nat.zero_le _, Nat.zero_le _⟩ (fun H locs hP hS => ?_)
        refine tope (y := sKind a (nI k) (nI 4)) (by first | (rw [← decide_eq_true c_121]; simp [sKind, c_8, hcx, swN_4]; done) | (rw [← decide_eq_false c_121]; simp [sKind, c_8, hcx, swN_4]; done)) ?_
        exact RET _ _ _ _ _ () dX6_kind_132 rfl rfl hP hS
    · refine lv_tableOut (tgt := 133) hx hb dX6_kind_14 c_14 (by decide) ?_
      refine lv_bipush (v := -2) hx hb dX6_kind_133 (by decide) ?_
      refine tope (y := sKind a (nI k) w) (by have h9_ := swN_ge (n := 4) (by decide) c_14; rw [sKind]; repeat (rw [if_neg (by first | omega | simp [c_8, hcx])])) ?_
      exact RET _ _ _ _ _ () dX6_kind_135 rfl rfl hP hS
  · refine lv_iconst (v := -1) hx hb dX6_kind_11 (by decide) ?_
    refine tope (y := sKind a x w) (by simp [sKind, c_8]) ?_
    exact RET _ _ _ _ _ () dX6_kind_12 rfl rfl hP hS
abbrev rm_X6_garland : Room := { frames := 4, cells := 0, slots := 0, locals := 91 }
theorem ydv_X6_garland : yX6_garland.cls = RX6 ∧ yX6_garland.cls ≠ "java/lang/invoke/MethodHandle" ∧ yX6_garland.cls ≠ "java/lang/invoke/VarHandle" ∧ (parseMethodDescriptor yX6_garland.desc).map (fun d => d.parameters.length) = some 2 := by decide +kernel
theorem inf_X6_garland_X6 : ∀ w ∈ wsX60, w ∈ wsX6_garland := fun w h => List.mem_cons_of_mem _ (List.mem_append_left _ (List.mem_append_left _ (List.mem_append_left _ (List.mem_append_right _ (h)))))
set_option maxHeartbeats 4000000 in
set_option maxRecDepth 100000 in
theorem c_X6_garland (l : Launch) (D : va_G) (cA : ClassId) (d0 h0 k0 q0 c0 t0 s0 b0 : Nat) (fs : List Value) (h1 h2 : Nat) (a : Nat → Nat) (x w : Int32) (hV : Vd a) : RO l D cA yX6_garland wsX6_garland rm_X6_garland [.ref d0, .int x, .int w] [(d0, .inr (6, .ref h0 :: .ref k0 :: .ref q0 :: .ref c0 :: .ref t0 :: .ref s0 :: .ref b0 :: fs)), (h0, .inr (4, [.ref h1])), (h1, .inr (3, [.ref h2])), (h2, .inl (cA, 286, .inl (nF a))), (k0, .inr (2, [.ref h0]))] (sGar a x w) := by
  refine ofWi (cc := cX6_garland) (maxL := 3) (rt := .int) (by decide) rfl (Nat.le_of_ble_eq_true rfl) ?_
  intro p e s m args below meth c Q A ls F hK hR hP hD hA hS hl RET
  obtain ⟨hx, hb, hml, hown, hts⟩ := id F
  have hl : lv_has ls 3 [(0, .ref d0), (1, .int x), (2, .int w)] := hl
  refine lv_aload_n hx hb dX6_garland_0 rfl (lv_at hl 0 rfl) ?_
  refine va_get (D := D) (cl := vwCl) (ci := 6) (v := .ref h0) (C := RX6) (T := TX6) (N := 8) hx hb hts inf_X6_garland_X6 hown hK.1 (hR.at hS) 0 rfl rfl 0 (by decide) (hts _ (List.mem_of_getElem? (i := 1) rfl)) (fun _ h9 => h9) rfl dX6_garland_1 ?_
  refine lv_iload_n hx hb dX6_garland_4 rfl (lv_at hl 1 rfl) ?_
  refine call_r (q := (RX4, TX4, 1)) (As := [.int x]) (rest := []) F (c_X4_hasGarland l D cA h0 h1 h2 a x (fun g hg => by have := hV.1 g hg; omega)) (cwV 1 hts gX6_garland_X4_hasGarland rfl rfl rfl ydv_X4_hasGarland ⟨Nat.le_of_ble_eq_true rfl, Nat.le_of_ble_eq_true rfl⟩) hK hR hP hD hA hS [1, 2, 3] rfl rfl 1 4 rfl rfl rfl hl.1 rfl (Nat.le_of_ble_eq_true rfl) dX6_garland_5 ⟨Nat.zero_le _, Nat.zero_le _⟩ (fun H locs hP hS => ?_)
  refine bv_if_ne (tgt := 13) hx hb dX6_garland_8 (by decide) (fun c_8 => ?_) (fun c_8 => ?_)
  · obtain ⟨g, hg, rfl, hg0⟩ := inG_t c_8
    have hcx : cN (nI g) = g := cN_nI (by omega)
    have hl1 := hV.l hg
    have hd1 := hV.d (q := ln a g - 1) hg (by omega)
    have hd2 := hV.d (q := 0) hg (by omega)
    refine lv_iload_n hx hb dX6_garland_13 rfl (lv_at hl 2 rfl) ?_
    rcases sw_8 w with rfl | rfl | rfl | rfl | rfl | rfl | rfl | rfl | c_14
    · refine lv_tableIn (tgt := 60) hx hb dX6_garland_14 (by decide) (by decide) rfl (by decide) ?_
      refine lv_aload_n hx hb dX6_garland_60 rfl (lv_at hl 0 rfl) ?_
      refine va_get (D := D) (cl := vwCl) (ci := 6) (v := .ref h0) (C := RX6) (T := TX6) (N := 8) hx hb hts inf_X6_garland_X6 hown hK.1 (hR.at hS) 0 rfl rfl 0 (by decide) (hts _ (List.mem_of_getElem? (i := 1) rfl)) (fun _ h9 => h9) rfl dX6_garland_61 ?_
      refine lv_iload_n hx hb dX6_garland_64 rfl (lv_at hl 1 rfl) ?_
      refine call_r (q := (RX4, TX4, 1)) (As := [.int (nI g)]) (rest := []) F (c_X4_lengthOf l D cA h0 h1 h2 a g (by omega)) (cwV 1 hts gX6_garland_X4_lengthOf rfl rfl rfl ydv_X4_lengthOf ⟨Nat.le_of_ble_eq_true rfl, Nat.le_of_ble_eq_true rfl⟩) hK hR hP hD hA hS [1, 2, 3] rfl rfl 1 4 rfl rfl rfl hl.1 rfl (Nat.le_of_ble_eq_true rfl) dX6_garland_65 ⟨Nat.zero_le _, Nat.zero_le _⟩ (fun H locs hP hS => ?_)
      refine tope (y := sGar a (nI g) (nI 0)) (by simp [sGar, c_8, hcx, swN_0]) ?_
      exact RET _ _ _ _ _ () dX6_garland_68 rfl rfl hP hS
    · refine lv_tableIn (tgt := 69) hx hb dX6_garland_14 (by decide) (by decide) rfl (by decide) ?_
      refine lv_aload_n hx hb dX6_garland_69 rfl (lv_at hl 0 rfl) ?_
      refine va_get (D := D) (cl := vwCl) (ci := 6) (v := .ref h0) (C := RX6) (T := TX6) (N := 8) hx hb hts inf_X6_garland_X6 hown hK.1 (hR.at hS) 0 rfl rfl 0 (by decide) (hts _ (List.mem_of_getElem? (i := 1) rfl)) (fun _ h9 => h9) rfl dX6_garland_70 ?_
      refine lv_aload_n hx hb dX6_garland_73 rfl (lv_at hl 0 rfl) ?_
      refine va_get (D := D) (cl := vwCl) (ci := 6) (v := .ref h0) (C := RX6) (T := TX6) (N := 8) hx hb hts inf_X6_garland_X6 hown hK.1 (hR.at hS) 0 rfl rfl 0 (by decide) (hts _ (List.mem_of_getElem? (i := 1) rfl)) (fun _ h9 => h9) rfl dX6_garland_74 ?_
      refine lv_iload_n hx hb dX6_garland_77 rfl (lv_at hl 1 rfl) ?_
      refine call_r (q := (RX4, TX4, 1)) (As := [.int (nI g)]) (rest := [.ref h0]) F (c_X4_firstDoll l D cA h0 h1 h2 a g (by omega)) (cwV 1 hts gX6_garland_X4_firstDoll rfl rfl rfl ydv_X4_firstDoll ⟨Nat.le_of_ble_eq_true rfl, Nat.le_of_ble_eq_true rfl⟩) hK hR hP hD hA hS [1, 2, 3] rfl rfl 1 4 rfl rfl rfl hl.1 rfl (Nat.le_of_ble_eq_true rfl) dX6_garland_78 ⟨Nat.zero_le _, Nat.zero_le _⟩ (fun H locs hP hS => ?_)
      refine call_r (q := (RX4, TX4, 1)) (As := [.int (nI (dl a g 0))]) (rest := []) F (c_X4_leftOf l D cA h0 h1 h2 a (dl a g 0) (by omega)) (cwV 1 hts gX6_garland_X4_leftOf rfl rfl rfl ydv_X4_leftOf ⟨Nat.le_of_ble_eq_true rfl, Nat.le_of_ble_eq_true rfl⟩) hK hR hP hD hA hS [1, 2, 3] rfl rfl 1 4 rfl rfl rfl hl.1 rfl (Nat.le_of_ble_eq_true rfl) dX6_garland_81 ⟨Nat.zero_le _, Nat.zero_le _⟩ (fun H locs hP hS => ?_)
      refine tope (y := sGar a (nI g) (nI 1)) (by simp [sGar, c_8, hcx, swN_1]) ?_
      exact RET _ _ _ _ _ () dX6_garland_84 rfl rfl hP hS
    · refine lv_tableIn (tgt := 85) hx hb dX6_garland_14 (by decide) (by decide) rfl (by decide) ?_
      refine lv_aload_n hx hb dX6_garland_85 rfl (lv_at hl 0 rfl) ?_
      refine va_get (D := D) (cl := vwCl) (ci := 6) (v := .ref h0) (C := RX6) (T := TX6) (N := 8) hx hb hts inf_X6_garland_X6 hown hK.1 (hR.at hS) 0 rfl rfl 0 (by decide) (hts _ (List.mem_of_getElem? (i := 1) rfl)) (fun _ h9 => h9) rfl dX6_garland_86 ?_
      refine lv_aload_n hx hb dX6_garland_89 rfl (lv_at hl 0 rfl) ?_
      refine va_get (D := D) (cl := vwCl) (ci := 6) (v := .ref h0) (C := RX6) (T := TX6) (N := 8) hx hb hts inf_X6_garland_X6 hown hK.1 (hR.at hS) 0 rfl rfl 0 (by decide) (hts _ (List.mem_of_getElem? (i := 1) rfl)) (fun _ h9 => h9) rfl dX6_garland_90 ?_
      refine lv_iload_n hx hb dX6_garland_93 rfl (lv_at hl 1 rfl) ?_
      refine call_r (q := (RX4, TX4, 1)) (As := [.int (nI g)]) (rest := [.ref h0]) F (c_X4_lastDoll l D cA h0 h1 h2 a g (by omega) (by omega) (by omega)) (cwV 1 hts gX6_garland_X4_lastDoll rfl rfl rfl ydv_X4_lastDoll ⟨Nat.le_of_ble_eq_true rfl, Nat.le_of_ble_eq_true rfl⟩) hK hR hP hD hA hS [1, 2, 3] rfl rfl 1 4 rfl rfl rfl hl.1 rfl (Nat.le_of_ble_eq_true rfl) dX6_garland_94 ⟨Nat.zero_le _, Nat.zero_le _⟩ (fun H locs hP hS => ?_)
      refine call_r (q := (RX4, TX4, 1)) (As := [.int (nI (dl a g (ln a g - 1)))]) (rest := []) F (c_X4_rightOf l D cA h0 h1 h2 a (dl a g (ln a g - 1)) (by omega)) (cwV 1 hts gX6_garland_X4_rightOf rfl rfl rfl ydv_X4_rightOf ⟨Nat.le_of_ble_eq_true rfl, Nat.le_of_ble_eq_true rfl⟩) hK hR hP hD hA hS [1, 2, 3] rfl rfl 1 4 rfl rfl rfl hl.1 rfl (Nat.le_of_ble_eq_true rfl) dX6_garland_97 ⟨Nat.zero_le _, Nat.zero_le _⟩ (fun H locs hP hS => ?_)
      refine tope (y := sGar a (nI g) (nI 2)) (by simp [sGar, c_8, hcx, swN_2]) ?_
      exact RET _ _ _ _ _ () dX6_garland_100 rfl rfl hP hS
    · refine lv_tableIn (tgt := 101) hx hb dX6_garland_14 (by decide) (by decide) rfl (by decide) ?_
      refine lv_aload_n hx hb dX6_garland_101 rfl (lv_at hl 0 rfl) ?_
      refine va_get (D := D) (cl := vwCl) (ci := 6) (v := .ref k0) (C := RX6) (T := TX6) (N := 8) hx hb hts inf_X6_garland_X6 hown hK.1 (hR.at hS) 0 rfl rfl 1 (by decide) (hts _ (List.mem_of_getElem? (i := 2) rfl)) (fun _ h9 => h9) rfl dX6_garland_102 ?_
      refine lv_iload_n hx hb dX6_garland_105 rfl (lv_at hl 1 rfl) ?_
      refine call_r (q := (RX2, TX2, 1)) (As := [.int (nI g)]) (rest := []) F (c_X2_mirroredIn l D cA k0 h0 h1 h2 a g (hV) (by omega)) (cwV 1 hts gX6_garland_X2_mirroredIn rfl rfl rfl ydv_X2_mirroredIn ⟨Nat.le_of_ble_eq_true rfl, Nat.le_of_ble_eq_true rfl⟩) hK hR hP hD hA hS [4, 1, 2, 3] rfl rfl 4 2 rfl rfl rfl hl.1 rfl (Nat.le_of_ble_eq_true rfl) dX6_garland_106 ⟨Nat.zero_le _, Nat.zero_le _⟩ (fun H locs hP hS => ?_)
      refine tope (y := sGar a (nI g) (nI 3)) (by simp [sGar, c_8, hcx, swN_3]) ?_
      exact RET _ _ _ _ _ () dX6_garland_109 rfl rfl hP hS
    · refine lv_tableIn (tgt := 110) hx hb dX6_garland_14 (by decide) (by decide) rfl (by decide) ?_
      refine lv_aload_n hx hb dX6_garland_110 rfl (lv_at hl 0 rfl) ?_
      refine va_get (D := D) (cl := vwCl) (ci := 6) (v := .ref k0) (C := RX6) (T := TX6) (N := 8) hx hb hts inf_X6_garland_X6 hown hK.1 (hR.at hS) 0 rfl rfl 1 (by decide) (hts _ (List.mem_of_getElem? (i := 2) rfl)) (fun _ h9 => h9) rfl dX6_garland_111 ?_
      refine lv_iload_n hx hb dX6_garland_114 rfl (lv_at hl 1 rfl) ?_
      refine call_r (q := (RX2, TX2, 1)) (As := [.int (nI g)]) (rest := []) F (c_X2_kindsIn l D cA k0 h0 h1 h2 a g (hV) (by omega)) (cwV 1 hts gX6_garland_X2_kindsIn rfl rfl rfl ydv_X2_kindsIn ⟨Nat.le_of_ble_eq_true rfl, Nat.le_of_ble_eq_true rfl⟩) hK hR hP hD hA hS [4, 1, 2, 3] rfl rfl 4 2 rfl rfl rfl hl.1 rfl (Nat.le_of_ble_eq_true rfl) dX6_garland_115 ⟨Nat.zero_le _, Nat.zero_le _⟩ (fun H locs hP hS => ?_)
      refine tope (y := sGar a (nI g) (nI 4)) (by simp [sGar, c_8, hcx, swN_4]) ?_
      exact RET _ _ _ _ _ () dX6_garland_118 rfl rfl hP hS
    · refine lv_tableIn (tgt := 119) hx hb dX6_garland_14 (by decide) (by decide) rfl (by decide) ?_
      refine lv_aload_n hx hb dX6_garland_119 rfl (lv_at hl 0 rfl) ?_
      refine va_get (D := D) (cl := vwCl) (ci := 6) (v := .ref k0) (C := RX6) (T := TX6) (N := 8) hx hb hts inf_X6_garland_X6 hown hK.1 (hR.at hS) 0 rfl rfl 1 (by decide) (hts _ (List.mem_of_getElem? (i := 2) rfl)) (fun _ h9 => h9) rfl dX6_garland_120 ?_
      refine lv_iload_n hx hb dX6_garland_123 rfl (lv_at hl 1 rfl) ?_
      refine call_r (q := (RX2, TX2, 1)) (As := [.int (nI g)]) (rest := []) F (c_X2_isOwnMirror l D cA k0 h0 h1 h2 a g (hV) (by omega)) (cwV 1 hts gX6_garland_X2_isOwnMirror rfl rfl rfl ydv_X2_isOwnMirror ⟨Nat.le_of_ble_eq_true rfl, Nat.le_of_ble_eq_true rfl⟩) hK hR hP hD hA hS [4, 1, 2, 3] rfl rfl 4 2 rfl rfl rfl hl.1 rfl (Nat.le_of_ble_eq_true rfl) dX6_garland_124 ⟨Nat.zero_le _, Nat.zero_le _⟩ (fun H locs hP hS => ?_)
      refine call_s (As := [.int (bI (mird a g g))]) (rest := []) F (c_X6_oneIf l D cA (mird a g g)) (va_cwS 1 hts gX6_garland_X6_oneIf rfl rfl rfl yd_X6_oneIf ⟨Nat.le_of_ble_eq_true rfl, Nat.le_of_ble_eq_true rfl⟩) hK hR hP hD hA hS rfl hl.1 rfl (Nat.le_of_ble_eq_true rfl) dX6_garland_127 ⟨Nat.zero_le _, Nat.zero_le _⟩ (fun H locs hP hS => ?_)
      refine tope (y := sGar a (nI g) (nI 5)) (by simp [sGar, c_8, hcx, swN_5]) ?_
      exact RET _ _ _ _ _ () dX6_garland_130 rfl rfl hP hS
    · refine lv_tableIn (tgt := 131) hx hb dX6_garland_14 (by decide) (by decide) rfl (by decide) ?_
      refine lv_aload_n hx hb dX6_garland_131 rfl (lv_at hl 0 rfl) ?_
      refine va_get (D := D) (cl := vwCl) (ci := 6) (v := .ref k0) (C := RX6) (T := TX6) (N := 8) hx hb hts inf_X6_garland_X6 hown hK.1 (hR.at hS) 0 rfl rfl 1 (by decide) (hts _ (List.mem_of_getElem? (i := 2) rfl)) (fun _ h9 => h9) rfl dX6_garland_132 ?_
      refine lv_iload_n hx hb dX6_garland_135 rfl (lv_at hl 1 rfl) ?_
      refine call_r (q := (RX2, TX2, 1)) (As := [.int (nI g)]) (rest := []) F (c_X2_repeatOf l D cA k0 h0 h1 h2 a g (hV) (by omega) (by omega)) (cwV 1 hts gX6_garland_X2_repeatOf rfl rfl rfl ydv_X2_repeatOf ⟨Nat.le_of_ble_eq_true rfl, Nat.le_of_ble_eq_true rfl⟩) hK hR hP hD hA hS [4, 1, 2, 3] rfl rfl 4 2 rfl rfl rfl hl.1 rfl (Nat.le_of_ble_eq_true rfl) dX6_garland_136 ⟨Nat.zero_le _, Nat.zero_le _⟩ (fun H locs hP hS => ?_)
      refine tope (y := sGar a (nI g) (nI 6)) (by simp [sGar, c_8, hcx, swN_6]) ?_
      exact RET _ _ _ _ _ () dX6_garland_139 rfl rfl hP hS
    · refine lv_tableIn (tgt := 140) hx hb dX6_garland_14 (by decide) (by decide) rfl (by decide) ?_
      refine lv_aload_n hx hb dX6_garland_140 rfl (lv_at hl 0 rfl) ?_
      refine va_get (D := D) (cl := vwCl) (ci := 6) (v := .ref k0) (C := RX6) (T := TX6) (N := 8) hx hb hts inf_X6_garland_X6 hown hK.1 (hR.at hS) 0 rfl rfl 1 (by decide) (hts _ (List.mem_of_getElem? (i := 2) rfl)) (fun _ h9 => h9) rfl dX6_garland_141 ?_
      refine lv_iload_n hx hb dX6_garland_144 rfl (lv_at hl 1 rfl) ?_
      refine call_r (q := (RX2, TX2, 1)) (As := [.int (nI g)]) (rest := []) F (c_X2_lowestAlike l D cA k0 h0 h1 h2 a g (hV) (by omega)) (cwV 1 hts gX6_garland_X2_lowestAlike rfl rfl rfl ydv_X2_lowestAlike ⟨Nat.le_of_ble_eq_true rfl, Nat.le_of_ble_eq_true rfl⟩) hK hR hP hD hA hS [4, 1, 2, 3] rfl rfl 4 2 rfl rfl rfl hl.1 rfl (Nat.le_of_ble_eq_true rfl) dX6_garland_145 ⟨Nat.zero_le _, Nat.zero_le _⟩ (fun H locs hP hS => ?_)
      refine tope (y := sGar a (nI g) (nI 7)) (by simp [sGar, c_8, hcx, swN_7]) ?_
      exact RET _ _ _ _ _ () dX6_garland_148 rfl rfl hP hS
    · refine lv_tableOut (tgt := 149) hx hb dX6_garland_14 c_14 (by decide) ?_
      refine lv_bipush (v := -2) hx hb dX6_garland_149 (by decide) ?_
      refine tope (y := sGar a (nI g) w) (by have h9_ := swN_ge (n := 7) (by decide) c_14; rw [sGar]; repeat (rw [if_neg (by first | omega | simp [c_8, hcx])])) ?_
      exact RET _ _ _ _ _ () dX6_garland_151 rfl rfl hP hS
  · refine lv_iconst (v := -1) hx hb dX6_garland_11 (by decide) ?_
    refine tope (y := sGar a x w) (by simp [sGar, c_8]) ?_
    exact RET _ _ _ _ _ () dX6_garland_12 rfl rfl hP hS
abbrev rm_X6_doll : Room := { frames := 3, cells := 0, slots := 0, locals := 63 }
theorem ydv_X6_doll : yX6_doll.cls = RX6 ∧ yX6_doll.cls ≠ "java/lang/invoke/MethodHandle" ∧ yX6_doll.cls ≠ "java/lang/invoke/VarHandle" ∧ (parseMethodDescriptor yX6_doll.desc).map (fun d => d.parameters.length) = some 3 := by decide +kernel
theorem inf_X6_doll_X6 : ∀ w ∈ wsX60, w ∈ wsX6_doll := fun w h => List.mem_cons_of_mem _ (List.mem_append_left _ (List.mem_append_left _ (List.mem_append_right _ (h))))
set_option maxHeartbeats 4000000 in
set_option maxRecDepth 100000 in
theorem c_X6_doll (l : Launch) (D : va_G) (cA : ClassId) (d0 h0 k0 q0 c0 t0 s0 b0 : Nat) (fs : List Value) (h1 h2 : Nat) (a : Nat → Nat) (x y w : Int32) (hV : Vd a) : RO l D cA yX6_doll wsX6_doll rm_X6_doll [.ref d0, .int x, .int y, .int w] [(d0, .inr (6, .ref h0 :: .ref k0 :: .ref q0 :: .ref c0 :: .ref t0 :: .ref s0 :: .ref b0 :: fs)), (h0, .inr (4, [.ref h1])), (h1, .inr (3, [.ref h2])), (h2, .inl (cA, 286, .inl (nF a)))] (sDoll a x y w) := by
  refine ofWi (cc := cX6_doll) (maxL := 5) (rt := .int) (by decide) rfl (Nat.le_of_ble_eq_true rfl) ?_
  intro p e s m args below meth c Q A ls F hK hR hP hD hA hS hl RET
  obtain ⟨hx, hb, hml, hown, hts⟩ := id F
  have hl : lv_has ls 5 [(0, .ref d0), (1, .int x), (2, .int y), (3, .int w)] := hl
  refine lv_aload_n hx hb dX6_doll_0 rfl (lv_at hl 0 rfl) ?_
  refine va_get (D := D) (cl := vwCl) (ci := 6) (v := .ref h0) (C := RX6) (T := TX6) (N := 8) hx hb hts inf_X6_doll_X6 hown hK.1 (hR.at hS) 0 rfl rfl 0 (by decide) (hts _ (List.mem_of_getElem? (i := 1) rfl)) (fun _ h9 => h9) rfl dX6_doll_1 ?_
  refine lv_iload_n hx hb dX6_doll_4 rfl (lv_at hl 1 rfl) ?_
  refine call_r (q := (RX4, TX4, 1)) (As := [.int x]) (rest := []) F (c_X4_hasGarland l D cA h0 h1 h2 a x (fun g hg => by have := hV.1 g hg; omega)) (cwV 1 hts gX6_doll_X4_hasGarland rfl rfl rfl ydv_X4_hasGarland ⟨Nat.le_of_ble_eq_true rfl, Nat.le_of_ble_eq_true rfl⟩) hK hR hP hD hA hS [1, 2, 3] rfl rfl 1 4 rfl rfl rfl hl.1 rfl (Nat.le_of_ble_eq_true rfl) dX6_doll_5 ⟨Nat.zero_le _, Nat.zero_le _⟩ (fun H locs hP hS => ?_)
  refine bv_if_eq (tgt := 26) hx hb dX6_doll_8 (by decide) (fun c_8 => ?_) (fun c_8 => ?_)
  · refine lv_iconst (v := -1) hx hb dX6_doll_26 (by decide) ?_
    refine tope (y := sDoll a x y w) (by simp [sDoll, c_8]) ?_
    exact RET _ _ _ _ _ () dX6_doll_27 rfl rfl hP hS
  · obtain ⟨g, hg, rfl, hg0⟩ := inG_t c_8
    have hcx : cN (nI g) = g := cN_nI (by omega)
    have hl1 := hV.l hg
    refine lv_iload_n hx hb dX6_doll_11 rfl (lv_at hl 2 rfl) ?_
    refine lv_aload_n hx hb dX6_doll_12 rfl (lv_at hl 0 rfl) ?_
    refine va_get (D := D) (cl := vwCl) (ci := 6) (v := .ref h0) (C := RX6) (T := TX6) (N := 8) hx hb hts inf_X6_doll_X6 hown hK.1 (hR.at hS) 0 rfl rfl 0 (by decide) (hts _ (List.mem_of_getElem? (i := 1) rfl)) (fun _ h9 => h9) rfl dX6_doll_13 ?_
    refine lv_iload_n hx hb dX6_doll_16 rfl (lv_at hl 1 rfl) ?_
    refine call_r (q := (RX4, TX4, 1)) (As := [.int (nI g)]) (rest := [.int y]) F (c_X4_lengthOf l D cA h0 h1 h2 a g (by omega)) (cwV 1 hts gX6_doll_X4_lengthOf rfl rfl rfl ydv_X4_lengthOf ⟨Nat.le_of_ble_eq_true rfl, Nat.le_of_ble_eq_true rfl⟩) hK hR hP hD hA hS [1, 2, 3] rfl rfl 1 4 rfl rfl rfl hl.1 rfl (Nat.le_of_ble_eq_true rfl) dX6_doll_17 ⟨Nat.zero_le _, Nat.zero_le _⟩ (fun H locs hP hS => ?_)
    refine call_s (As := [.int y, .int (nI (ln a g))]) (rest := []) F (c_X6_isBelow l D cA y (ln a g) (by omega)) (va_cwS 2 hts gX6_doll_X6_isBelow rfl rfl rfl yd_X6_isBelow ⟨Nat.le_of_ble_eq_true rfl, Nat.le_of_ble_eq_true rfl⟩) hK hR hP hD hA hS rfl hl.1 rfl (Nat.le_of_ble_eq_true rfl) dX6_doll_20 ⟨Nat.zero_le _, Nat.zero_le _⟩ (fun H locs hP hS => ?_)
    refine bv_if_ne (tgt := 28) hx hb dX6_doll_23 (by decide) (fun c_23 => ?_) (fun c_23 => ?_)
    · obtain ⟨q, hq, rfl⟩ := isB_t (by omega) c_23
      have hcy : cN (nI q) = q := cN_nI (by omega)
      have hd1 := hV.d (q := q) hg (by omega)
      refine lv_aload_n hx hb dX6_doll_28 rfl (lv_at hl 0 rfl) ?_
      refine va_get (D := D) (cl := vwCl) (ci := 6) (v := .ref h0) (C := RX6) (T := TX6) (N := 8) hx hb hts inf_X6_doll_X6 hown hK.1 (hR.at hS) 0 rfl rfl 0 (by decide) (hts _ (List.mem_of_getElem? (i := 1) rfl)) (fun _ h9 => h9) rfl dX6_doll_29 ?_
      refine lv_iload_n hx hb dX6_doll_32 rfl (lv_at hl 1 rfl) ?_
      refine lv_iload_n hx hb dX6_doll_33 rfl (lv_at hl 2 rfl) ?_
      refine call_r (q := (RX4, TX4, 1)) (As := [.int (nI g), .int (nI q)]) (rest := []) F (c_X4_dollAt l D cA h0 h1 h2 a g q (by omega) (by omega)) (cwV 2 hts gX6_doll_X4_dollAt rfl rfl rfl ydv_X4_dollAt ⟨Nat.le_of_ble_eq_true rfl, Nat.le_of_ble_eq_true rfl⟩) hK hR hP hD hA hS [1, 2, 3] rfl rfl 1 4 rfl rfl rfl hl.1 rfl (Nat.le_of_ble_eq_true rfl) dX6_doll_34 ⟨Nat.zero_le _, Nat.zero_le _⟩ (fun H locs hP hS => ?_)
      refine lv_istore (lv' := [(4, .int (nI (dl a g q))), (0, .ref d0), (1, .int (nI g)), (2, .int (nI q)), (3, .int w)]) hx hb dX6_doll_37 hl (by decide) rfl (fun ls hl => ?_)
      refine lv_iload_n hx hb dX6_doll_39 rfl (lv_at hl 4 rfl) ?_
      rcases sw_4 w with rfl | rfl | rfl | rfl | c_40
      · refine lv_tableIn (tgt := 72) hx hb dX6_doll_40 (by decide) (by decide) rfl (by decide) ?_
        refine lv_iload hx hb dX6_doll_72 (lv_at hl 0 rfl) ?_
        refine call_s (As := [.int (nI (dl a g q))]) (rest := []) F (c_X6_kindOf l D cA (dl a g q) (by omega)) (va_cwS 1 hts gX6_doll_X6_kindOf rfl rfl rfl yd_X6_kindOf ⟨Nat.le_of_ble_eq_true rfl, Nat.le_of_ble_eq_true rfl⟩) hK hR hP hD hA hS rfl hl.1 rfl (Nat.le_of_ble_eq_true rfl) dX6_doll_74 ⟨Nat.zero_le _, Nat.zero_le _⟩ (fun H locs hP hS => ?_)
        refine tope (y := sDoll a (nI g) (nI q) (nI 0)) (by simp [sDoll, c_8, c_23, hcx, hcy, swN_0]) ?_
        exact RET _ _ _ _ _ () dX6_doll_77 rfl rfl hP hS
      · refine lv_tableIn (tgt := 78) hx hb dX6_doll_40 (by decide) (by decide) rfl (by decide) ?_
        refine lv_iload hx hb dX6_doll_78 (lv_at hl 0 rfl) ?_
        refine call_s (As := [.int (nI (dl a g q))]) (rest := []) F (c_X6_isMirrored l D cA (dl a g q) (by omega)) (va_cwS 1 hts gX6_doll_X6_isMirrored rfl rfl rfl yd_X6_isMirrored ⟨Nat.le_of_ble_eq_true rfl, Nat.le_of_ble_eq_true rfl⟩) hK hR hP hD hA hS rfl hl.1 rfl (Nat.le_of_ble_eq_true rfl) dX6_doll_80 ⟨Nat.zero_le _, Nat.zero_le _⟩ (fun H locs hP hS => ?_)
        refine call_s (As := [.int (bI (mr (dl a g q)))]) (rest := []) F (c_X6_oneIf l D cA (mr (dl a g q))) (va_cwS 1 hts gX6_doll_X6_oneIf rfl rfl rfl yd_X6_oneIf ⟨Nat.le_of_ble_eq_true rfl, Nat.le_of_ble_eq_true rfl⟩) hK hR hP hD hA hS rfl hl.1 rfl (Nat.le_of_ble_eq_true rfl) dX6_doll_83 ⟨Nat.zero_le _, Nat.zero_le _⟩ (fun H locs hP hS => ?_)
        refine tope (y := sDoll a (nI g) (nI q) (nI 1)) (by simp [sDoll, c_8, c_23, hcx, hcy, swN_1]) ?_
        exact RET _ _ _ _ _ () dX6_doll_86 rfl rfl hP hS
      · refine lv_tableIn (tgt := 87) hx hb dX6_doll_40 (by decide) (by decide) rfl (by decide) ?_
        refine lv_aload_n hx hb dX6_doll_87 rfl (lv_at hl 1 rfl) ?_
        refine va_get (D := D) (cl := vwCl) (ci := 6) (v := .ref h0) (C := RX6) (T := TX6) (N := 8) hx hb hts inf_X6_doll_X6 hown hK.1 (hR.at hS) 0 rfl rfl 0 (by decide) (hts _ (List.mem_of_getElem? (i := 1) rfl)) (fun _ h9 => h9) rfl dX6_doll_88 ?_
        refine lv_iload hx hb dX6_doll_91 (lv_at hl 0 rfl) ?_
        refine call_r (q := (RX4, TX4, 1)) (As := [.int (nI (dl a g q))]) (rest := []) F (c_X4_leftOf l D cA h0 h1 h2 a (dl a g q) (by omega)) (cwV 1 hts gX6_doll_X4_leftOf rfl rfl rfl ydv_X4_leftOf ⟨Nat.le_of_ble_eq_true rfl, Nat.le_of_ble_eq_true rfl⟩) hK hR hP hD hA hS [1, 2, 3] rfl rfl 1 4 rfl rfl rfl hl.1 rfl (Nat.le_of_ble_eq_true rfl) dX6_doll_93 ⟨Nat.zero_le _, Nat.zero_le _⟩ (fun H locs hP hS => ?_)
        refine tope (y := sDoll a (nI g) (nI q) (nI 2)) (by simp [sDoll, c_8, c_23, hcx, hcy, swN_2]) ?_
        exact RET _ _ _ _ _ () dX6_doll_96 rfl rfl hP hS
      · refine lv_tableIn (tgt := 97) hx hb dX6_doll_40 (by decide) (by decide) rfl (by decide) ?_
        refine lv_aload_n hx hb dX6_doll_97 rfl (lv_at hl 1 rfl) ?_
        refine va_get (D := D) (cl := vwCl) (ci := 6) (v := .ref h0) (C := RX6) (T := TX6) (N := 8) hx hb hts inf_X6_doll_X6 hown hK.1 (hR.at hS) 0 rfl rfl 0 (by decide) (hts _ (List.mem_of_getElem? (i := 1) rfl)) (fun _ h9 => h9) rfl dX6_doll_98 ?_
        refine lv_iload hx hb dX6_doll_101 (lv_at hl 0 rfl) ?_
        refine call_r (q := (RX4, TX4, 1)) (As := [.int (nI (dl a g q))]) (rest := []) F (c_X4_rightOf l D cA h0 h1 h2 a (dl a g q) (by omega)) (cwV 1 hts gX6_doll_X4_rightOf rfl rfl rfl ydv_X4_rightOf ⟨Nat.le_of_ble_eq_true rfl, Nat.le_of_ble_eq_true rfl⟩) hK hR hP hD hA hS [1, 2, 3] rfl rfl 1 4 rfl rfl rfl hl.1 rfl (Nat.le_of_ble_eq_true rfl) dX6_doll_103 ⟨Nat.zero_le _, Nat.zero_le _⟩ (fun H locs hP hS => ?_)
        refine tope (y := sDoll a (nI g) (nI q) (nI 3)) (by simp [sDoll, c_8, c_23, hcx, hcy, swN_3]) ?_
        exact RET _ _ _ _ _ () dX6_doll_106 rfl rfl hP hS
      · refine lv_tableOut (tgt := 107) hx hb dX6_doll_40 c_40 (by decide) ?_
        refine lv_bipush (v := -2) hx hb dX6_doll_107 (by decide) ?_
        refine tope (y := sDoll a (nI g) (nI q) w) (by have h9_ := swN_ge (n := 3) (by decide) c_40; rw [sDoll]; repeat (rw [if_neg (by first | omega | simp [c_8, c_23, hcx, hcy])])) ?_
        exact RET _ _ _ _ _ () dX6_doll_109 rfl rfl hP hS
    · refine lv_iconst (v := -1) hx hb dX6_doll_26 (by decide) ?_
      refine tope (y := sDoll a (nI g) y w) (by simp [sDoll, c_8, c_23, hcx]) ?_
      exact RET _ _ _ _ _ () dX6_doll_27 rfl rfl hP hS
abbrev rm_X6_reason : Room := { frames := 3, cells := 0, slots := 0, locals := 67 }
theorem ydv_X6_reason : yX6_reason.cls = RX6 ∧ yX6_reason.cls ≠ "java/lang/invoke/MethodHandle" ∧ yX6_reason.cls ≠ "java/lang/invoke/VarHandle" ∧ (parseMethodDescriptor yX6_reason.desc).map (fun d => d.parameters.length) = some 2 := by decide +kernel
theorem inf_X6_reason_X6 : ∀ w ∈ wsX60, w ∈ wsX6_reason := fun w h => List.mem_cons_of_mem _ (List.mem_append_left _ (List.mem_append_left _ (List.mem_append_right _ (h))))
set_option maxHeartbeats 4000000 in
set_option maxRecDepth 100000 in
theorem c_X6_reason (l : Launch) (D : va_G) (cA : ClassId) (d0 h0 k0 q0 c0 t0 s0 b0 : Nat) (fs : List Value) (h1 h2 : Nat) (a : Nat → Nat) (x y : Int32) (hV : Vd a) : RO l D cA yX6_reason wsX6_reason rm_X6_reason [.ref d0, .int x, .int y] [(d0, .inr (6, .ref h0 :: .ref k0 :: .ref q0 :: .ref c0 :: .ref t0 :: .ref s0 :: .ref b0 :: fs)), (h0, .inr (4, [.ref h1])), (h1, .inr (3, [.ref h2])), (h2, .inl (cA, 286, .inl (nF a)))] (sReas a x y) := by
  refine ofWi (cc := cX6_reason) (maxL := 3) (rt := .int) (by decide) rfl (Nat.le_of_ble_eq_true rfl) ?_
  intro p e s m args below meth c Q A ls F hK hR hP hD hA hS hl RET
  obtain ⟨hx, hb, hml, hown, hts⟩ := id F
  have hl : lv_has ls 3 [(0, .ref d0), (1, .int x), (2, .int y)] := hl
  refine lv_aload_n hx hb dX6_reason_0 rfl (lv_at hl 0 rfl) ?_
  refine va_get (D := D) (cl := vwCl) (ci := 6) (v := .ref h0) (C := RX6) (T := TX6) (N := 8) hx hb hts inf_X6_reason_X6 hown hK.1 (hR.at hS) 0 rfl rfl 0 (by decide) (hts _ (List.mem_of_getElem? (i := 1) rfl)) (fun _ h9 => h9) rfl dX6_reason_1 ?_
  refine lv_iload_n hx hb dX6_reason_4 rfl (lv_at hl 1 rfl) ?_
  refine call_r (q := (RX4, TX4, 1)) (As := [.int x]) (rest := []) F (c_X4_hasGarland l D cA h0 h1 h2 a x (fun g hg => by have := hV.1 g hg; omega)) (cwV 1 hts gX6_reason_X4_hasGarland rfl rfl rfl ydv_X4_hasGarland ⟨Nat.le_of_ble_eq_true rfl, Nat.le_of_ble_eq_true rfl⟩) hK hR hP hD hA hS [1, 2, 3] rfl rfl 1 4 rfl rfl rfl hl.1 rfl (Nat.le_of_ble_eq_true rfl) dX6_reason_5 ⟨Nat.zero_le _, Nat.zero_le _⟩ (fun H locs hP hS => ?_)
  refine bv_if_eq (tgt := 22) hx hb dX6_reason_8 (by decide) (fun c_8 => ?_) (fun c_8 => ?_)
  · refine lv_iconst (v := -1) hx hb dX6_reason_22 (by decide) ?_
    refine tope (y := sReas a x y) (by first | (simp [sReas, c_8]; done) | (simp [sReas, c_8]; omega)) ?_
    exact RET _ _ _ _ _ () dX6_reason_23 rfl rfl hP hS
  · obtain ⟨g, hg, rfl, hg0⟩ := inG_t c_8
    have hcx : cN (nI g) = g := cN_nI (by omega)
    refine lv_aload_n hx hb dX6_reason_11 rfl (lv_at hl 0 rfl) ?_
    refine va_get (D := D) (cl := vwCl) (ci := 6) (v := .ref h0) (C := RX6) (T := TX6) (N := 8) hx hb hts inf_X6_reason_X6 hown hK.1 (hR.at hS) 0 rfl rfl 0 (by decide) (hts _ (List.mem_of_getElem? (i := 1) rfl)) (fun _ h9 => h9) rfl dX6_reason_12 ?_
    refine lv_iload_n hx hb dX6_reason_15 rfl (lv_at hl 2 rfl) ?_
    refine call_r (q := (RX4, TX4, 1)) (As := [.int y]) (rest := []) F (c_X4_hasGarland l D cA h0 h1 h2 a y (fun g hg => by have := hV.1 g hg; omega)) (cwV 1 hts gX6_reason_X4_hasGarland rfl rfl rfl ydv_X4_hasGarland ⟨Nat.le_of_ble_eq_true rfl, Nat.le_of_ble_eq_true rfl⟩) hK hR hP hD hA hS [1, 2, 3] rfl rfl 1 4 rfl rfl rfl hl.1 rfl (Nat.le_of_ble_eq_true rfl) dX6_reason_16 ⟨Nat.zero_le _, Nat.zero_le _⟩ (fun H locs hP hS => ?_)
    refine bv_if_ne (tgt := 24) hx hb dX6_reason_19 (by decide) (fun c_19 => ?_) (fun c_19 => ?_)
    · obtain ⟨o_, ho_, rfl, ho0⟩ := inG_t c_19
      have hcy : cN (nI o_) = o_ := cN_nI (by omega)
      have hl1 := hV.l hg
      have hl2 := hV.l ho_
      have hd1 := hV.d (q := ln a g - 1) hg (by omega)
      have hd2 := hV.d (q := 0) ho_ (by omega)
      refine lv_iload_n hx hb dX6_reason_24 rfl (lv_at hl 1 rfl) ?_
      refine lv_iload_n hx hb dX6_reason_25 rfl (lv_at hl 2 rfl) ?_
      refine nv_icmp_ne (tgt := 31) hx hb dX6_reason_26 (by decide) (by omega) (by omega) (fun c_26 => ?_) (fun c_26 => ?_)
      · refine lv_aload_n hx hb dX6_reason_31 rfl (lv_at hl 0 rfl) ?_
        refine va_get (D := D) (cl := vwCl) (ci := 6) (v := .ref h0) (C := RX6) (T := TX6) (N := 8) hx hb hts inf_X6_reason_X6 hown hK.1 (hR.at hS) 0 rfl rfl 0 (by decide) (hts _ (List.mem_of_getElem? (i := 1) rfl)) (fun _ h9 => h9) rfl dX6_reason_32 ?_
        refine lv_aload_n hx hb dX6_reason_35 rfl (lv_at hl 0 rfl) ?_
        refine va_get (D := D) (cl := vwCl) (ci := 6) (v := .ref h0) (C := RX6) (T := TX6) (N := 8) hx hb hts inf_X6_reason_X6 hown hK.1 (hR.at hS) 0 rfl rfl 0 (by decide) (hts _ (List.mem_of_getElem? (i := 1) rfl)) (fun _ h9 => h9) rfl dX6_reason_36 ?_
        refine lv_iload_n hx hb dX6_reason_39 rfl (lv_at hl 1 rfl) ?_
        refine call_r (q := (RX4, TX4, 1)) (As := [.int (nI g)]) (rest := [.ref h0]) F (c_X4_lastDoll l D cA h0 h1 h2 a g (by omega) (by omega) (by omega)) (cwV 1 hts gX6_reason_X4_lastDoll rfl rfl rfl ydv_X4_lastDoll ⟨Nat.le_of_ble_eq_true rfl, Nat.le_of_ble_eq_true rfl⟩) hK hR hP hD hA hS [1, 2, 3] rfl rfl 1 4 rfl rfl rfl hl.1 rfl (Nat.le_of_ble_eq_true rfl) dX6_reason_40 ⟨Nat.zero_le _, Nat.zero_le _⟩ (fun H locs hP hS => ?_)
        refine lv_aload_n hx hb dX6_reason_43 rfl (lv_at hl 0 rfl) ?_
        refine va_get (D := D) (cl := vwCl) (ci := 6) (v := .ref h0) (C := RX6) (T := TX6) (N := 8) hx hb hts inf_X6_reason_X6 hown hK.1 (hR.at hS) 0 rfl rfl 0 (by decide) (hts _ (List.mem_of_getElem? (i := 1) rfl)) (fun _ h9 => h9) rfl dX6_reason_44 ?_
        refine lv_iload_n hx hb dX6_reason_47 rfl (lv_at hl 2 rfl) ?_
        refine call_r (q := (RX4, TX4, 1)) (As := [.int (nI o_)]) (rest := [.int (nI (dl a g (ln a g - 1))), .ref h0]) F (c_X4_firstDoll l D cA h0 h1 h2 a o_ (by omega)) (cwV 1 hts gX6_reason_X4_firstDoll rfl rfl rfl ydv_X4_firstDoll ⟨Nat.le_of_ble_eq_true rfl, Nat.le_of_ble_eq_true rfl⟩) hK hR hP hD hA hS [1, 2, 3] rfl rfl 1 4 rfl rfl rfl hl.1 rfl (Nat.le_of_ble_eq_true rfl) dX6_reason_48 ⟨Nat.zero_le _, Nat.zero_le _⟩ (fun H locs hP hS => ?_)
        refine call_r (q := (RX4, TX4, 1)) (As := [.int (nI (dl a g (ln a g - 1))), .int (nI (dl a o_ 0))]) (rest := []) F (c_X4_clash l D cA h0 h1 h2 a (dl a g (ln a g - 1)) (dl a o_ 0) (hV.r) (by omega) (by omega) (hV)) (cwV 2 hts gX6_reason_X4_clash rfl rfl rfl ydv_X4_clash ⟨Nat.le_of_ble_eq_true rfl, Nat.le_of_ble_eq_true rfl⟩) hK hR hP hD hA hS [1, 2, 3] rfl rfl 1 4 rfl rfl rfl hl.1 rfl (Nat.le_of_ble_eq_true rfl) dX6_reason_51 ⟨Nat.zero_le _, Nat.zero_le _⟩ (fun H locs hP hS => ?_)
        refine bv_if_eq (tgt := 59) hx hb dX6_reason_54 (by decide) (fun c_54 => ?_) (fun c_54 => ?_)
        · refine lv_aload_n hx hb dX6_reason_59 rfl (lv_at hl 0 rfl) ?_
          refine va_get (D := D) (cl := vwCl) (ci := 6) (v := .ref h0) (C := RX6) (T := TX6) (N := 8) hx hb hts inf_X6_reason_X6 hown hK.1 (hR.at hS) 0 rfl rfl 0 (by decide) (hts _ (List.mem_of_getElem? (i := 1) rfl)) (fun _ h9 => h9) rfl dX6_reason_60 ?_
          refine lv_iload_n hx hb dX6_reason_63 rfl (lv_at hl 1 rfl) ?_
          refine call_r (q := (RX4, TX4, 1)) (As := [.int (nI g)]) (rest := []) F (c_X4_lengthOf l D cA h0 h1 h2 a g (by omega)) (cwV 1 hts gX6_reason_X4_lengthOf rfl rfl rfl ydv_X4_lengthOf ⟨Nat.le_of_ble_eq_true rfl, Nat.le_of_ble_eq_true rfl⟩) hK hR hP hD hA hS [1, 2, 3] rfl rfl 1 4 rfl rfl rfl hl.1 rfl (Nat.le_of_ble_eq_true rfl) dX6_reason_64 ⟨Nat.zero_le _, Nat.zero_le _⟩ (fun H locs hP hS => ?_)
          refine lv_aload_n hx hb dX6_reason_67 rfl (lv_at hl 0 rfl) ?_
          refine va_get (D := D) (cl := vwCl) (ci := 6) (v := .ref h0) (C := RX6) (T := TX6) (N := 8) hx hb hts inf_X6_reason_X6 hown hK.1 (hR.at hS) 0 rfl rfl 0 (by decide) (hts _ (List.mem_of_getElem? (i := 1) rfl)) (fun _ h9 => h9) rfl dX6_reason_68 ?_
          refine lv_iload_n hx hb dX6_reason_71 rfl (lv_at hl 2 rfl) ?_
          refine call_r (q := (RX4, TX4, 1)) (As := [.int (nI o_)]) (rest := [.int (nI (ln a g))]) F (c_X4_lengthOf l D cA h0 h1 h2 a o_ (by omega)) (cwV 1 hts gX6_reason_X4_lengthOf rfl rfl rfl ydv_X4_lengthOf ⟨Nat.le_of_ble_eq_true rfl, Nat.le_of_ble_eq_true rfl⟩) hK hR hP hD hA hS [1, 2, 3] rfl rfl 1 4 rfl rfl rfl hl.1 rfl (Nat.le_of_ble_eq_true rfl) dX6_reason_72 ⟨Nat.zero_le _, Nat.zero_le _⟩ (fun H locs hP hS => ?_)
          refine nv_iadd hx hb dX6_reason_75 ?_
          refine lv_bipush (v := nI 32) hx hb dX6_reason_76 (by decide) ?_
          refine nv_icmp_le (tgt := 85) hx hb dX6_reason_78 (by decide) (by omega) (by decide) (fun c_78 => ?_) (fun c_78 => ?_)
          · refine lv_iconst (v := nI 0) hx hb dX6_reason_85 (by decide) ?_
            refine tope (y := sReas a (nI g) (nI o_)) (by first | (simp [sReas, c_8, c_19, c_26, c_54, c_78, hcx, hcy]; done) | (simp [sReas, c_8, c_19, c_26, c_54, c_78, hcx, hcy]; omega)) ?_
            exact RET _ _ _ _ _ () dX6_reason_86 rfl rfl hP hS
          · refine lv_iconst (v := nI 3) hx hb dX6_reason_81 (by decide) ?_
            refine lv_goto (tgt := 86) hx hb dX6_reason_82 (by decide) ?_
            refine tope (y := sReas a (nI g) (nI o_)) (by first | (simp [sReas, c_8, c_19, c_26, c_54, c_78, hcx, hcy]; done) | (simp [sReas, c_8, c_19, c_26, c_54, c_78, hcx, hcy]; omega)) ?_
            exact RET _ _ _ _ _ () dX6_reason_86 rfl rfl hP hS
        · refine lv_iconst (v := nI 2) hx hb dX6_reason_57 (by decide) ?_
          refine tope (y := sReas a (nI g) (nI o_)) (by first | (simp [sReas, c_8, c_19, c_26, c_54, hcx, hcy]; done) | (simp [sReas, c_8, c_19, c_26, c_54, hcx, hcy]; omega)) ?_
          exact RET _ _ _ _ _ () dX6_reason_58 rfl rfl hP hS
      · refine lv_iconst (v := nI 1) hx hb dX6_reason_29 (by decide) ?_
        refine tope (y := sReas a (nI g) (nI o_)) (by first | (simp [sReas, c_8, c_19, eq_true c_26, hcx, hcy]; done) | (simp [sReas, c_8, c_19, eq_true c_26, hcx, hcy]; omega)) ?_
        exact RET _ _ _ _ _ () dX6_reason_30 rfl rfl hP hS
    · refine lv_iconst (v := -1) hx hb dX6_reason_22 (by decide) ?_
      refine tope (y := sReas a (nI g) y) (by first | (simp [sReas, c_8, c_19, hcx]; done) | (simp [sReas, c_8, c_19, hcx]; omega)) ?_
      exact RET _ _ _ _ _ () dX6_reason_23 rfl rfl hP hS
abbrev rm_X6_between : Room := { frames := 6, cells := 0, slots := 0, locals := 141 }
theorem ydv_X6_between : yX6_between.cls = RX6 ∧ yX6_between.cls ≠ "java/lang/invoke/MethodHandle" ∧ yX6_between.cls ≠ "java/lang/invoke/VarHandle" ∧ (parseMethodDescriptor yX6_between.desc).map (fun d => d.parameters.length) = some 2 := by decide +kernel
theorem inf_X6_between_X6 : ∀ w ∈ wsX60, w ∈ wsX6_between := fun w h => List.mem_cons_of_mem _ (List.mem_append_left _ (List.mem_append_left _ (List.mem_append_left _ (List.mem_append_right _ (h)))))
set_option maxHeartbeats 4000000 in
set_option maxRecDepth 100000 in
theorem c_X6_between (l : Launch) (D : va_G) (cA : ClassId) (d0 h0 k0 q0 c0 t0 s0 b0 : Nat) (fs : List Value) (h1 h2 : Nat) (a : Nat → Nat) (f0 e0 l0 : Nat) (x y : Int32) (hV : Vd a) : RO l D cA yX6_between wsX6_between rm_X6_between [.ref d0, .int x, .int y] [(d0, .inr (6, .ref h0 :: .ref k0 :: .ref q0 :: .ref c0 :: .ref t0 :: .ref s0 :: .ref b0 :: fs)), (h0, .inr (4, [.ref h1])), (h1, .inr (3, [.ref h2])), (h2, .inl (cA, 286, .inl (nF a))), (q0, .inr (0, [.ref h0, .ref f0, .ref e0, .ref l0]))] (sBtw a x y) := by
  refine ofWi (cc := cX6_between) (maxL := 3) (rt := .int) (by decide) rfl (Nat.le_of_ble_eq_true rfl) ?_
  intro p e s m args below meth c Q A ls F hK hR hP hD hA hS hl RET
  obtain ⟨hx, hb, hml, hown, hts⟩ := id F
  have hl : lv_has ls 3 [(0, .ref d0), (1, .int x), (2, .int y)] := hl
  refine lv_aload_n hx hb dX6_between_0 rfl (lv_at hl 0 rfl) ?_
  refine va_get (D := D) (cl := vwCl) (ci := 6) (v := .ref h0) (C := RX6) (T := TX6) (N := 8) hx hb hts inf_X6_between_X6 hown hK.1 (hR.at hS) 0 rfl rfl 0 (by decide) (hts _ (List.mem_of_getElem? (i := 1) rfl)) (fun _ h9 => h9) rfl dX6_between_1 ?_
  refine lv_iload_n hx hb dX6_between_4 rfl (lv_at hl 1 rfl) ?_
  refine call_r (q := (RX4, TX4, 1)) (As := [.int x]) (rest := []) F (c_X4_hasGarland l D cA h0 h1 h2 a x (fun g hg => by have := hV.1 g hg; omega)) (cwV 1 hts gX6_between_X4_hasGarland rfl rfl rfl ydv_X4_hasGarland ⟨Nat.le_of_ble_eq_true rfl, Nat.le_of_ble_eq_true rfl⟩) hK hR hP hD hA hS [1, 2, 3] rfl rfl 1 4 rfl rfl rfl hl.1 rfl (Nat.le_of_ble_eq_true rfl) dX6_between_5 ⟨Nat.zero_le _, Nat.zero_le _⟩ (fun H locs hP hS => ?_)
  refine bv_if_eq (tgt := 22) hx hb dX6_between_8 (by decide) (fun c_8 => ?_) (fun c_8 => ?_)
  · refine lv_iconst (v := -1) hx hb dX6_between_22 (by decide) ?_
    refine tope (y := sBtw a x y) (by simp [sBtw, c_8]) ?_
    exact RET _ _ _ _ _ () dX6_between_23 rfl rfl hP hS
  · obtain ⟨g, hg, rfl, hg0⟩ := inG_t c_8
    have hcx : cN (nI g) = g := cN_nI (by omega)
    refine lv_aload_n hx hb dX6_between_11 rfl (lv_at hl 0 rfl) ?_
    refine va_get (D := D) (cl := vwCl) (ci := 6) (v := .ref h0) (C := RX6) (T := TX6) (N := 8) hx hb hts inf_X6_between_X6 hown hK.1 (hR.at hS) 0 rfl rfl 0 (by decide) (hts _ (List.mem_of_getElem? (i := 1) rfl)) (fun _ h9 => h9) rfl dX6_between_12 ?_
    refine lv_iload_n hx hb dX6_between_15 rfl (lv_at hl 2 rfl) ?_
    refine call_r (q := (RX4, TX4, 1)) (As := [.int y]) (rest := []) F (c_X4_hasGarland l D cA h0 h1 h2 a y (fun g hg => by have := hV.1 g hg; omega)) (cwV 1 hts gX6_between_X4_hasGarland rfl rfl rfl ydv_X4_hasGarland ⟨Nat.le_of_ble_eq_true rfl, Nat.le_of_ble_eq_true rfl⟩) hK hR hP hD hA hS [1, 2, 3] rfl rfl 1 4 rfl rfl rfl hl.1 rfl (Nat.le_of_ble_eq_true rfl) dX6_between_16 ⟨Nat.zero_le _, Nat.zero_le _⟩ (fun H locs hP hS => ?_)
    refine bv_if_ne (tgt := 24) hx hb dX6_between_19 (by decide) (fun c_19 => ?_) (fun c_19 => ?_)
    · obtain ⟨o_, ho_, rfl, ho0⟩ := inG_t c_19
      have hcy : cN (nI o_) = o_ := cN_nI (by omega)
      have hl1 := hV.l hg
      have hl2 := hV.l ho_
      have hd1 := hV.d (q := ln a g - 1) hg (by omega)
      have hd2 := hV.d (q := 0) ho_ (by omega)
      refine lv_aload_n hx hb dX6_between_24 rfl (lv_at hl 0 rfl) ?_
      refine va_get (D := D) (cl := vwCl) (ci := 6) (v := .ref q0) (C := RX6) (T := TX6) (N := 8) hx hb hts inf_X6_between_X6 hown hK.1 (hR.at hS) 0 rfl rfl 2 (by decide) (hts _ (List.mem_of_getElem? (i := 2) rfl)) (fun _ h9 => h9) rfl dX6_between_25 ?_
      refine lv_aload_n hx hb dX6_between_28 rfl (lv_at hl 0 rfl) ?_
      refine va_get (D := D) (cl := vwCl) (ci := 6) (v := .ref h0) (C := RX6) (T := TX6) (N := 8) hx hb hts inf_X6_between_X6 hown hK.1 (hR.at hS) 0 rfl rfl 0 (by decide) (hts _ (List.mem_of_getElem? (i := 1) rfl)) (fun _ h9 => h9) rfl dX6_between_29 ?_
      refine lv_iload_n hx hb dX6_between_32 rfl (lv_at hl 1 rfl) ?_
      refine call_r (q := (RX4, TX4, 1)) (As := [.int (nI g)]) (rest := [.ref q0]) F (c_X4_lastDoll l D cA h0 h1 h2 a g (by omega) (by omega) (by omega)) (cwV 1 hts gX6_between_X4_lastDoll rfl rfl rfl ydv_X4_lastDoll ⟨Nat.le_of_ble_eq_true rfl, Nat.le_of_ble_eq_true rfl⟩) hK hR hP hD hA hS [1, 2, 3] rfl rfl 1 4 rfl rfl rfl hl.1 rfl (Nat.le_of_ble_eq_true rfl) dX6_between_33 ⟨Nat.zero_le _, Nat.zero_le _⟩ (fun H locs hP hS => ?_)
      refine lv_aload_n hx hb dX6_between_36 rfl (lv_at hl 0 rfl) ?_
      refine va_get (D := D) (cl := vwCl) (ci := 6) (v := .ref h0) (C := RX6) (T := TX6) (N := 8) hx hb hts inf_X6_between_X6 hown hK.1 (hR.at hS) 0 rfl rfl 0 (by decide) (hts _ (List.mem_of_getElem? (i := 1) rfl)) (fun _ h9 => h9) rfl dX6_between_37 ?_
      refine lv_iload_n hx hb dX6_between_40 rfl (lv_at hl 2 rfl) ?_
      refine call_r (q := (RX4, TX4, 1)) (As := [.int (nI o_)]) (rest := [.int (nI (dl a g (ln a g - 1))), .ref q0]) F (c_X4_firstDoll l D cA h0 h1 h2 a o_ (by omega)) (cwV 1 hts gX6_between_X4_firstDoll rfl rfl rfl ydv_X4_firstDoll ⟨Nat.le_of_ble_eq_true rfl, Nat.le_of_ble_eq_true rfl⟩) hK hR hP hD hA hS [1, 2, 3] rfl rfl 1 4 rfl rfl rfl hl.1 rfl (Nat.le_of_ble_eq_true rfl) dX6_between_41 ⟨Nat.zero_le _, Nat.zero_le _⟩ (fun H locs hP hS => ?_)
      refine call_r (q := (RX0, TX0, 4)) (As := [.int (nI (dl a g (ln a g - 1))), .int (nI (dl a o_ 0))]) (rest := []) F (c_X0_fewestBetween l D cA q0 f0 e0 l0 h0 h1 h2 a (dl a g (ln a g - 1)) (dl a o_ 0) (hV) (by omega) (by omega)) (cwV 2 hts gX6_between_X0_fewestBetween rfl rfl rfl ydv_X0_fewestBetween ⟨Nat.le_of_ble_eq_true rfl, Nat.le_of_ble_eq_true rfl⟩) hK hR hP hD hA hS [4, 1, 2, 3] rfl rfl 4 0 rfl rfl rfl hl.1 rfl (Nat.le_of_ble_eq_true rfl) dX6_between_44 ⟨Nat.zero_le _, Nat.zero_le _⟩ (fun H locs hP hS => ?_)
      refine tope (y := sBtw a (nI g) (nI o_)) (by simp [sBtw, c_8, c_19, hcx, hcy]) ?_
      exact RET _ _ _ _ _ () dX6_between_47 rfl rfl hP hS
    · refine lv_iconst (v := -1) hx hb dX6_between_22 (by decide) ?_
      refine tope (y := sBtw a (nI g) y) (by simp [sBtw, c_8, c_19, hcx]) ?_
      exact RET _ _ _ _ _ () dX6_between_23 rfl rfl hP hS
abbrev rm_X6_ways : Room := { frames := 6, cells := 0, slots := 0, locals := 139 }
theorem ydv_X6_ways : yX6_ways.cls = RX6 ∧ yX6_ways.cls ≠ "java/lang/invoke/MethodHandle" ∧ yX6_ways.cls ≠ "java/lang/invoke/VarHandle" ∧ (parseMethodDescriptor yX6_ways.desc).map (fun d => d.parameters.length) = some 2 := by decide +kernel
theorem inf_X6_ways_X6 : ∀ w ∈ wsX60, w ∈ wsX6_ways := fun w h => List.mem_cons_of_mem _ (List.mem_append_left _ (List.mem_append_left _ (List.mem_append_left _ (List.mem_append_right _ (h)))))
set_option maxHeartbeats 4000000 in
set_option maxRecDepth 100000 in
theorem c_X6_ways (l : Launch) (D : va_G) (cA : ClassId) (d0 h0 k0 q0 c0 t0 s0 b0 : Nat) (fs : List Value) (f0 e0 l0 f1 e1 l1 : Nat) (h1 h2 : Nat) (a : Nat → Nat) (fo en lo : Nat → Nat) (x w : Int32) (hV : Vd a) : MI l D cA yX6_ways wsX6_ways rm_X6_ways [.ref d0, .int x, .int w] [(d0, .inr (6, .ref h0 :: .ref k0 :: .ref q0 :: .ref c0 :: .ref t0 :: .ref s0 :: .ref b0 :: fs)), (q0, .inr (0, [.ref h0, .ref f0, .ref e0, .ref l0])), (h0, .inr (4, [.ref h1])), (h1, .inr (3, [.ref h2])), (h2, .inl (cA, 286, .inl (nF a))), (f0, .inr (3, [.ref f1])), (e0, .inr (3, [.ref e1])), (l0, .inr (3, [.ref l1]))] [(f1, .inl (cA, 20, .inl (nF fo))), (e1, .inl (cA, 20, .inl (nF en))), (l1, .inl (cA, 20, .inl (nF lo)))] (S := (Nat → Nat) × (Nat → Nat) × (Nat → Nat)) (fun rr_ (uu_ : (Nat → Nat) × (Nat → Nat) × (Nat → Nat)) => rr_ = sWays a x w) (fun (uu_ : (Nat → Nat) × (Nat → Nat) × (Nat → Nat)) => [(f1, .inl (cA, 20, .inl (nF uu_.1))), (e1, .inl (cA, 20, .inl (nF uu_.2.1))), (l1, .inl (cA, 20, .inl (nF uu_.2.2)))]) := by
  refine ofWi (cc := cX6_ways) (maxL := 3) (rt := .int) (by decide) rfl (Nat.le_of_ble_eq_true rfl) ?_
  intro p e s m args below meth c Q A ls F hK hR hP hD hA hS hl RET
  obtain ⟨hx, hb, hml, hown, hts⟩ := id F
  have hl : lv_has ls 3 [(0, .ref d0), (1, .int x), (2, .int w)] := hl
  refine lv_iload_n hx hb dX6_ways_0 rfl (lv_at hl 1 rfl) ?_
  refine lv_iconst (v := nI 1) hx hb dX6_ways_1 (by decide) ?_
  refine lv_icmp_lt (tgt := 11) hx hb dX6_ways_2 (by decide) (fun c_2 => ?_) (fun c_2 => ?_)
  · have hR_ : inR x 1 6 = false := inR_lo (by decide) c_2
    refine lv_bipush (v := -2) hx hb dX6_ways_11 (by decide) ?_
    refine tope (y := sWays a x w) (by simp [sWays, hR_]) ?_
    exact RET _ _ _ _ _ (fo, en, lo) dX6_ways_13 rfl rfl hP hS
  · refine lv_iload_n hx hb dX6_ways_5 rfl (lv_at hl 1 rfl) ?_
    refine lv_bipush (v := nI 6) hx hb dX6_ways_6 (by decide) ?_
    refine lv_icmp_le (tgt := 14) hx hb dX6_ways_8 (by decide) (fun c_8 => ?_) (fun c_8 => ?_)
    · have hR_ := inR_in (by decide) (by decide) c_2 c_8
      obtain ⟨k, hk1, hk2, rfl⟩ := inR_t (by decide) hR_
      have hcx : cN (nI k) = k := cN_nI (by omega)
      refine lv_iload_n hx hb dX6_ways_14 rfl (lv_at hl 2 rfl) ?_
      rcases sw_3 w with rfl | rfl | rfl | c_15
      · refine lv_tableIn (tgt := 40) hx hb dX6_ways_15 (by decide) (by decide) rfl (by decide) ?_
        refine lv_aload_n hx hb dX6_ways_40 rfl (lv_at hl 0 rfl) ?_
        refine va_get (D := D) (cl := vwCl) (ci := 6) (v := .ref q0) (C := RX6) (T := TX6) (N := 8) hx hb hts inf_X6_ways_X6 hown hK.1 (hR.at hS) 0 rfl rfl 2 (by decide) (hts _ (List.mem_of_getElem? (i := 1) rfl)) (fun _ h9 => h9) rfl dX6_ways_41 ?_
        refine lv_iload_n hx hb dX6_ways_44 rfl (lv_at hl 1 rfl) ?_
        refine call_i (q := (RX0, TX0, 4)) (As := [.int (nI k)]) (rest := []) F (c_X0_garlandsOf l D cA q0 f0 e0 l0 f1 e1 l1 h0 h1 h2 a fo en lo k (hV) (by omega)) (cwV 1 hts gX6_ways_X0_garlandsOf rfl rfl rfl ydv_X0_garlandsOf ⟨Nat.le_of_ble_eq_true rfl, Nat.le_of_ble_eq_true rfl⟩) hK hR hP hD hA hS [1, 2, 3, 4, 5, 6, 7, 8, 9, 10] [0, 1, 2] rfl rfl rfl 1 0 rfl rfl (fun _ => rfl) rfl hl.1 rfl (Nat.le_of_ble_eq_true rfl) dX6_ways_45 ⟨Nat.zero_le _, Nat.zero_le _⟩ (fun r_45 u_45 H locs hw hP hD hS => ?_)
        obtain ⟨fo2_45, en2_45, lo2_45⟩ := u_45
        have hP : va_P D vwCl [(f1, .inl (cA, 20, .inl (nF fo2_45))), (e1, .inl (cA, 20, .inl (nF en2_45))), (l1, .inl (cA, 20, .inl (nF lo2_45)))] H := hP
        have hD : va_D A [(f1, .inl (cA, 20, .inl (nF fo2_45))), (e1, .inl (cA, 20, .inl (nF en2_45))), (l1, .inl (cA, 20, .inl (nF lo2_45)))] := hD
        obtain rfl : r_45 = nI (allN a k) := hw
        refine tope (y := sWays a (nI k) (nI 0)) (by simp [sWays, hR_, hcx, swN_0]) ?_
        exact RET _ _ _ _ _ (fo2_45, en2_45, lo2_45) dX6_ways_48 rfl rfl hP hS
      · refine lv_tableIn (tgt := 49) hx hb dX6_ways_15 (by decide) (by decide) rfl (by decide) ?_
        refine lv_aload_n hx hb dX6_ways_49 rfl (lv_at hl 0 rfl) ?_
        refine va_get (D := D) (cl := vwCl) (ci := 6) (v := .ref q0) (C := RX6) (T := TX6) (N := 8) hx hb hts inf_X6_ways_X6 hown hK.1 (hR.at hS) 0 rfl rfl 2 (by decide) (hts _ (List.mem_of_getElem? (i := 1) rfl)) (fun _ h9 => h9) rfl dX6_ways_50 ?_
        refine lv_iload_n hx hb dX6_ways_53 rfl (lv_at hl 1 rfl) ?_
        refine call_i (q := (RX0, TX0, 4)) (As := [.int (nI k)]) (rest := []) F (c_X0_ownMirrorsOf l D cA q0 f0 e0 l0 f1 e1 l1 h0 h1 h2 a fo en lo k (hV) (by omega)) (cwV 1 hts gX6_ways_X0_ownMirrorsOf rfl rfl rfl ydv_X0_ownMirrorsOf ⟨Nat.le_of_ble_eq_true rfl, Nat.le_of_ble_eq_true rfl⟩) hK hR hP hD hA hS [1, 2, 3, 4, 5, 6, 7, 8, 9, 10] [0, 1, 2] rfl rfl rfl 1 0 rfl rfl (fun _ => rfl) rfl hl.1 rfl (Nat.le_of_ble_eq_true rfl) dX6_ways_54 ⟨Nat.zero_le _, Nat.zero_le _⟩ (fun r_54 u_54 H locs hw hP hD hS => ?_)
        obtain ⟨fo2_54, en2_54, lo2_54⟩ := u_54
        have hP : va_P D vwCl [(f1, .inl (cA, 20, .inl (nF fo2_54))), (e1, .inl (cA, 20, .inl (nF en2_54))), (l1, .inl (cA, 20, .inl (nF lo2_54)))] H := hP
        have hD : va_D A [(f1, .inl (cA, 20, .inl (nF fo2_54))), (e1, .inl (cA, 20, .inl (nF en2_54))), (l1, .inl (cA, 20, .inl (nF lo2_54)))] := hD
        obtain rfl : r_54 = nI (ownN a k) := hw
        refine tope (y := sWays a (nI k) (nI 1)) (by simp [sWays, hR_, hcx, swN_1]) ?_
        exact RET _ _ _ _ _ (fo2_54, en2_54, lo2_54) dX6_ways_57 rfl rfl hP hS
      · refine lv_tableIn (tgt := 58) hx hb dX6_ways_15 (by decide) (by decide) rfl (by decide) ?_
        refine lv_aload_n hx hb dX6_ways_58 rfl (lv_at hl 0 rfl) ?_
        refine va_get (D := D) (cl := vwCl) (ci := 6) (v := .ref q0) (C := RX6) (T := TX6) (N := 8) hx hb hts inf_X6_ways_X6 hown hK.1 (hR.at hS) 0 rfl rfl 2 (by decide) (hts _ (List.mem_of_getElem? (i := 1) rfl)) (fun _ h9 => h9) rfl dX6_ways_59 ?_
        refine lv_iload_n hx hb dX6_ways_62 rfl (lv_at hl 1 rfl) ?_
        refine call_i (q := (RX0, TX0, 4)) (As := [.int (nI k)]) (rest := []) F (c_X0_garlandsOf l D cA q0 f0 e0 l0 f1 e1 l1 h0 h1 h2 a fo en lo k (hV) (by omega)) (cwV 1 hts gX6_ways_X0_garlandsOf rfl rfl rfl ydv_X0_garlandsOf ⟨Nat.le_of_ble_eq_true rfl, Nat.le_of_ble_eq_true rfl⟩) hK hR hP hD hA hS [1, 2, 3, 4, 5, 6, 7, 8, 9, 10] [0, 1, 2] rfl rfl rfl 1 0 rfl rfl (fun _ => rfl) rfl hl.1 rfl (Nat.le_of_ble_eq_true rfl) dX6_ways_63 ⟨Nat.zero_le _, Nat.zero_le _⟩ (fun r_63 u_63 H locs hw hP hD hS => ?_)
        obtain ⟨fo2_63, en2_63, lo2_63⟩ := u_63
        have hP : va_P D vwCl [(f1, .inl (cA, 20, .inl (nF fo2_63))), (e1, .inl (cA, 20, .inl (nF en2_63))), (l1, .inl (cA, 20, .inl (nF lo2_63)))] H := hP
        have hD : va_D A [(f1, .inl (cA, 20, .inl (nF fo2_63))), (e1, .inl (cA, 20, .inl (nF en2_63))), (l1, .inl (cA, 20, .inl (nF lo2_63)))] := hD
        obtain rfl : r_63 = nI (allN a k) := hw
        refine lv_aload_n hx hb dX6_ways_66 rfl (lv_at hl 0 rfl) ?_
        refine va_get (D := D) (cl := vwCl) (ci := 6) (v := .ref q0) (C := RX6) (T := TX6) (N := 8) hx hb hts inf_X6_ways_X6 hown hK.1 (hR.at hS) 0 rfl rfl 2 (by decide) (hts _ (List.mem_of_getElem? (i := 1) rfl)) (fun _ h9 => h9) rfl dX6_ways_67 ?_
        refine lv_iload_n hx hb dX6_ways_70 rfl (lv_at hl 1 rfl) ?_
        refine call_i (q := (RX0, TX0, 4)) (As := [.int (nI k)]) (rest := [.int (nI (allN a k))]) F (c_X0_ownMirrorsOf l D cA q0 f0 e0 l0 f1 e1 l1 h0 h1 h2 a fo2_63 en2_63 lo2_63 k (hV) (by omega)) (cwV 1 hts gX6_ways_X0_ownMirrorsOf rfl rfl rfl ydv_X0_ownMirrorsOf ⟨Nat.le_of_ble_eq_true rfl, Nat.le_of_ble_eq_true rfl⟩) hK hR hP hD hA hS [1, 2, 3, 4, 5, 6, 7, 8, 9, 10] [0, 1, 2] rfl rfl rfl 1 0 rfl rfl (fun _ => rfl) rfl hl.1 rfl (Nat.le_of_ble_eq_true rfl) dX6_ways_71 ⟨Nat.zero_le _, Nat.zero_le _⟩ (fun r_71 u_71 H locs hw hP hD hS => ?_)
        obtain ⟨fo2_71, en2_71, lo2_71⟩ := u_71
        have hP : va_P D vwCl [(f1, .inl (cA, 20, .inl (nF fo2_71))), (e1, .inl (cA, 20, .inl (nF en2_71))), (l1, .inl (cA, 20, .inl (nF lo2_71)))] H := hP
        have hD : va_D A [(f1, .inl (cA, 20, .inl (nF fo2_71))), (e1, .inl (cA, 20, .inl (nF en2_71))), (l1, .inl (cA, 20, .inl (nF lo2_71)))] := hD
        obtain rfl : r_71 = nI (ownN a k) := hw
        refine nv_iadd hx hb dX6_ways_74 ?_
        refine lv_iconst (v := nI 2) hx hb dX6_ways_75 (by decide) ?_
        refine lv_idiv hx hb dX6_ways_76 (by decide) ?_
        refine tope (y := sWays a (nI k) (nI 2)) (by simp [sWays, hR_, hcx, swN_2]) ?_
        exact RET _ _ _ _ _ (fo2_71, en2_71, lo2_71) dX6_ways_77 rfl rfl hP hS
      · refine lv_tableOut (tgt := 78) hx hb dX6_ways_15 c_15 (by decide) ?_
        refine lv_bipush (v := -2) hx hb dX6_ways_78 (by decide) ?_
        refine tope (y := sWays a (nI k) w) (by have h9_ := swN_ge (n := 2) (by decide) c_15; rw [sWays]; repeat (rw [if_neg (by first | omega | simp [hR_])])) ?_
        exact RET _ _ _ _ _ (fo, en, lo) dX6_ways_80 rfl rfl hP hS
    · have hR_ : inR x 1 6 = false := inR_hi (by decide) c_8
      refine lv_bipush (v := -2) hx hb dX6_ways_11 (by decide) ?_
      refine tope (y := sWays a x w) (by simp [sWays, hR_]) ?_
      exact RET _ _ _ _ _ (fo, en, lo) dX6_ways_13 rfl rfl hP hS
abbrev rm_X6_longest : Room := { frames := 2, cells := 0, slots := 0, locals := 42 }
theorem ydv_X6_longest : yX6_longest.cls = RX6 ∧ yX6_longest.cls ≠ "java/lang/invoke/MethodHandle" ∧ yX6_longest.cls ≠ "java/lang/invoke/VarHandle" ∧ (parseMethodDescriptor yX6_longest.desc).map (fun d => d.parameters.length) = some 0 := by decide +kernel
theorem inf_X6_longest_X6 : ∀ w ∈ wsX60, w ∈ wsX6_longest := fun w h => List.mem_cons_of_mem _ (List.mem_append_left _ (List.mem_append_left _ (List.mem_append_right _ (h))))
set_option maxHeartbeats 4000000 in
set_option maxRecDepth 100000 in
theorem c_X6_longest (l : Launch) (D : va_G) (cA : ClassId) (d0 h0 k0 q0 c0 t0 s0 b0 : Nat) (fs : List Value) (h1 h2 : Nat) (a : Nat → Nat)  (hV : Vd a) : RO l D cA yX6_longest wsX6_longest rm_X6_longest [.ref d0] [(d0, .inr (6, .ref h0 :: .ref k0 :: .ref q0 :: .ref c0 :: .ref t0 :: .ref s0 :: .ref b0 :: fs)), (h0, .inr (4, [.ref h1])), (h1, .inr (3, [.ref h2])), (h2, .inl (cA, 286, .inl (nF a)))] (sLon a) := by
  refine ofWi (cc := cX6_longest) (maxL := 4) (rt := .int) (by decide) rfl (Nat.le_of_ble_eq_true rfl) ?_
  intro p e s m args below meth c Q A ls F hK hR hP hD hA hS hl RET
  obtain ⟨hx, hb, hml, hown, hts⟩ := id F
  have hl : lv_has ls 4 [(0, .ref d0)] := hl
  refine lv_bipush (v := -5) hx hb dX6_longest_0 (by decide) ?_
  refine lv_istore_n (lv' := [(1, .int ((-5))), (0, .ref d0)]) hx hb dX6_longest_2 rfl hl (by decide) rfl (fun ls hl => ?_)
  refine lv_iconst (v := nI 0) hx hb dX6_longest_3 (by decide) ?_
  refine lv_istore_n (lv' := [(2, .int (nI 0)), (1, .int ((-5))), (0, .ref d0)]) hx hb dX6_longest_4 rfl hl (by decide) rfl (fun ls hl => ?_)
  refine lv_iconst (v := nI 0) hx hb dX6_longest_5 (by decide) ?_
  refine lv_istore_n (lv' := [(3, .int (nI 0)), (2, .int (nI 0)), (1, .int ((-5))), (0, .ref d0)]) hx hb dX6_longest_6 rfl hl (by decide) rfl (fun ls hl => ?_)
  have LP_7 : ∀ (k_7 : Nat) (i : Nat) (x : Nat) (y : Nat) (v : Int32) (H : Heap) (locs : List Loc) (ls : Array Slot), 8 - i = k_7 → (i ≤ 8) → (v = lonI x) → (lonP a i = (x, y)) → (y ≤ 32) → va_P D vwCl [] H → va_D A [] → va_S A s.heap H locs → lv_has ls 4 [(0, .ref d0), (1, .int v), (2, .int (nI y)), (3, .int (nI i))] → W p l e rm_X6_longest s m args below meth c H locs 0 0 Q (F0 m 7 ls []) := by
    refine sind (fun k_7 ih_7 => ?_)
    intro i x y v H locs ls hk_7 hi hv_ hp_ hy_ hP hD hS hl
    refine lv_iload_n hx hb dX6_longest_7 rfl (lv_at hl 3 rfl) ?_
    refine lv_bipush (v := nI 8) hx hb dX6_longest_8 (by decide) ?_
    refine nv_icmp_ge (tgt := 42) hx hb dX6_longest_10 (by decide) (by omega) (by decide) (fun c_10 => ?_) (fun c_10 => ?_)
    · refine lv_iload_n hx hb dX6_longest_42 rfl (lv_at hl 1 rfl) ?_
      refine tope (y := sLon a) (by rw [sLon, show lonP a 8 = (x, y) from by rw [← hp_, show i = 8 by omega]]; exact hv_) ?_
      exact RET _ _ _ _ _ () dX6_longest_43 rfl rfl hP hS
    · have hl1 := hV.l c_10
      refine lv_aload_n hx hb dX6_longest_13 rfl (lv_at hl 0 rfl) ?_
      refine va_get (D := D) (cl := vwCl) (ci := 6) (v := .ref h0) (C := RX6) (T := TX6) (N := 8) hx hb hts inf_X6_longest_X6 hown hK.1 (hR.at hS) 0 rfl rfl 0 (by decide) (hts _ (List.mem_of_getElem? (i := 1) rfl)) (fun _ h9 => h9) rfl dX6_longest_14 ?_
      refine lv_iload_n hx hb dX6_longest_17 rfl (lv_at hl 3 rfl) ?_
      refine call_r (q := (RX4, TX4, 1)) (As := [.int (nI i)]) (rest := []) F (c_X4_lengthOf l D cA h0 h1 h2 a i (by omega)) (cwV 1 hts gX6_longest_X4_lengthOf rfl rfl rfl ydv_X4_lengthOf ⟨Nat.le_of_ble_eq_true rfl, Nat.le_of_ble_eq_true rfl⟩) hK hR hP hD hA hS [1, 2, 3] rfl rfl 1 4 rfl rfl rfl hl.1 rfl (Nat.le_of_ble_eq_true rfl) dX6_longest_18 ⟨Nat.zero_le _, Nat.zero_le _⟩ (fun H locs hP hS => ?_)
      refine lv_iload_n hx hb dX6_longest_21 rfl (lv_at hl 2 rfl) ?_
      refine nv_icmp_le (tgt := 36) hx hb dX6_longest_22 (by decide) (by omega) (by omega) (fun c_22 => ?_) (fun c_22 => ?_)
      · refine lv_iinc (v := nI (i + 1)) (lv' := [(3, .int (nI (i + 1))), (0, .ref d0), (1, .int v), (2, .int (nI y))]) hx hb dX6_longest_36 hl (k := 3) rfl (nI_add _ _) (by decide) rfl (fun ls hl => ?_)
        refine lv_goto (tgt := 7) hx hb dX6_longest_39 (by decide) ?_
        exact ih_7 _ (by omega) (i + 1) x y v _ _ _ rfl (by omega) (hv_) (by rw [lonP_s hp_]; first | rw [if_pos c_22] | rw [if_neg (by omega)]) (by omega) hP hD hS (lv_sub hl [1, 2, 3, 0] rfl)
      · refine lv_aload_n hx hb dX6_longest_25 rfl (lv_at hl 0 rfl) ?_
        refine va_get (D := D) (cl := vwCl) (ci := 6) (v := .ref h0) (C := RX6) (T := TX6) (N := 8) hx hb hts inf_X6_longest_X6 hown hK.1 (hR.at hS) 0 rfl rfl 0 (by decide) (hts _ (List.mem_of_getElem? (i := 1) rfl)) (fun _ h9 => h9) rfl dX6_longest_26 ?_
        refine lv_iload_n hx hb dX6_longest_29 rfl (lv_at hl 3 rfl) ?_
        refine call_r (q := (RX4, TX4, 1)) (As := [.int (nI i)]) (rest := []) F (c_X4_lengthOf l D cA h0 h1 h2 a i (by omega)) (cwV 1 hts gX6_longest_X4_lengthOf rfl rfl rfl ydv_X4_lengthOf ⟨Nat.le_of_ble_eq_true rfl, Nat.le_of_ble_eq_true rfl⟩) hK hR hP hD hA hS [1, 2, 3] rfl rfl 1 4 rfl rfl rfl hl.1 rfl (Nat.le_of_ble_eq_true rfl) dX6_longest_30 ⟨Nat.zero_le _, Nat.zero_le _⟩ (fun H locs hP hS => ?_)
        refine lv_istore_n (lv' := [(2, .int (nI (ln a i))), (0, .ref d0), (1, .int v), (3, .int (nI i))]) hx hb dX6_longest_33 rfl hl (by decide) rfl (fun ls hl => ?_)
        refine lv_iload_n hx hb dX6_longest_34 rfl (lv_at hl 3 rfl) ?_
        refine lv_istore_n (lv' := [(1, .int (nI i)), (2, .int (nI (ln a i))), (0, .ref d0), (3, .int (nI i))]) hx hb dX6_longest_35 rfl hl (by decide) rfl (fun ls hl => ?_)
        refine lv_iinc (v := nI (i + 1)) (lv' := [(3, .int (nI (i + 1))), (1, .int (nI i)), (2, .int (nI (ln a i))), (0, .ref d0)]) hx hb dX6_longest_36 hl (k := 3) rfl (nI_add _ _) (by decide) rfl (fun ls hl => ?_)
        refine lv_goto (tgt := 7) hx hb dX6_longest_39 (by decide) ?_
        exact ih_7 _ (by omega) (i + 1) i (ln a i) (nI i) _ _ _ rfl (by omega) ((lonI_n (by omega)).symm) (by rw [lonP_s hp_]; first | rw [if_pos c_22] | rw [if_neg (by omega)]) (by omega) hP hD hS (lv_sub hl [3, 1, 2, 0] rfl)
  exact LP_7 _ 0 8 0 ((-5)) _ _ _ rfl (by omega) (rfl) (rfl) (by decide) hP hD hS (lv_sub hl [3, 2, 1, 0] rfl)
abbrev rm_X6_count : Room := { frames := 5, cells := 0, slots := 0, locals := 113 }
theorem ydv_X6_count : yX6_count.cls = RX6 ∧ yX6_count.cls ≠ "java/lang/invoke/MethodHandle" ∧ yX6_count.cls ≠ "java/lang/invoke/VarHandle" ∧ (parseMethodDescriptor yX6_count.desc).map (fun d => d.parameters.length) = some 1 := by decide +kernel
theorem inf_X6_count_X6 : ∀ w ∈ wsX60, w ∈ wsX6_count := fun w h => List.mem_cons_of_mem _ (List.mem_append_left _ (List.mem_append_left _ (List.mem_append_left _ (List.mem_append_left _ (List.mem_append_left _ (List.mem_append_right _ (h)))))))
set_option maxHeartbeats 4000000 in
set_option maxRecDepth 100000 in
theorem c_X6_count (l : Launch) (D : va_G) (cA : ClassId) (d0 h0 k0 q0 c0 t0 s0 b0 : Nat) (fs : List Value) (c1 o r t1 z : Nat) (h1 h2 : Nat) (a : Nat → Nat) (w : Int32) (hV : Vd a) (hr_ : r ≤ 4) (hz : z ≤ 80) : RO l D cA yX6_count wsX6_count rm_X6_count [.ref d0, .int w] [(d0, .inr (6, .ref h0 :: .ref k0 :: .ref q0 :: .ref c0 :: .ref t0 :: .ref s0 :: .ref b0 :: fs)), (h0, .inr (4, [.ref h1])), (h1, .inr (3, [.ref h2])), (h2, .inl (cA, 286, .inl (nF a))), (k0, .inr (2, [.ref h0])), (c0, .inr (1, [.ref c1, .int (nI o), .int (nI r)])), (t0, .inr (5, [.ref t1, .int (nI z)]))] (sCnt a r z w) := by
  refine ofWi (cc := cX6_count) (maxL := 2) (rt := .int) (by decide) rfl (Nat.le_of_ble_eq_true rfl) ?_
  intro p e s m args below meth c Q A ls F hK hR hP hD hA hS hl RET
  obtain ⟨hx, hb, hml, hown, hts⟩ := id F
  have hl : lv_has ls 2 [(0, .ref d0), (1, .int w)] := hl
  refine lv_iload_n hx hb dX6_count_0 rfl (lv_at hl 1 rfl) ?_
  rcases sw_10 w with rfl | rfl | rfl | rfl | rfl | rfl | rfl | rfl | rfl | rfl | c_1
  · refine lv_tableIn (tgt := 56) hx hb dX6_count_1 (by decide) (by decide) rfl (by decide) ?_
    refine lv_aload_n hx hb dX6_count_56 rfl (lv_at hl 0 rfl) ?_
    refine va_get (D := D) (cl := vwCl) (ci := 6) (v := .ref k0) (C := RX6) (T := TX6) (N := 8) hx hb hts inf_X6_count_X6 hown hK.1 (hR.at hS) 0 rfl rfl 1 (by decide) (hts _ (List.mem_of_getElem? (i := 1) rfl)) (fun _ h9 => h9) rfl dX6_count_57 ?_
    refine call_r (q := (RX2, TX2, 1)) (As := []) (rest := []) F (c_X2_garlands l D cA k0 h0 h1 h2 a (hV)) (cwV 0 hts gX6_count_X2_garlands rfl rfl rfl ydv_X2_garlands ⟨Nat.le_of_ble_eq_true rfl, Nat.le_of_ble_eq_true rfl⟩) hK hR hP hD hA hS [4, 1, 2, 3] rfl rfl 4 2 rfl rfl rfl hl.1 rfl (Nat.le_of_ble_eq_true rfl) dX6_count_60 ⟨Nat.zero_le _, Nat.zero_le _⟩ (fun H locs hP hS => ?_)
    refine tope (y := sCnt a r z (nI 0)) (by simp [sCnt, swN_0]) ?_
    exact RET _ _ _ _ _ () dX6_count_63 rfl rfl hP hS
  · refine lv_tableIn (tgt := 64) hx hb dX6_count_1 (by decide) (by decide) rfl (by decide) ?_
    refine lv_aload_n hx hb dX6_count_64 rfl (lv_at hl 0 rfl) ?_
    refine va_get (D := D) (cl := vwCl) (ci := 6) (v := .ref k0) (C := RX6) (T := TX6) (N := 8) hx hb hts inf_X6_count_X6 hown hK.1 (hR.at hS) 0 rfl rfl 1 (by decide) (hts _ (List.mem_of_getElem? (i := 1) rfl)) (fun _ h9 => h9) rfl dX6_count_65 ?_
    refine call_r (q := (RX2, TX2, 1)) (As := []) (rest := []) F (c_X2_dolls l D cA k0 h0 h1 h2 a (hV)) (cwV 0 hts gX6_count_X2_dolls rfl rfl rfl ydv_X2_dolls ⟨Nat.le_of_ble_eq_true rfl, Nat.le_of_ble_eq_true rfl⟩) hK hR hP hD hA hS [4, 1, 2, 3] rfl rfl 4 2 rfl rfl rfl hl.1 rfl (Nat.le_of_ble_eq_true rfl) dX6_count_68 ⟨Nat.zero_le _, Nat.zero_le _⟩ (fun H locs hP hS => ?_)
    refine tope (y := sCnt a r z (nI 1)) (by simp [sCnt, swN_1]) ?_
    exact RET _ _ _ _ _ () dX6_count_71 rfl rfl hP hS
  · refine lv_tableIn (tgt := 72) hx hb dX6_count_1 (by decide) (by decide) rfl (by decide) ?_
    refine lv_aload_n hx hb dX6_count_72 rfl (lv_at hl 0 rfl) ?_
    refine va_get (D := D) (cl := vwCl) (ci := 6) (v := .ref k0) (C := RX6) (T := TX6) (N := 8) hx hb hts inf_X6_count_X6 hown hK.1 (hR.at hS) 0 rfl rfl 1 (by decide) (hts _ (List.mem_of_getElem? (i := 1) rfl)) (fun _ h9 => h9) rfl dX6_count_73 ?_
    refine call_r (q := (RX2, TX2, 1)) (As := []) (rest := []) F (c_X2_mirroredDolls l D cA k0 h0 h1 h2 a (hV)) (cwV 0 hts gX6_count_X2_mirroredDolls rfl rfl rfl ydv_X2_mirroredDolls ⟨Nat.le_of_ble_eq_true rfl, Nat.le_of_ble_eq_true rfl⟩) hK hR hP hD hA hS [4, 1, 2, 3] rfl rfl 4 2 rfl rfl rfl hl.1 rfl (Nat.le_of_ble_eq_true rfl) dX6_count_76 ⟨Nat.zero_le _, Nat.zero_le _⟩ (fun H locs hP hS => ?_)
    refine tope (y := sCnt a r z (nI 2)) (by simp [sCnt, swN_2]) ?_
    exact RET _ _ _ _ _ () dX6_count_79 rfl rfl hP hS
  · refine lv_tableIn (tgt := 80) hx hb dX6_count_1 (by decide) (by decide) rfl (by decide) ?_
    refine lv_aload_n hx hb dX6_count_80 rfl (lv_at hl 0 rfl) ?_
    refine va_get (D := D) (cl := vwCl) (ci := 6) (v := .ref k0) (C := RX6) (T := TX6) (N := 8) hx hb hts inf_X6_count_X6 hown hK.1 (hR.at hS) 0 rfl rfl 1 (by decide) (hts _ (List.mem_of_getElem? (i := 1) rfl)) (fun _ h9 => h9) rfl dX6_count_81 ?_
    refine call_r (q := (RX2, TX2, 1)) (As := []) (rest := []) F (c_X2_ownMirrors l D cA k0 h0 h1 h2 a (hV)) (cwV 0 hts gX6_count_X2_ownMirrors rfl rfl rfl ydv_X2_ownMirrors ⟨Nat.le_of_ble_eq_true rfl, Nat.le_of_ble_eq_true rfl⟩) hK hR hP hD hA hS [4, 1, 2, 3] rfl rfl 4 2 rfl rfl rfl hl.1 rfl (Nat.le_of_ble_eq_true rfl) dX6_count_84 ⟨Nat.zero_le _, Nat.zero_le _⟩ (fun H locs hP hS => ?_)
    refine tope (y := sCnt a r z (nI 3)) (by simp [sCnt, swN_3]) ?_
    exact RET _ _ _ _ _ () dX6_count_87 rfl rfl hP hS
  · refine lv_tableIn (tgt := 88) hx hb dX6_count_1 (by decide) (by decide) rfl (by decide) ?_
    refine lv_aload_n hx hb dX6_count_88 rfl (lv_at hl 0 rfl) ?_
    refine va_get (D := D) (cl := vwCl) (ci := 6) (v := .ref h0) (C := RX6) (T := TX6) (N := 8) hx hb hts inf_X6_count_X6 hown hK.1 (hR.at hS) 0 rfl rfl 0 (by decide) (hts _ (List.mem_of_getElem? (i := 2) rfl)) (fun _ h9 => h9) rfl dX6_count_89 ?_
    refine call_r (q := (RX4, TX4, 1)) (As := []) (rest := []) F (c_X4_ruleNow l D cA h0 h1 h2 a) (cwV 0 hts gX6_count_X4_ruleNow rfl rfl rfl ydv_X4_ruleNow ⟨Nat.le_of_ble_eq_true rfl, Nat.le_of_ble_eq_true rfl⟩) hK hR hP hD hA hS [1, 2, 3] rfl rfl 1 4 rfl rfl rfl hl.1 rfl (Nat.le_of_ble_eq_true rfl) dX6_count_92 ⟨Nat.zero_le _, Nat.zero_le _⟩ (fun H locs hP hS => ?_)
    refine tope (y := sCnt a r z (nI 4)) (by simp [sCnt, swN_4]) ?_
    exact RET _ _ _ _ _ () dX6_count_95 rfl rfl hP hS
  · refine lv_tableIn (tgt := 96) hx hb dX6_count_1 (by decide) (by decide) rfl (by decide) ?_
    refine lv_aload_n hx hb dX6_count_96 rfl (lv_at hl 0 rfl) ?_
    refine va_get (D := D) (cl := vwCl) (ci := 6) (v := .ref h0) (C := RX6) (T := TX6) (N := 8) hx hb hts inf_X6_count_X6 hown hK.1 (hR.at hS) 0 rfl rfl 0 (by decide) (hts _ (List.mem_of_getElem? (i := 2) rfl)) (fun _ h9 => h9) rfl dX6_count_97 ?_
    refine call_r (q := (RX4, TX4, 1)) (As := []) (rest := []) F (c_X4_kindsNow l D cA h0 h1 h2 a) (cwV 0 hts gX6_count_X4_kindsNow rfl rfl rfl ydv_X4_kindsNow ⟨Nat.le_of_ble_eq_true rfl, Nat.le_of_ble_eq_true rfl⟩) hK hR hP hD hA hS [1, 2, 3] rfl rfl 1 4 rfl rfl rfl hl.1 rfl (Nat.le_of_ble_eq_true rfl) dX6_count_100 ⟨Nat.zero_le _, Nat.zero_le _⟩ (fun H locs hP hS => ?_)
    refine tope (y := sCnt a r z (nI 5)) (by simp [sCnt, swN_5]) ?_
    exact RET _ _ _ _ _ () dX6_count_103 rfl rfl hP hS
  · refine lv_tableIn (tgt := 104) hx hb dX6_count_1 (by decide) (by decide) rfl (by decide) ?_
    refine lv_aload_n hx hb dX6_count_104 rfl (lv_at hl 0 rfl) ?_
    refine va_get (D := D) (cl := vwCl) (ci := 6) (v := .ref k0) (C := RX6) (T := TX6) (N := 8) hx hb hts inf_X6_count_X6 hown hK.1 (hR.at hS) 0 rfl rfl 1 (by decide) (hts _ (List.mem_of_getElem? (i := 1) rfl)) (fun _ h9 => h9) rfl dX6_count_105 ?_
    refine call_r (q := (RX2, TX2, 1)) (As := []) (rest := []) F (c_X2_handsThatMeet l D cA k0 h0 h1 h2 a (hV)) (cwV 0 hts gX6_count_X2_handsThatMeet rfl rfl rfl ydv_X2_handsThatMeet ⟨Nat.le_of_ble_eq_true rfl, Nat.le_of_ble_eq_true rfl⟩) hK hR hP hD hA hS [4, 1, 2, 3] rfl rfl 4 2 rfl rfl rfl hl.1 rfl (Nat.le_of_ble_eq_true rfl) dX6_count_108 ⟨Nat.zero_le _, Nat.zero_le _⟩ (fun H locs hP hS => ?_)
    refine tope (y := sCnt a r z (nI 6)) (by simp [sCnt, swN_6]) ?_
    exact RET _ _ _ _ _ () dX6_count_111 rfl rfl hP hS
  · refine lv_tableIn (tgt := 112) hx hb dX6_count_1 (by decide) (by decide) rfl (by decide) ?_
    refine lv_aload_n hx hb dX6_count_112 rfl (lv_at hl 0 rfl) ?_
    refine va_get (D := D) (cl := vwCl) (ci := 6) (v := .ref k0) (C := RX6) (T := TX6) (N := 8) hx hb hts inf_X6_count_X6 hown hK.1 (hR.at hS) 0 rfl rfl 1 (by decide) (hts _ (List.mem_of_getElem? (i := 1) rfl)) (fun _ h9 => h9) rfl dX6_count_113 ?_
    refine call_r (q := (RX2, TX2, 1)) (As := []) (rest := []) F (c_X2_differentGarlands l D cA k0 h0 h1 h2 a (hV)) (cwV 0 hts gX6_count_X2_differentGarlands rfl rfl rfl ydv_X2_differentGarlands ⟨Nat.le_of_ble_eq_true rfl, Nat.le_of_ble_eq_true rfl⟩) hK hR hP hD hA hS [4, 1, 2, 3] rfl rfl 4 2 rfl rfl rfl hl.1 rfl (Nat.le_of_ble_eq_true rfl) dX6_count_116 ⟨Nat.zero_le _, Nat.zero_le _⟩ (fun H locs hP hS => ?_)
    refine tope (y := sCnt a r z (nI 7)) (by simp [sCnt, swN_7]) ?_
    exact RET _ _ _ _ _ () dX6_count_119 rfl rfl hP hS
  · refine lv_tableIn (tgt := 120) hx hb dX6_count_1 (by decide) (by decide) rfl (by decide) ?_
    refine lv_aload_n hx hb dX6_count_120 rfl (lv_at hl 0 rfl) ?_
    refine va_get (D := D) (cl := vwCl) (ci := 6) (v := .ref c0) (C := RX6) (T := TX6) (N := 8) hx hb hts inf_X6_count_X6 hown hK.1 (hR.at hS) 0 rfl rfl 3 (by decide) (hts _ (List.mem_of_getElem? (i := 3) rfl)) (fun _ h9 => h9) rfl dX6_count_121 ?_
    refine call_r (q := (RX1, TX1, 3)) (As := []) (rest := []) F (c_X1_size l D cA c0 c1 o r) (cwV 0 hts gX6_count_X1_size rfl rfl rfl ydv_X1_size ⟨Nat.le_of_ble_eq_true rfl, Nat.le_of_ble_eq_true rfl⟩) hK hR hP hD hA hS [5] rfl rfl 5 1 rfl rfl rfl hl.1 rfl (Nat.le_of_ble_eq_true rfl) dX6_count_124 ⟨Nat.zero_le _, Nat.zero_le _⟩ (fun H locs hP hS => ?_)
    refine tope (y := sCnt a r z (nI 8)) (by simp [sCnt, swN_8]) ?_
    exact RET _ _ _ _ _ () dX6_count_127 rfl rfl hP hS
  · refine lv_tableIn (tgt := 128) hx hb dX6_count_1 (by decide) (by decide) rfl (by decide) ?_
    refine lv_aload_n hx hb dX6_count_128 rfl (lv_at hl 0 rfl) ?_
    refine va_get (D := D) (cl := vwCl) (ci := 6) (v := .ref t0) (C := RX6) (T := TX6) (N := 8) hx hb hts inf_X6_count_X6 hown hK.1 (hR.at hS) 0 rfl rfl 4 (by decide) (hts _ (List.mem_of_getElem? (i := 4) rfl)) (fun _ h9 => h9) rfl dX6_count_129 ?_
    refine call_r (q := (RX5, TX5, 2)) (As := []) (rest := []) F (c_X5_size l D cA t0 t1 z) (cwV 0 hts gX6_count_X5_size rfl rfl rfl ydv_X5_size ⟨Nat.le_of_ble_eq_true rfl, Nat.le_of_ble_eq_true rfl⟩) hK hR hP hD hA hS [6] rfl rfl 6 5 rfl rfl rfl hl.1 rfl (Nat.le_of_ble_eq_true rfl) dX6_count_132 ⟨Nat.zero_le _, Nat.zero_le _⟩ (fun H locs hP hS => ?_)
    refine tope (y := sCnt a r z (nI 9)) (by simp [sCnt, swN_9]) ?_
    exact RET _ _ _ _ _ () dX6_count_135 rfl rfl hP hS
  · refine lv_tableOut (tgt := 136) hx hb dX6_count_1 c_1 (by decide) ?_
    refine lv_bipush (v := -2) hx hb dX6_count_136 (by decide) ?_
    refine tope (y := sCnt a r z w) (by have h9_ := swN_ge (n := 9) (by decide) c_1; rw [sCnt]; repeat (rw [if_neg (by omega)])) ?_
    exact RET _ _ _ _ _ () dX6_count_138 rfl rfl hP hS
