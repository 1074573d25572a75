/-! laid by a program: contracts of X6_setHands, X6_setRule, X6_setKinds, X6_cutDoll, X6_join, X6_cutApart, X6_turn, X6_fold, X6_takeAway -/
abbrev rm_X6_setHands : Room := { frames := 5, cells := 0, slots := 0, locals := 112 }
theorem ydv_X6_setHands : yX6_setHands.cls = RX6 ∧ yX6_setHands.cls ≠ "java/lang/invoke/MethodHandle" ∧ yX6_setHands.cls ≠ "java/lang/invoke/VarHandle" ∧ (parseMethodDescriptor yX6_setHands.desc).map (fun d => d.parameters.length) = some 3 := by decide +kernel
theorem inf_X6_setHands_X6 : ∀ w ∈ wsX60, w ∈ wsX6_setHands := fun w h => List.mem_cons_of_mem _ (List.mem_append_left _ (List.mem_append_left _ (List.mem_append_left _ (List.mem_append_right _ (h)))))
set_option maxHeartbeats 4000000 in
set_option maxRecDepth 100000 in
theorem c_X6_setHands (l : Launch) (D : va_G) (cA : ClassId) (d0 h0 k0 q0 c0 t0 s0 b0 : Nat) (fs : List Value) (c1 c2 : Nat) (o r : Nat) (hs : Nat → Nat) (h1 h2 : Nat) (a : Nat → Nat)  (x u v : Int32) (ho : o < 4) (hr_ : r ≤ 4) (hV : Vd a) : MI l D cA yX6_setHands wsX6_setHands rm_X6_setHands [.ref d0, .int x, .int u, .int v] [(d0, .inr (6, .ref h0 :: .ref k0 :: .ref q0 :: .ref c0 :: .ref t0 :: .ref s0 :: .ref b0 :: fs)), (c1, .inr (3, [.ref c2])), (h0, .inr (4, [.ref h1])), (h1, .inr (3, [.ref h2]))] [(c0, .inr (1, [.ref c1, .int (nI o), .int (nI r)])), (c2, .inl (cA, 1144, .inl (nF hs))), (h2, .inl (cA, 286, .inl (nF a)))] (S := (Nat) × (Nat) × (Nat → Nat) × (Nat → Nat)) (fun rr_ (uu_ : (Nat) × (Nat) × (Nat → Nat) × (Nat → Nat)) => rr_ = (aHands a x u v).1 ∧ (ActC a hs o r (aHands a x u v).2 uu_.1 uu_.2.1 uu_.2.2.1 uu_.2.2.2)) (fun (uu_ : (Nat) × (Nat) × (Nat → Nat) × (Nat → Nat)) => [(c0, .inr (1, [.ref c1, .int (nI uu_.1), .int (nI uu_.2.1)])), (c2, .inl (cA, 1144, .inl (nF uu_.2.2.1))), (h2, .inl (cA, 286, .inl (nF uu_.2.2.2)))]) := by
  refine ofWi (cc := cX6_setHands) (maxL := 7) (rt := .int) (by decide) rfl (Nat.le_of_ble_eq_true rfl) ?_
  intro p e s m args below meth c Q A ls F hK hR hP hD hA hS hl RET
  obtain ⟨hx, hb, hml, hown, hts⟩ := id F
  have hl : lv_has ls 7 [(0, .ref d0), (1, .int x), (2, .int u), (3, .int v)] := hl
  refine lv_aload_n hx hb dX6_setHands_0 rfl (lv_at hl 0 rfl) ?_
  refine va_get (D := D) (cl := vwCl) (ci := 6) (v := .ref h0) (C := RX6) (T := TX6) (N := 8) hx hb hts inf_X6_setHands_X6 hown hK.1 (hR.at hS) 0 rfl rfl 0 (by decide) (hts _ (List.mem_of_getElem? (i := 1) rfl)) (fun _ h9 => h9) rfl dX6_setHands_1 ?_
  refine lv_iload_n hx hb dX6_setHands_4 rfl (lv_at hl 1 rfl) ?_
  refine call_r (q := (RX4, TX4, 1)) (As := [.int x]) (rest := []) F (c_X4_hasKind l D cA h0 h1 h2 a x (by have := hV.k; omega)) (cwV 1 hts gX6_setHands_X4_hasKind rfl rfl rfl ydv_X4_hasKind ⟨Nat.le_of_ble_eq_true rfl, Nat.le_of_ble_eq_true rfl⟩) hK hR hP hD hA hS [2, 3, 6] rfl rfl 2 4 rfl rfl rfl hl.1 rfl (Nat.le_of_ble_eq_true rfl) dX6_setHands_5 ⟨Nat.zero_le _, Nat.zero_le _⟩ (fun H locs hP hS => ?_)
  refine bv_if_ne (tgt := 13) hx hb dX6_setHands_8 (by decide) (fun c_8 => ?_) (fun c_8 => ?_)
  · have hk_ := hV.k
    obtain ⟨k, hk, rfl⟩ := isB_t (by omega) c_8
    have hcx : cN (nI k) = k := cN_nI (by omega)
    refine lv_iload_n hx hb dX6_setHands_13 rfl (lv_at hl 2 rfl) ?_
    refine lv_bipush (v := nI 6) hx hb dX6_setHands_14 (by decide) ?_
    refine call_s (As := [.int u, .int (nI 6)]) (rest := []) F (c_X6_isBelow l D cA u 6 (by omega)) (va_cwS 2 hts gX6_setHands_X6_isBelow rfl rfl rfl yd_X6_isBelow ⟨Nat.le_of_ble_eq_true rfl, Nat.le_of_ble_eq_true rfl⟩) hK hR hP hD hA hS rfl hl.1 rfl (Nat.le_of_ble_eq_true rfl) dX6_setHands_16 ⟨Nat.zero_le _, Nat.zero_le _⟩ (fun H locs hP hS => ?_)
    refine bv_if_eq (tgt := 31) hx hb dX6_setHands_19 (by decide) (fun c_19 => ?_) (fun c_19 => ?_)
    · refine lv_bipush (v := -2) hx hb dX6_setHands_31 (by decide) ?_
      have hE : aHands a (nI k) u v = ((-2), none) := by first | (simp only [aHands, hcx]; simp [c_8, c_19]; done) | (simp only [aHands, hcx]; simp [c_8, c_19]; omega)
      refine tope (y := (aHands a (nI k) u v).1) (by rw [hE]) ?_
      exact RET _ _ _ _ _ (o, r, hs, a) dX6_setHands_33 rfl ⟨rfl, (by rw [hE]; exact ⟨rfl, rfl, rfl, rfl⟩)⟩ hP hS
    · refine lv_iload_n hx hb dX6_setHands_22 rfl (lv_at hl 3 rfl) ?_
      refine lv_bipush (v := nI 6) hx hb dX6_setHands_23 (by decide) ?_
      refine call_s (As := [.int v, .int (nI 6)]) (rest := []) F (c_X6_isBelow l D cA v 6 (by omega)) (va_cwS 2 hts gX6_setHands_X6_isBelow rfl rfl rfl yd_X6_isBelow ⟨Nat.le_of_ble_eq_true rfl, Nat.le_of_ble_eq_true rfl⟩) hK hR hP hD hA hS rfl hl.1 rfl (Nat.le_of_ble_eq_true rfl) dX6_setHands_25 ⟨Nat.zero_le _, Nat.zero_le _⟩ (fun H locs hP hS => ?_)
      refine bv_if_ne (tgt := 34) hx hb dX6_setHands_28 (by decide) (fun c_28 => ?_) (fun c_28 => ?_)
      · obtain ⟨u_, hu, rfl⟩ := isB_t (by decide) c_19
        have hcu : cN (nI u_) = u_ := cN_nI (by omega)
        obtain ⟨v_, hv, rfl⟩ := isB_t (by decide) c_28
        have hcv : cN (nI v_) = v_ := cN_nI (by omega)
        have hb1_ := hV.h (k := k) (by omega)
        have hb2_ := hV.h (k := 10 + k) (by omega)
        rw [show 2 + (10 + k) = 12 + k by omega] at hb2_
        refine lv_aload_n hx hb dX6_setHands_34 rfl (lv_at hl 0 rfl) ?_
        refine va_get (D := D) (cl := vwCl) (ci := 6) (v := .ref h0) (C := RX6) (T := TX6) (N := 8) hx hb hts inf_X6_setHands_X6 hown hK.1 (hR.at hS) 0 rfl rfl 0 (by decide) (hts _ (List.mem_of_getElem? (i := 1) rfl)) (fun _ h9 => h9) rfl dX6_setHands_35 ?_
        refine lv_iload_n hx hb dX6_setHands_38 rfl (lv_at hl 1 rfl) ?_
        refine call_r (q := (RX4, TX4, 1)) (As := [.int (nI k)]) (rest := []) F (c_X4_leftHand l D cA h0 h1 h2 a k (by omega)) (cwV 1 hts gX6_setHands_X4_leftHand rfl rfl rfl ydv_X4_leftHand ⟨Nat.le_of_ble_eq_true rfl, Nat.le_of_ble_eq_true rfl⟩) hK hR hP hD hA hS [2, 3, 6] rfl rfl 2 4 rfl rfl rfl hl.1 rfl (Nat.le_of_ble_eq_true rfl) dX6_setHands_39 ⟨Nat.zero_le _, Nat.zero_le _⟩ (fun H locs hP hS => ?_)
        refine lv_istore (lv' := [(4, .int (nI (a (2 + k)))), (0, .ref d0), (1, .int (nI k)), (2, .int (nI u_)), (3, .int (nI v_))]) hx hb dX6_setHands_42 hl (by decide) rfl (fun ls hl => ?_)
        refine lv_aload_n hx hb dX6_setHands_44 rfl (lv_at hl 1 rfl) ?_
        refine va_get (D := D) (cl := vwCl) (ci := 6) (v := .ref h0) (C := RX6) (T := TX6) (N := 8) hx hb hts inf_X6_setHands_X6 hown hK.1 (hR.at hS) 0 rfl rfl 0 (by decide) (hts _ (List.mem_of_getElem? (i := 1) rfl)) (fun _ h9 => h9) rfl dX6_setHands_45 ?_
        refine lv_iload_n hx hb dX6_setHands_48 rfl (lv_at hl 2 rfl) ?_
        refine call_r (q := (RX4, TX4, 1)) (As := [.int (nI k)]) (rest := []) F (c_X4_rightHand l D cA h0 h1 h2 a k (by omega)) (cwV 1 hts gX6_setHands_X4_rightHand rfl rfl rfl ydv_X4_rightHand ⟨Nat.le_of_ble_eq_true rfl, Nat.le_of_ble_eq_true rfl⟩) hK hR hP hD hA hS [2, 3, 6] rfl rfl 2 4 rfl rfl rfl hl.1 rfl (Nat.le_of_ble_eq_true rfl) dX6_setHands_49 ⟨Nat.zero_le _, Nat.zero_le _⟩ (fun H locs hP hS => ?_)
        refine lv_istore (lv' := [(5, .int (nI (a (12 + k)))), (4, .int (nI (a (2 + k)))), (0, .ref d0), (1, .int (nI k)), (2, .int (nI u_)), (3, .int (nI v_))]) hx hb dX6_setHands_52 hl (by decide) rfl (fun ls hl => ?_)
        refine lv_aload_n hx hb dX6_setHands_54 rfl (lv_at hl 2 rfl) ?_
        refine va_get (D := D) (cl := vwCl) (ci := 6) (v := .ref h0) (C := RX6) (T := TX6) (N := 8) hx hb hts inf_X6_setHands_X6 hown hK.1 (hR.at hS) 0 rfl rfl 0 (by decide) (hts _ (List.mem_of_getElem? (i := 1) rfl)) (fun _ h9 => h9) rfl dX6_setHands_55 ?_
        refine lv_iload_n hx hb dX6_setHands_58 rfl (lv_at hl 3 rfl) ?_
        refine lv_iload_n hx hb dX6_setHands_59 rfl (lv_at hl 4 rfl) ?_
        refine lv_iload_n hx hb dX6_setHands_60 rfl (lv_at hl 5 rfl) ?_
        refine call_v (q := (RX4, TX4, 1)) (As := [.int (nI k), .int (nI u_), .int (nI v_)]) (rest := []) F (c_X4_putHands l D cA h0 h1 h2 a k u_ v_ (by omega)) (cwV 3 hts gX6_setHands_X4_putHands rfl rfl rfl ydv_X4_putHands ⟨Nat.le_of_ble_eq_true rfl, Nat.le_of_ble_eq_true rfl⟩) hK hR hP hD hA hS [2, 3, 6] [2] rfl rfl rfl 2 4 rfl rfl (fun _ => rfl) rfl hl.1 rfl (Nat.le_of_ble_eq_true rfl) dX6_setHands_61 ⟨Nat.zero_le _, Nat.zero_le _⟩ (fun u_61 H locs hw hP hD hS => ?_)
        have hP : va_P D vwCl [(c0, .inr (1, [.ref c1, .int (nI o), .int (nI r)])), (c2, .inl (cA, 1144, .inl (nF hs))), (h2, .inl (cA, 286, .inl (nF (updN (updN a (2 + k) u_) (12 + k) v_))))] H := hP
        have hD : va_D A [(c0, .inr (1, [.ref c1, .int (nI o), .int (nI r)])), (c2, .inl (cA, 1144, .inl (nF hs))), (h2, .inl (cA, 286, .inl (nF (updN (updN a (2 + k) u_) (12 + k) v_))))] := hD
        refine lv_aload_n hx hb dX6_setHands_64 rfl (lv_at hl 2 rfl) ?_
        refine va_get (D := D) (cl := vwCl) (ci := 6) (v := .ref h0) (C := RX6) (T := TX6) (N := 8) hx hb hts inf_X6_setHands_X6 hown hK.1 (hR.at hS) 0 rfl rfl 0 (by decide) (hts _ (List.mem_of_getElem? (i := 1) rfl)) (fun _ h9 => h9) rfl dX6_setHands_65 ?_
        refine call_r (q := (RX4, TX4, 1)) (As := []) (rest := []) F (c_X4_hasClash l D cA h0 h1 h2 (updN (updN a (2 + k) u_) (12 + k) v_) (Vd_hands hV (by omega) hu hv)) (cwV 0 hts gX6_setHands_X4_hasClash rfl rfl rfl ydv_X4_hasClash ⟨Nat.le_of_ble_eq_true rfl, Nat.le_of_ble_eq_true rfl⟩) hK hR hP hD hA hS [2, 3, 6] rfl rfl 2 4 rfl rfl rfl hl.1 rfl (Nat.le_of_ble_eq_true rfl) dX6_setHands_68 ⟨Nat.zero_le _, Nat.zero_le _⟩ (fun H locs hP hS => ?_)
        refine lv_istore (lv' := [(6, .int (bI (hasCl (updN (updN a (2 + k) u_) (12 + k) v_)))), (5, .int (nI (a (12 + k)))), (4, .int (nI (a (2 + k)))), (0, .ref d0), (1, .int (nI k)), (2, .int (nI u_)), (3, .int (nI v_))]) hx hb dX6_setHands_71 hl (by decide) rfl (fun ls hl => ?_)
        refine lv_aload_n hx hb dX6_setHands_73 rfl (lv_at hl 3 rfl) ?_
        refine va_get (D := D) (cl := vwCl) (ci := 6) (v := .ref h0) (C := RX6) (T := TX6) (N := 8) hx hb hts inf_X6_setHands_X6 hown hK.1 (hR.at hS) 0 rfl rfl 0 (by decide) (hts _ (List.mem_of_getElem? (i := 1) rfl)) (fun _ h9 => h9) rfl dX6_setHands_74 ?_
        refine lv_iload_n hx hb dX6_setHands_77 rfl (lv_at hl 4 rfl) ?_
        refine lv_iload hx hb dX6_setHands_78 (lv_at hl 2 rfl) ?_
        refine lv_iload hx hb dX6_setHands_80 (lv_at hl 1 rfl) ?_
        refine call_v (q := (RX4, TX4, 1)) (As := [.int (nI k), .int (nI (a (2 + k))), .int (nI (a (12 + k)))]) (rest := []) F (c_X4_putHands l D cA h0 h1 h2 (updN (updN a (2 + k) u_) (12 + k) v_) k (a (2 + k)) (a (12 + k)) (by omega)) (cwV 3 hts gX6_setHands_X4_putHands rfl rfl rfl ydv_X4_putHands ⟨Nat.le_of_ble_eq_true rfl, Nat.le_of_ble_eq_true rfl⟩) hK hR hP hD hA hS [2, 3, 6] [2] rfl rfl rfl 2 4 rfl rfl (fun _ => rfl) rfl hl.1 rfl (Nat.le_of_ble_eq_true rfl) dX6_setHands_82 ⟨Nat.zero_le _, Nat.zero_le _⟩ (fun u_82 H locs hw hP hD hS => ?_)
        have hP : va_P D vwCl [(c0, .inr (1, [.ref c1, .int (nI o), .int (nI r)])), (c2, .inl (cA, 1144, .inl (nF hs))), (h2, .inl (cA, 286, .inl (nF (updN (updN (updN (updN a (2 + k) u_) (12 + k) v_) (2 + k) (a (2 + k))) (12 + k) (a (12 + k))))))] H := hP
        have hD : va_D A [(c0, .inr (1, [.ref c1, .int (nI o), .int (nI r)])), (c2, .inl (cA, 1144, .inl (nF hs))), (h2, .inl (cA, 286, .inl (nF (updN (updN (updN (updN a (2 + k) u_) (12 + k) v_) (2 + k) (a (2 + k))) (12 + k) (a (12 + k))))))] := hD
        have hB_ := put_back (a := a) (i := 2 + k) (j := 12 + k) (u := u_) (v := v_)
        rw [hB_] at hP hD
        refine lv_iload hx hb dX6_setHands_85 (lv_at hl 0 rfl) ?_
        refine bv_if_eq (tgt := 93) hx hb dX6_setHands_87 (by decide) (fun c_87 => ?_) (fun c_87 => ?_)
        · refine lv_iload_n hx hb dX6_setHands_93 rfl (lv_at hl 5 rfl) ?_
          refine lv_iload hx hb dX6_setHands_94 (lv_at hl 2 rfl) ?_
          refine nv_icmp_ne (tgt := 108) hx hb dX6_setHands_96 (by decide) (by omega) (by omega) (fun c_96 => ?_) (fun c_96 => ?_)
          · refine lv_aload_n hx hb dX6_setHands_108 rfl (lv_at hl 3 rfl) ?_
            refine va_get (D := D) (cl := vwCl) (ci := 6) (v := .ref c0) (C := RX6) (T := TX6) (N := 8) hx hb hts inf_X6_setHands_X6 hown hK.1 (hR.at hS) 0 rfl rfl 3 (by decide) (hts _ (List.mem_of_getElem? (i := 2) rfl)) (fun _ h9 => h9) rfl dX6_setHands_109 ?_
            refine lv_aload_n hx hb dX6_setHands_112 rfl (lv_at hl 3 rfl) ?_
            refine va_get (D := D) (cl := vwCl) (ci := 6) (v := .ref h0) (C := RX6) (T := TX6) (N := 8) hx hb hts inf_X6_setHands_X6 hown hK.1 (hR.at hS) 0 rfl rfl 0 (by decide) (hts _ (List.mem_of_getElem? (i := 1) rfl)) (fun _ h9 => h9) rfl dX6_setHands_113 ?_
            refine call_v (q := (RX1, TX1, 3)) (As := [.ref h0]) (rest := []) F (c_X1_remember l D cA c0 c1 c2 o r hs h0 h1 h2 a (by omega) (by omega)) (cwV 1 hts gX6_setHands_X1_remember rfl rfl rfl ydv_X1_remember ⟨Nat.le_of_ble_eq_true rfl, Nat.le_of_ble_eq_true rfl⟩) hK hR hP hD hA hS [1, 2, 3, 4, 5, 6] [0, 1, 2] rfl rfl rfl 4 1 rfl rfl (fun _ => rfl) rfl hl.1 rfl (Nat.le_of_ble_eq_true rfl) dX6_setHands_116 ⟨Nat.zero_le _, Nat.zero_le _⟩ (fun u_116 H locs hw hP hD hS => ?_)
            have hP : va_P D vwCl [(c0, .inr (1, [.ref c1, .int (nI (hisO o r)), .int (nI (hisT r + 1))])), (c2, .inl (cA, 1144, .inl (nF (cpyN a hs 0 ((hisO o r + hisT r) % 4 * 286) 286)))), (h2, .inl (cA, 286, .inl (nF a)))] H := hP
            have hD : va_D A [(c0, .inr (1, [.ref c1, .int (nI (hisO o r)), .int (nI (hisT r + 1))])), (c2, .inl (cA, 1144, .inl (nF (cpyN a hs 0 ((hisO o r + hisT r) % 4 * 286) 286)))), (h2, .inl (cA, 286, .inl (nF a)))] := hD
            refine lv_aload_n hx hb dX6_setHands_119 rfl (lv_at hl 3 rfl) ?_
            refine va_get (D := D) (cl := vwCl) (ci := 6) (v := .ref h0) (C := RX6) (T := TX6) (N := 8) hx hb hts inf_X6_setHands_X6 hown hK.1 (hR.at hS) 0 rfl rfl 0 (by decide) (hts _ (List.mem_of_getElem? (i := 1) rfl)) (fun _ h9 => h9) rfl dX6_setHands_120 ?_
            refine lv_iload_n hx hb dX6_setHands_123 rfl (lv_at hl 4 rfl) ?_
            refine lv_iload_n hx hb dX6_setHands_124 rfl (lv_at hl 5 rfl) ?_
            refine lv_iload_n hx hb dX6_setHands_125 rfl (lv_at hl 6 rfl) ?_
            refine call_v (q := (RX4, TX4, 1)) (As := [.int (nI k), .int (nI u_), .int (nI v_)]) (rest := []) F (c_X4_putHands l D cA h0 h1 h2 a k u_ v_ (by omega)) (cwV 3 hts gX6_setHands_X4_putHands rfl rfl rfl ydv_X4_putHands ⟨Nat.le_of_ble_eq_true rfl, Nat.le_of_ble_eq_true rfl⟩) hK hR hP hD hA hS [2, 3, 6] [2] rfl rfl rfl 2 4 rfl rfl (fun _ => rfl) rfl hl.1 rfl (Nat.le_of_ble_eq_true rfl) dX6_setHands_126 ⟨Nat.zero_le _, Nat.zero_le _⟩ (fun u_126 H locs hw hP hD hS => ?_)
            have hP : va_P D vwCl [(c0, .inr (1, [.ref c1, .int (nI (hisO o r)), .int (nI (hisT r + 1))])), (c2, .inl (cA, 1144, .inl (nF (cpyN a hs 0 ((hisO o r + hisT r) % 4 * 286) 286)))), (h2, .inl (cA, 286, .inl (nF (updN (updN a (2 + k) u_) (12 + k) v_))))] H := hP
            have hD : va_D A [(c0, .inr (1, [.ref c1, .int (nI (hisO o r)), .int (nI (hisT r + 1))])), (c2, .inl (cA, 1144, .inl (nF (cpyN a hs 0 ((hisO o r + hisT r) % 4 * 286) 286)))), (h2, .inl (cA, 286, .inl (nF (updN (updN a (2 + k) u_) (12 + k) v_))))] := hD
            refine lv_bipush (v := nI 10) hx hb dX6_setHands_129 (by decide) ?_
            refine lv_iload hx hb dX6_setHands_131 (lv_at hl 2 rfl) ?_
            refine nv_imul hx hb dX6_setHands_133 ?_
            refine lv_iload hx hb dX6_setHands_134 (lv_at hl 1 rfl) ?_
            refine nv_iadd hx hb dX6_setHands_136 ?_
            have hE : aHands a (nI k) (nI u_) (nI v_) = (nI ((10 * (a (2 + k))) + (a (12 + k))), some (updN (updN a (2 + k) u_) (12 + k) v_)) := by first | (simp only [aHands, hcx, hcu, hcv]; simp [c_8, c_19, c_28, c_87, c_96]; done) | (simp only [aHands, hcx, hcu, hcv]; simp [c_8, c_19, c_28, c_87, c_96]; omega)
            refine tope (y := (aHands a (nI k) (nI u_) (nI v_)).1) (by rw [hE]) ?_
            exact RET _ _ _ _ _ (hisO o r, hisT r + 1, cpyN a hs 0 ((hisO o r + hisT r) % 4 * 286) 286, updN (updN a (2 + k) u_) (12 + k) v_) dX6_setHands_137 rfl ⟨rfl, (by rw [hE]; exact ⟨rfl, rfl, rfl, rfl⟩)⟩ hP hS
          · refine lv_iload_n hx hb dX6_setHands_99 rfl (lv_at hl 6 rfl) ?_
            refine lv_iload hx hb dX6_setHands_100 (lv_at hl 1 rfl) ?_
            refine nv_icmp_ne (tgt := 108) hx hb dX6_setHands_102 (by decide) (by omega) (by omega) (fun c_102 => ?_) (fun c_102 => ?_)
            · refine lv_aload_n hx hb dX6_setHands_108 rfl (lv_at hl 3 rfl) ?_
              refine va_get (D := D) (cl := vwCl) (ci := 6) (v := .ref c0) (C := RX6) (T := TX6) (N := 8) hx hb hts inf_X6_setHands_X6 hown hK.1 (hR.at hS) 0 rfl rfl 3 (by decide) (hts _ (List.mem_of_getElem? (i := 2) rfl)) (fun _ h9 => h9) rfl dX6_setHands_109 ?_
              refine lv_aload_n hx hb dX6_setHands_112 rfl (lv_at hl 3 rfl) ?_
              refine va_get (D := D) (cl := vwCl) (ci := 6) (v := .ref h0) (C := RX6) (T := TX6) (N := 8) hx hb hts inf_X6_setHands_X6 hown hK.1 (hR.at hS) 0 rfl rfl 0 (by decide) (hts _ (List.mem_of_getElem? (i := 1) rfl)) (fun _ h9 => h9) rfl dX6_setHands_113 ?_
              refine call_v (q := (RX1, TX1, 3)) (As := [.ref h0]) (rest := []) F (c_X1_remember l D cA c0 c1 c2 o r hs h0 h1 h2 a (by omega) (by omega)) (cwV 1 hts gX6_setHands_X1_remember rfl rfl rfl ydv_X1_remember ⟨Nat.le_of_ble_eq_true rfl, Nat.le_of_ble_eq_true rfl⟩) hK hR hP hD hA hS [1, 2, 3, 4, 5, 6] [0, 1, 2] rfl rfl rfl 4 1 rfl rfl (fun _ => rfl) rfl hl.1 rfl (Nat.le_of_ble_eq_true rfl) dX6_setHands_116 ⟨Nat.zero_le _, Nat.zero_le _⟩ (fun u_116 H locs hw hP hD hS => ?_)
              have hP : va_P D vwCl [(c0, .inr (1, [.ref c1, .int (nI (hisO o r)), .int (nI (hisT r + 1))])), (c2, .inl (cA, 1144, .inl (nF (cpyN a hs 0 ((hisO o r + hisT r) % 4 * 286) 286)))), (h2, .inl (cA, 286, .inl (nF a)))] H := hP
              have hD : va_D A [(c0, .inr (1, [.ref c1, .int (nI (hisO o r)), .int (nI (hisT r + 1))])), (c2, .inl (cA, 1144, .inl (nF (cpyN a hs 0 ((hisO o r + hisT r) % 4 * 286) 286)))), (h2, .inl (cA, 286, .inl (nF a)))] := hD
              refine lv_aload_n hx hb dX6_setHands_119 rfl (lv_at hl 3 rfl) ?_
              refine va_get (D := D) (cl := vwCl) (ci := 6) (v := .ref h0) (C := RX6) (T := TX6) (N := 8) hx hb hts inf_X6_setHands_X6 hown hK.1 (hR.at hS) 0 rfl rfl 0 (by decide) (hts _ (List.mem_of_getElem? (i := 1) rfl)) (fun _ h9 => h9) rfl dX6_setHands_120 ?_
              refine lv_iload_n hx hb dX6_setHands_123 rfl (lv_at hl 4 rfl) ?_
              refine lv_iload_n hx hb dX6_setHands_124 rfl (lv_at hl 5 rfl) ?_
              refine lv_iload_n hx hb dX6_setHands_125 rfl (lv_at hl 6 rfl) ?_
              refine call_v (q := (RX4, TX4, 1)) (As := [.int (nI k), .int (nI u_), .int (nI v_)]) (rest := []) F (c_X4_putHands l D cA h0 h1 h2 a k u_ v_ (by omega)) (cwV 3 hts gX6_setHands_X4_putHands rfl rfl rfl ydv_X4_putHands ⟨Nat.le_of_ble_eq_true rfl, Nat.le_of_ble_eq_true rfl⟩) hK hR hP hD hA hS [2, 3, 6] [2] rfl rfl rfl 2 4 rfl rfl (fun _ => rfl) rfl hl.1 rfl (Nat.le_of_ble_eq_true rfl) dX6_setHands_126 ⟨Nat.zero_le _, Nat.zero_le _⟩ (fun u_126 H locs hw hP hD hS => ?_)
              have hP : va_P D vwCl [(c0, .inr (1, [.ref c1, .int (nI (hisO o r)), .int (nI (hisT r + 1))])), (c2, .inl (cA, 1144, .inl (nF (cpyN a hs 0 ((hisO o r + hisT r) % 4 * 286) 286)))), (h2, .inl (cA, 286, .inl (nF (updN (updN a (2 + k) u_) (12 + k) v_))))] H := hP
              have hD : va_D A [(c0, .inr (1, [.ref c1, .int (nI (hisO o r)), .int (nI (hisT r + 1))])), (c2, .inl (cA, 1144, .inl (nF (cpyN a hs 0 ((hisO o r + hisT r) % 4 * 286) 286)))), (h2, .inl (cA, 286, .inl (nF (updN (updN a (2 + k) u_) (12 + k) v_))))] := hD
              refine lv_bipush (v := nI 10) hx hb dX6_setHands_129 (by decide) ?_
              refine lv_iload hx hb dX6_setHands_131 (lv_at hl 2 rfl) ?_
              refine nv_imul hx hb dX6_setHands_133 ?_
              refine lv_iload hx hb dX6_setHands_134 (lv_at hl 1 rfl) ?_
              refine nv_iadd hx hb dX6_setHands_136 ?_
              have hE : aHands a (nI k) (nI u_) (nI v_) = (nI ((10 * (a (2 + k))) + (a (12 + k))), some (updN (updN a (2 + k) u_) (12 + k) v_)) := by first | (simp only [aHands, hcx, hcu, hcv]; simp [c_8, c_19, c_28, c_87, eq_true c_96, c_102]; done) | (simp only [aHands, hcx, hcu, hcv]; simp [c_8, c_19, c_28, c_87, eq_true c_96, c_102]; omega)
              refine tope (y := (aHands a (nI k) (nI u_) (nI v_)).1) (by rw [hE]) ?_
              exact RET _ _ _ _ _ (hisO o r, hisT r + 1, cpyN a hs 0 ((hisO o r + hisT r) % 4 * 286) 286, updN (updN a (2 + k) u_) (12 + k) v_) dX6_setHands_137 rfl ⟨rfl, (by rw [hE]; exact ⟨rfl, rfl, rfl, rfl⟩)⟩ hP hS
            · refine lv_bipush (v := -5) hx hb dX6_setHands_105 (by decide) ?_
              have hE : aHands a (nI k) (nI u_) (nI v_) = ((-5), none) := by first | (simp only [aHands, hcx, hcu, hcv]; simp [c_8, c_19, c_28, c_87, eq_true c_96, eq_true c_102]; done) | (simp only [aHands, hcx, hcu, hcv]; simp [c_8, c_19, c_28, c_87, eq_true c_96, eq_true c_102]; omega)
              refine tope (y := (aHands a (nI k) (nI u_) (nI v_)).1) (by rw [hE]) ?_
              exact RET _ _ _ _ _ (o, r, hs, a) dX6_setHands_107 rfl ⟨rfl, (by rw [hE]; exact ⟨rfl, rfl, rfl, rfl⟩)⟩ hP hS
        · refine lv_bipush (v := -4) hx hb dX6_setHands_90 (by decide) ?_
          have hE : aHands a (nI k) (nI u_) (nI v_) = ((-4), none) := by first | (simp only [aHands, hcx, hcu, hcv]; simp [c_8, c_19, c_28, c_87]; done) | (simp only [aHands, hcx, hcu, hcv]; simp [c_8, c_19, c_28, c_87]; omega)
          refine tope (y := (aHands a (nI k) (nI u_) (nI v_)).1) (by rw [hE]) ?_
          exact RET _ _ _ _ _ (o, r, hs, a) dX6_setHands_92 rfl ⟨rfl, (by rw [hE]; exact ⟨rfl, rfl, rfl, rfl⟩)⟩ hP hS
      · refine lv_bipush (v := -2) hx hb dX6_setHands_31 (by decide) ?_
        have hE : aHands a (nI k) u v = ((-2), none) := by first | (simp only [aHands, hcx]; simp [c_8, c_19, c_28]; done) | (simp only [aHands, hcx]; simp [c_8, c_19, c_28]; omega)
        refine tope (y := (aHands a (nI k) u v).1) (by rw [hE]) ?_
        exact RET _ _ _ _ _ (o, r, hs, a) dX6_setHands_33 rfl ⟨rfl, (by rw [hE]; exact ⟨rfl, rfl, rfl, rfl⟩)⟩ hP hS
  · refine lv_iconst (v := -1) hx hb dX6_setHands_11 (by decide) ?_
    have hE : aHands a x u v = ((-1), none) := by first | (simp only [aHands]; simp [c_8]; done) | (simp only [aHands]; simp [c_8]; omega)
    refine tope (y := (aHands a x u v).1) (by rw [hE]) ?_
    exact RET _ _ _ _ _ (o, r, hs, a) dX6_setHands_12 rfl ⟨rfl, (by rw [hE]; exact ⟨rfl, rfl, rfl, rfl⟩)⟩ hP hS
abbrev rm_X6_setRule : Room := { frames := 5, cells := 0, slots := 0, locals := 112 }
theorem ydv_X6_setRule : yX6_setRule.cls = RX6 ∧ yX6_setRule.cls ≠ "java/lang/invoke/MethodHandle" ∧ yX6_setRule.cls ≠ "java/lang/invoke/VarHandle" ∧ (parseMethodDescriptor yX6_setRule.desc).map (fun d => d.parameters.length) = some 1 := by decide +kernel
theorem inf_X6_setRule_X6 : ∀ w ∈ wsX60, w ∈ wsX6_setRule := fun w h => List.mem_cons_of_mem _ (List.mem_append_left _ (List.mem_append_left _ (List.mem_append_left _ (List.mem_append_right _ (h)))))
set_option maxHeartbeats 4000000 in
set_option maxRecDepth 100000 in
theorem c_X6_setRule (l : Launch) (D : va_G) (cA : ClassId) (d0 h0 k0 q0 c0 t0 s0 b0 : Nat) (fs : List Value) (c1 c2 : Nat) (o r : Nat) (hs : Nat → Nat) (h1 h2 : Nat) (a : Nat → Nat)  (x : Int32) (ho : o < 4) (hr_ : r ≤ 4) (hV : Vd a) : MI l D cA yX6_setRule wsX6_setRule rm_X6_setRule [.ref d0, .int x] [(d0, .inr (6, .ref h0 :: .ref k0 :: .ref q0 :: .ref c0 :: .ref t0 :: .ref s0 :: .ref b0 :: fs)), (c1, .inr (3, [.ref c2])), (h0, .inr (4, [.ref h1])), (h1, .inr (3, [.ref h2]))] [(c0, .inr (1, [.ref c1, .int (nI o), .int (nI r)])), (c2, .inl (cA, 1144, .inl (nF hs))), (h2, .inl (cA, 286, .inl (nF a)))] (S := (Nat) × (Nat) × (Nat → Nat) × (Nat → Nat)) (fun rr_ (uu_ : (Nat) × (Nat) × (Nat → Nat) × (Nat → Nat)) => rr_ = (aRule a x).1 ∧ (ActC a hs o r (aRule a x).2 uu_.1 uu_.2.1 uu_.2.2.1 uu_.2.2.2)) (fun (uu_ : (Nat) × (Nat) × (Nat → Nat) × (Nat → Nat)) => [(c0, .inr (1, [.ref c1, .int (nI uu_.1), .int (nI uu_.2.1)])), (c2, .inl (cA, 1144, .inl (nF uu_.2.2.1))), (h2, .inl (cA, 286, .inl (nF uu_.2.2.2)))]) := by
  refine ofWi (cc := cX6_setRule) (maxL := 4) (rt := .int) (by decide) rfl (Nat.le_of_ble_eq_true rfl) ?_
  intro p e s m args below meth c Q A ls F hK hR hP hD hA hS hl RET
  obtain ⟨hx, hb, hml, hown, hts⟩ := id F
  have hl : lv_has ls 4 [(0, .ref d0), (1, .int x)] := hl
  refine lv_iload_n hx hb dX6_setRule_0 rfl (lv_at hl 1 rfl) ?_
  refine lv_iconst (v := nI 3) hx hb dX6_setRule_1 (by decide) ?_
  refine call_s (As := [.int x, .int (nI 3)]) (rest := []) F (c_X6_isBelow l D cA x 3 (by omega)) (va_cwS 2 hts gX6_setRule_X6_isBelow rfl rfl rfl yd_X6_isBelow ⟨Nat.le_of_ble_eq_true rfl, Nat.le_of_ble_eq_true rfl⟩) hK hR hP hD hA hS rfl hl.1 rfl (Nat.le_of_ble_eq_true rfl) dX6_setRule_2 ⟨Nat.zero_le _, Nat.zero_le _⟩ (fun H locs hP hS => ?_)
  refine bv_if_ne (tgt := 11) hx hb dX6_setRule_5 (by decide) (fun c_5 => ?_) (fun c_5 => ?_)
  · have hr2_ := hV.r
    obtain ⟨k, hk, rfl⟩ := isB_t (by decide) c_5
    have hcx : cN (nI k) = k := cN_nI (by omega)
    refine lv_aload_n hx hb dX6_setRule_11 rfl (lv_at hl 0 rfl) ?_
    refine va_get (D := D) (cl := vwCl) (ci := 6) (v := .ref h0) (C := RX6) (T := TX6) (N := 8) hx hb hts inf_X6_setRule_X6 hown hK.1 (hR.at hS) 0 rfl rfl 0 (by decide) (hts _ (List.mem_of_getElem? (i := 1) rfl)) (fun _ h9 => h9) rfl dX6_setRule_12 ?_
    refine call_r (q := (RX4, TX4, 1)) (As := []) (rest := []) F (c_X4_ruleNow l D cA h0 h1 h2 a) (cwV 0 hts gX6_setRule_X4_ruleNow rfl rfl rfl ydv_X4_ruleNow ⟨Nat.le_of_ble_eq_true rfl, Nat.le_of_ble_eq_true rfl⟩) hK hR hP hD hA hS [2, 3, 6] rfl rfl 2 4 rfl rfl rfl hl.1 rfl (Nat.le_of_ble_eq_true rfl) dX6_setRule_15 ⟨Nat.zero_le _, Nat.zero_le _⟩ (fun H locs hP hS => ?_)
    refine lv_istore_n (lv' := [(2, .int (nI (a 0))), (0, .ref d0), (1, .int (nI k))]) hx hb dX6_setRule_18 rfl hl (by decide) rfl (fun ls hl => ?_)
    refine lv_aload_n hx hb dX6_setRule_19 rfl (lv_at hl 1 rfl) ?_
    refine va_get (D := D) (cl := vwCl) (ci := 6) (v := .ref h0) (C := RX6) (T := TX6) (N := 8) hx hb hts inf_X6_setRule_X6 hown hK.1 (hR.at hS) 0 rfl rfl 0 (by decide) (hts _ (List.mem_of_getElem? (i := 1) rfl)) (fun _ h9 => h9) rfl dX6_setRule_20 ?_
    refine lv_iload_n hx hb dX6_setRule_23 rfl (lv_at hl 2 rfl) ?_
    refine call_v (q := (RX4, TX4, 1)) (As := [.int (nI k)]) (rest := []) F (c_X4_putRule l D cA h0 h1 h2 a k) (cwV 1 hts gX6_setRule_X4_putRule rfl rfl rfl ydv_X4_putRule ⟨Nat.le_of_ble_eq_true rfl, Nat.le_of_ble_eq_true rfl⟩) hK hR hP hD hA hS [2, 3, 6] [2] rfl rfl rfl 2 4 rfl rfl (fun _ => rfl) rfl hl.1 rfl (Nat.le_of_ble_eq_true rfl) dX6_setRule_24 ⟨Nat.zero_le _, Nat.zero_le _⟩ (fun u_24 H locs hw hP hD hS => ?_)
    have hP : va_P D vwCl [(c0, .inr (1, [.ref c1, .int (nI o), .int (nI r)])), (c2, .inl (cA, 1144, .inl (nF hs))), (h2, .inl (cA, 286, .inl (nF (updN a 0 k))))] H := hP
    have hD : va_D A [(c0, .inr (1, [.ref c1, .int (nI o), .int (nI r)])), (c2, .inl (cA, 1144, .inl (nF hs))), (h2, .inl (cA, 286, .inl (nF (updN a 0 k))))] := hD
    refine lv_aload_n hx hb dX6_setRule_27 rfl (lv_at hl 1 rfl) ?_
    refine va_get (D := D) (cl := vwCl) (ci := 6) (v := .ref h0) (C := RX6) (T := TX6) (N := 8) hx hb hts inf_X6_setRule_X6 hown hK.1 (hR.at hS) 0 rfl rfl 0 (by decide) (hts _ (List.mem_of_getElem? (i := 1) rfl)) (fun _ h9 => h9) rfl dX6_setRule_28 ?_
    refine call_r (q := (RX4, TX4, 1)) (As := []) (rest := []) F (c_X4_hasClash l D cA h0 h1 h2 (updN a 0 k) (Vd_rule hV (by omega))) (cwV 0 hts gX6_setRule_X4_hasClash rfl rfl rfl ydv_X4_hasClash ⟨Nat.le_of_ble_eq_true rfl, Nat.le_of_ble_eq_true rfl⟩) hK hR hP hD hA hS [2, 3, 6] rfl rfl 2 4 rfl rfl rfl hl.1 rfl (Nat.le_of_ble_eq_true rfl) dX6_setRule_31 ⟨Nat.zero_le _, Nat.zero_le _⟩ (fun H locs hP hS => ?_)
    refine lv_istore_n (lv' := [(3, .int (bI (hasCl (updN a 0 k)))), (2, .int (nI (a 0))), (0, .ref d0), (1, .int (nI k))]) hx hb dX6_setRule_34 rfl hl (by decide) rfl (fun ls hl => ?_)
    refine lv_aload_n hx hb dX6_setRule_35 rfl (lv_at hl 2 rfl) ?_
    refine va_get (D := D) (cl := vwCl) (ci := 6) (v := .ref h0) (C := RX6) (T := TX6) (N := 8) hx hb hts inf_X6_setRule_X6 hown hK.1 (hR.at hS) 0 rfl rfl 0 (by decide) (hts _ (List.mem_of_getElem? (i := 1) rfl)) (fun _ h9 => h9) rfl dX6_setRule_36 ?_
    refine lv_iload_n hx hb dX6_setRule_39 rfl (lv_at hl 1 rfl) ?_
    refine call_v (q := (RX4, TX4, 1)) (As := [.int (nI (a 0))]) (rest := []) F (c_X4_putRule l D cA h0 h1 h2 (updN a 0 k) (a 0)) (cwV 1 hts gX6_setRule_X4_putRule rfl rfl rfl ydv_X4_putRule ⟨Nat.le_of_ble_eq_true rfl, Nat.le_of_ble_eq_true rfl⟩) hK hR hP hD hA hS [2, 3, 6] [2] rfl rfl rfl 2 4 rfl rfl (fun _ => rfl) rfl hl.1 rfl (Nat.le_of_ble_eq_true rfl) dX6_setRule_40 ⟨Nat.zero_le _, Nat.zero_le _⟩ (fun u_40 H locs hw hP hD hS => ?_)
    have hP : va_P D vwCl [(c0, .inr (1, [.ref c1, .int (nI o), .int (nI r)])), (c2, .inl (cA, 1144, .inl (nF hs))), (h2, .inl (cA, 286, .inl (nF (updN (updN a 0 k) 0 (a 0)))))] H := hP
    have hD : va_D A [(c0, .inr (1, [.ref c1, .int (nI o), .int (nI r)])), (c2, .inl (cA, 1144, .inl (nF hs))), (h2, .inl (cA, 286, .inl (nF (updN (updN a 0 k) 0 (a 0)))))] := hD
    have hB_ := put_back1 (a := a) (i := 0) (u := k)
    rw [hB_] at hP hD
    refine lv_iload_n hx hb dX6_setRule_43 rfl (lv_at hl 0 rfl) ?_
    refine bv_if_eq (tgt := 50) hx hb dX6_setRule_44 (by decide) (fun c_44 => ?_) (fun c_44 => ?_)
    · refine lv_iload_n hx hb dX6_setRule_50 rfl (lv_at hl 3 rfl) ?_
      refine lv_iload_n hx hb dX6_setRule_51 rfl (lv_at hl 1 rfl) ?_
      refine nv_icmp_ne (tgt := 58) hx hb dX6_setRule_52 (by decide) (by omega) (by omega) (fun c_52 => ?_) (fun c_52 => ?_)
      · refine lv_aload_n hx hb dX6_setRule_58 rfl (lv_at hl 2 rfl) ?_
        refine va_get (D := D) (cl := vwCl) (ci := 6) (v := .ref c0) (C := RX6) (T := TX6) (N := 8) hx hb hts inf_X6_setRule_X6 hown hK.1 (hR.at hS) 0 rfl rfl 3 (by decide) (hts _ (List.mem_of_getElem? (i := 2) rfl)) (fun _ h9 => h9) rfl dX6_setRule_59 ?_
        refine lv_aload_n hx hb dX6_setRule_62 rfl (lv_at hl 2 rfl) ?_
        refine va_get (D := D) (cl := vwCl) (ci := 6) (v := .ref h0) (C := RX6) (T := TX6) (N := 8) hx hb hts inf_X6_setRule_X6 hown hK.1 (hR.at hS) 0 rfl rfl 0 (by decide) (hts _ (List.mem_of_getElem? (i := 1) rfl)) (fun _ h9 => h9) rfl dX6_setRule_63 ?_
        refine call_v (q := (RX1, TX1, 3)) (As := [.ref h0]) (rest := []) F (c_X1_remember l D cA c0 c1 c2 o r hs h0 h1 h2 a (by omega) (by omega)) (cwV 1 hts gX6_setRule_X1_remember rfl rfl rfl ydv_X1_remember ⟨Nat.le_of_ble_eq_true rfl, Nat.le_of_ble_eq_true rfl⟩) hK hR hP hD hA hS [1, 2, 3, 4, 5, 6] [0, 1, 2] rfl rfl rfl 4 1 rfl rfl (fun _ => rfl) rfl hl.1 rfl (Nat.le_of_ble_eq_true rfl) dX6_setRule_66 ⟨Nat.zero_le _, Nat.zero_le _⟩ (fun u_66 H locs hw hP hD hS => ?_)
        have hP : va_P D vwCl [(c0, .inr (1, [.ref c1, .int (nI (hisO o r)), .int (nI (hisT r + 1))])), (c2, .inl (cA, 1144, .inl (nF (cpyN a hs 0 ((hisO o r + hisT r) % 4 * 286) 286)))), (h2, .inl (cA, 286, .inl (nF a)))] H := hP
        have hD : va_D A [(c0, .inr (1, [.ref c1, .int (nI (hisO o r)), .int (nI (hisT r + 1))])), (c2, .inl (cA, 1144, .inl (nF (cpyN a hs 0 ((hisO o r + hisT r) % 4 * 286) 286)))), (h2, .inl (cA, 286, .inl (nF a)))] := hD
        refine lv_aload_n hx hb dX6_setRule_69 rfl (lv_at hl 2 rfl) ?_
        refine va_get (D := D) (cl := vwCl) (ci := 6) (v := .ref h0) (C := RX6) (T := TX6) (N := 8) hx hb hts inf_X6_setRule_X6 hown hK.1 (hR.at hS) 0 rfl rfl 0 (by decide) (hts _ (List.mem_of_getElem? (i := 1) rfl)) (fun _ h9 => h9) rfl dX6_setRule_70 ?_
        refine lv_iload_n hx hb dX6_setRule_73 rfl (lv_at hl 3 rfl) ?_
        refine call_v (q := (RX4, TX4, 1)) (As := [.int (nI k)]) (rest := []) F (c_X4_putRule l D cA h0 h1 h2 a k) (cwV 1 hts gX6_setRule_X4_putRule rfl rfl rfl ydv_X4_putRule ⟨Nat.le_of_ble_eq_true rfl, Nat.le_of_ble_eq_true rfl⟩) hK hR hP hD hA hS [2, 3, 6] [2] rfl rfl rfl 2 4 rfl rfl (fun _ => rfl) rfl hl.1 rfl (Nat.le_of_ble_eq_true rfl) dX6_setRule_74 ⟨Nat.zero_le _, Nat.zero_le _⟩ (fun u_74 H locs hw hP hD hS => ?_)
        have hP : va_P D vwCl [(c0, .inr (1, [.ref c1, .int (nI (hisO o r)), .int (nI (hisT r + 1))])), (c2, .inl (cA, 1144, .inl (nF (cpyN a hs 0 ((hisO o r + hisT r) % 4 * 286) 286)))), (h2, .inl (cA, 286, .inl (nF (updN a 0 k))))] H := hP
        have hD : va_D A [(c0, .inr (1, [.ref c1, .int (nI (hisO o r)), .int (nI (hisT r + 1))])), (c2, .inl (cA, 1144, .inl (nF (cpyN a hs 0 ((hisO o r + hisT r) % 4 * 286) 286)))), (h2, .inl (cA, 286, .inl (nF (updN a 0 k))))] := hD
        refine lv_iload_n hx hb dX6_setRule_77 rfl (lv_at hl 1 rfl) ?_
        have hE : aRule a (nI k) = (nI (a 0), some (updN a 0 k)) := by first | (simp only [aRule, hcx]; simp [c_5, c_44, c_52]; done) | (simp only [aRule, hcx]; simp [c_5, c_44, c_52]; omega)
        refine tope (y := (aRule a (nI k)).1) (by rw [hE]) ?_
        exact RET _ _ _ _ _ (hisO o r, hisT r + 1, cpyN a hs 0 ((hisO o r + hisT r) % 4 * 286) 286, updN a 0 k) dX6_setRule_78 rfl ⟨rfl, (by rw [hE]; exact ⟨rfl, rfl, rfl, rfl⟩)⟩ hP hS
      · refine lv_bipush (v := -5) hx hb dX6_setRule_55 (by decide) ?_
        have hE : aRule a (nI k) = ((-5), none) := by first | (simp only [aRule, hcx]; simp [c_5, c_44, eq_true c_52]; done) | (simp only [aRule, hcx]; simp [c_5, c_44, eq_true c_52]; omega)
        refine tope (y := (aRule a (nI k)).1) (by rw [hE]) ?_
        exact RET _ _ _ _ _ (o, r, hs, a) dX6_setRule_57 rfl ⟨rfl, (by rw [hE]; exact ⟨rfl, rfl, rfl, rfl⟩)⟩ hP hS
    · refine lv_bipush (v := -4) hx hb dX6_setRule_47 (by decide) ?_
      have hE : aRule a (nI k) = ((-4), none) := by first | (simp only [aRule, hcx]; simp [c_5, c_44]; done) | (simp only [aRule, hcx]; simp [c_5, c_44]; omega)
      refine tope (y := (aRule a (nI k)).1) (by rw [hE]) ?_
      exact RET _ _ _ _ _ (o, r, hs, a) dX6_setRule_49 rfl ⟨rfl, (by rw [hE]; exact ⟨rfl, rfl, rfl, rfl⟩)⟩ hP hS
  · refine lv_bipush (v := -2) hx hb dX6_setRule_8 (by decide) ?_
    have hE : aRule a x = ((-2), none) := by first | (simp only [aRule]; simp [c_5]; done) | (simp only [aRule]; simp [c_5]; omega)
    refine tope (y := (aRule a x).1) (by rw [hE]) ?_
    exact RET _ _ _ _ _ (o, r, hs, a) dX6_setRule_10 rfl ⟨rfl, (by rw [hE]; exact ⟨rfl, rfl, rfl, rfl⟩)⟩ hP hS
abbrev rm_X6_setKinds : Room := { frames := 4, cells := 0, slots := 0, locals := 93 }
theorem ydv_X6_setKinds : yX6_setKinds.cls = RX6 ∧ yX6_setKinds.cls ≠ "java/lang/invoke/MethodHandle" ∧ yX6_setKinds.cls ≠ "java/lang/invoke/VarHandle" ∧ (parseMethodDescriptor yX6_setKinds.desc).map (fun d => d.parameters.length) = some 1 := by decide +kernel
theorem inf_X6_setKinds_X6 : ∀ w ∈ wsX60, w ∈ wsX6_setKinds := fun w h => List.mem_cons_of_mem _ (List.mem_append_left _ (List.mem_append_left _ (List.mem_append_left _ (List.mem_append_left _ (List.mem_append_right _ (h))))))
set_option maxHeartbeats 4000000 in
set_option maxRecDepth 100000 in
theorem c_X6_setKinds (l : Launch) (D : va_G) (cA : ClassId) (d0 h0 k0 q0 c0 t0 s0 b0 : Nat) (fs : List Value) (c1 c2 : Nat) (o r : Nat) (hs : Nat → Nat) (h1 h2 : Nat) (a : Nat → Nat)  (x : Int32) (ho : o < 4) (hr_ : r ≤ 4) (hV : Vd a) : MI l D cA yX6_setKinds wsX6_setKinds rm_X6_setKinds [.ref d0, .int x] [(d0, .inr (6, .ref h0 :: .ref k0 :: .ref q0 :: .ref c0 :: .ref t0 :: .ref s0 :: .ref b0 :: fs)), (c1, .inr (3, [.ref c2])), (h0, .inr (4, [.ref h1])), (h1, .inr (3, [.ref h2])), (k0, .inr (2, [.ref h0]))] [(c0, .inr (1, [.ref c1, .int (nI o), .int (nI r)])), (c2, .inl (cA, 1144, .inl (nF hs))), (h2, .inl (cA, 286, .inl (nF a)))] (S := (Nat) × (Nat) × (Nat → Nat) × (Nat → Nat)) (fun rr_ (uu_ : (Nat) × (Nat) × (Nat → Nat) × (Nat → Nat)) => rr_ = (aKinds a x).1 ∧ (ActC a hs o r (aKinds a x).2 uu_.1 uu_.2.1 uu_.2.2.1 uu_.2.2.2)) (fun (uu_ : (Nat) × (Nat) × (Nat → Nat) × (Nat → Nat)) => [(c0, .inr (1, [.ref c1, .int (nI uu_.1), .int (nI uu_.2.1)])), (c2, .inl (cA, 1144, .inl (nF uu_.2.2.1))), (h2, .inl (cA, 286, .inl (nF uu_.2.2.2)))]) := by
  refine ofWi (cc := cX6_setKinds) (maxL := 3) (rt := .int) (by decide) rfl (Nat.le_of_ble_eq_true rfl) ?_
  intro p e s m args below meth c Q A ls F hK hR hP hD hA hS hl RET
  obtain ⟨hx, hb, hml, hown, hts⟩ := id F
  have hl : lv_has ls 3 [(0, .ref d0), (1, .int x)] := hl
  refine lv_iload_n hx hb dX6_setKinds_0 rfl (lv_at hl 1 rfl) ?_
  refine lv_iconst (v := nI 1) hx hb dX6_setKinds_1 (by decide) ?_
  refine lv_icmp_lt (tgt := 11) hx hb dX6_setKinds_2 (by decide) (fun c_2 => ?_) (fun c_2 => ?_)
  · have hR_ : inR x 1 10 = false := inR_lo (by decide) c_2
    refine lv_bipush (v := -2) hx hb dX6_setKinds_11 (by decide) ?_
    have hE : aKinds a x = ((-2), none) := by first | (simp only [aKinds]; simp [c_2, hR_]; done) | (simp only [aKinds]; simp [c_2, hR_]; omega)
    refine tope (y := (aKinds a x).1) (by rw [hE]) ?_
    exact RET _ _ _ _ _ (o, r, hs, a) dX6_setKinds_13 rfl ⟨rfl, (by rw [hE]; exact ⟨rfl, rfl, rfl, rfl⟩)⟩ hP hS
  · refine lv_iload_n hx hb dX6_setKinds_5 rfl (lv_at hl 1 rfl) ?_
    refine lv_bipush (v := nI 10) hx hb dX6_setKinds_6 (by decide) ?_
    refine lv_icmp_le (tgt := 14) hx hb dX6_setKinds_8 (by decide) (fun c_8 => ?_) (fun c_8 => ?_)
    · have hR_ := inR_in (by decide) (by decide) c_2 c_8
      obtain ⟨k, hk1, hk2, rfl⟩ := inR_t (by decide) hR_
      have hcx : cN (nI k) = k := cN_nI (by omega)
      have hk_ := hV.k
      refine lv_aload_n hx hb dX6_setKinds_14 rfl (lv_at hl 0 rfl) ?_
      refine va_get (D := D) (cl := vwCl) (ci := 6) (v := .ref k0) (C := RX6) (T := TX6) (N := 8) hx hb hts inf_X6_setKinds_X6 hown hK.1 (hR.at hS) 0 rfl rfl 1 (by decide) (hts _ (List.mem_of_getElem? (i := 1) rfl)) (fun _ h9 => h9) rfl dX6_setKinds_15 ?_
      refine call_r (q := (RX2, TX2, 1)) (As := []) (rest := []) F (c_X2_highestKind l D cA k0 h0 h1 h2 a (hV)) (cwV 0 hts gX6_setKinds_X2_highestKind rfl rfl rfl ydv_X2_highestKind ⟨Nat.le_of_ble_eq_true rfl, Nat.le_of_ble_eq_true rfl⟩) hK hR hP hD hA hS [4, 2, 3, 7] rfl rfl 4 2 rfl rfl rfl hl.1 rfl (Nat.le_of_ble_eq_true rfl) dX6_setKinds_18 ⟨Nat.zero_le _, Nat.zero_le _⟩ (fun H locs hP hS => ?_)
      have hh_ := hiK_le hV
      refine lv_iload_n hx hb dX6_setKinds_21 rfl (lv_at hl 1 rfl) ?_
      refine nv_icmp_lt (tgt := 28) hx hb dX6_setKinds_22 (by decide) (by omega) (by omega) (fun c_22 => ?_) (fun c_22 => ?_)
      · refine lv_aload_n hx hb dX6_setKinds_28 rfl (lv_at hl 0 rfl) ?_
        refine va_get (D := D) (cl := vwCl) (ci := 6) (v := .ref h0) (C := RX6) (T := TX6) (N := 8) hx hb hts inf_X6_setKinds_X6 hown hK.1 (hR.at hS) 0 rfl rfl 0 (by decide) (hts _ (List.mem_of_getElem? (i := 2) rfl)) (fun _ h9 => h9) rfl dX6_setKinds_29 ?_
        refine call_r (q := (RX4, TX4, 1)) (As := []) (rest := []) F (c_X4_kindsNow l D cA h0 h1 h2 a) (cwV 0 hts gX6_setKinds_X4_kindsNow rfl rfl rfl ydv_X4_kindsNow ⟨Nat.le_of_ble_eq_true rfl, Nat.le_of_ble_eq_true rfl⟩) hK hR hP hD hA hS [2, 3, 7] rfl rfl 2 4 rfl rfl rfl hl.1 rfl (Nat.le_of_ble_eq_true rfl) dX6_setKinds_32 ⟨Nat.zero_le _, Nat.zero_le _⟩ (fun H locs hP hS => ?_)
        refine lv_istore_n (lv' := [(2, .int (nI (a 1))), (0, .ref d0), (1, .int (nI k))]) hx hb dX6_setKinds_35 rfl hl (by decide) rfl (fun ls hl => ?_)
        refine lv_iload_n hx hb dX6_setKinds_36 rfl (lv_at hl 2 rfl) ?_
        refine lv_iload_n hx hb dX6_setKinds_37 rfl (lv_at hl 0 rfl) ?_
        refine nv_icmp_ne (tgt := 44) hx hb dX6_setKinds_38 (by decide) (by omega) (by omega) (fun c_38 => ?_) (fun c_38 => ?_)
        · refine lv_aload_n hx hb dX6_setKinds_44 rfl (lv_at hl 1 rfl) ?_
          refine va_get (D := D) (cl := vwCl) (ci := 6) (v := .ref c0) (C := RX6) (T := TX6) (N := 8) hx hb hts inf_X6_setKinds_X6 hown hK.1 (hR.at hS) 0 rfl rfl 3 (by decide) (hts _ (List.mem_of_getElem? (i := 3) rfl)) (fun _ h9 => h9) rfl dX6_setKinds_45 ?_
          refine lv_aload_n hx hb dX6_setKinds_48 rfl (lv_at hl 1 rfl) ?_
          refine va_get (D := D) (cl := vwCl) (ci := 6) (v := .ref h0) (C := RX6) (T := TX6) (N := 8) hx hb hts inf_X6_setKinds_X6 hown hK.1 (hR.at hS) 0 rfl rfl 0 (by decide) (hts _ (List.mem_of_getElem? (i := 2) rfl)) (fun _ h9 => h9) rfl dX6_setKinds_49 ?_
          refine call_v (q := (RX1, TX1, 3)) (As := [.ref h0]) (rest := []) F (c_X1_remember l D cA c0 c1 c2 o r hs h0 h1 h2 a (by omega) (by omega)) (cwV 1 hts gX6_setKinds_X1_remember rfl rfl rfl ydv_X1_remember ⟨Nat.le_of_ble_eq_true rfl, Nat.le_of_ble_eq_true rfl⟩) hK hR hP hD hA hS [1, 2, 3, 5, 6, 7] [0, 1, 2] rfl rfl rfl 5 1 rfl rfl (fun _ => rfl) rfl hl.1 rfl (Nat.le_of_ble_eq_true rfl) dX6_setKinds_52 ⟨Nat.zero_le _, Nat.zero_le _⟩ (fun u_52 H locs hw hP hD hS => ?_)
          have hP : va_P D vwCl [(c0, .inr (1, [.ref c1, .int (nI (hisO o r)), .int (nI (hisT r + 1))])), (c2, .inl (cA, 1144, .inl (nF (cpyN a hs 0 ((hisO o r + hisT r) % 4 * 286) 286)))), (h2, .inl (cA, 286, .inl (nF a)))] H := hP
          have hD : va_D A [(c0, .inr (1, [.ref c1, .int (nI (hisO o r)), .int (nI (hisT r + 1))])), (c2, .inl (cA, 1144, .inl (nF (cpyN a hs 0 ((hisO o r + hisT r) % 4 * 286) 286)))), (h2, .inl (cA, 286, .inl (nF a)))] := hD
          refine lv_aload_n hx hb dX6_setKinds_55 rfl (lv_at hl 1 rfl) ?_
          refine va_get (D := D) (cl := vwCl) (ci := 6) (v := .ref h0) (C := RX6) (T := TX6) (N := 8) hx hb hts inf_X6_setKinds_X6 hown hK.1 (hR.at hS) 0 rfl rfl 0 (by decide) (hts _ (List.mem_of_getElem? (i := 2) rfl)) (fun _ h9 => h9) rfl dX6_setKinds_56 ?_
          refine lv_iload_n hx hb dX6_setKinds_59 rfl (lv_at hl 2 rfl) ?_
          refine call_v (q := (RX4, TX4, 1)) (As := [.int (nI k)]) (rest := []) F (c_X4_putKinds l D cA h0 h1 h2 a k) (cwV 1 hts gX6_setKinds_X4_putKinds rfl rfl rfl ydv_X4_putKinds ⟨Nat.le_of_ble_eq_true rfl, Nat.le_of_ble_eq_true rfl⟩) hK hR hP hD hA hS [2, 3, 7] [2] rfl rfl rfl 2 4 rfl rfl (fun _ => rfl) rfl hl.1 rfl (Nat.le_of_ble_eq_true rfl) dX6_setKinds_60 ⟨Nat.zero_le _, Nat.zero_le _⟩ (fun u_60 H locs hw hP hD hS => ?_)
          have hP : va_P D vwCl [(c0, .inr (1, [.ref c1, .int (nI (hisO o r)), .int (nI (hisT r + 1))])), (c2, .inl (cA, 1144, .inl (nF (cpyN a hs 0 ((hisO o r + hisT r) % 4 * 286) 286)))), (h2, .inl (cA, 286, .inl (nF (updN a 1 k))))] H := hP
          have hD : va_D A [(c0, .inr (1, [.ref c1, .int (nI (hisO o r)), .int (nI (hisT r + 1))])), (c2, .inl (cA, 1144, .inl (nF (cpyN a hs 0 ((hisO o r + hisT r) % 4 * 286) 286)))), (h2, .inl (cA, 286, .inl (nF (updN a 1 k))))] := hD
          refine lv_iload_n hx hb dX6_setKinds_63 rfl (lv_at hl 0 rfl) ?_
          have hE : aKinds a (nI k) = (nI (a 1), some (updN a 1 k)) := by first | (simp only [aKinds, hcx]; simp [c_2, c_8, c_22, c_38, hR_, Nat.not_le.mpr c_22]; done) | (simp only [aKinds, hcx]; simp [c_2, c_8, c_22, c_38, hR_, Nat.not_le.mpr c_22]; omega)
          refine tope (y := (aKinds a (nI k)).1) (by rw [hE]) ?_
          exact RET _ _ _ _ _ (hisO o r, hisT r + 1, cpyN a hs 0 ((hisO o r + hisT r) % 4 * 286) 286, updN a 1 k) dX6_setKinds_64 rfl ⟨rfl, (by rw [hE]; exact ⟨rfl, rfl, rfl, rfl⟩)⟩ hP hS
        · refine lv_bipush (v := -5) hx hb dX6_setKinds_41 (by decide) ?_
          have hE : aKinds a (nI k) = ((-5), none) := by first | (simp only [aKinds, hcx]; simp [c_2, c_8, c_22, eq_true c_38, hR_, Nat.not_le.mpr c_22]; done) | (simp only [aKinds, hcx]; simp [c_2, c_8, c_22, eq_true c_38, hR_, Nat.not_le.mpr c_22]; omega)
          refine tope (y := (aKinds a (nI k)).1) (by rw [hE]) ?_
          exact RET _ _ _ _ _ (o, r, hs, a) dX6_setKinds_43 rfl ⟨rfl, (by rw [hE]; exact ⟨rfl, rfl, rfl, rfl⟩)⟩ hP hS
      · refine lv_bipush (v := -4) hx hb dX6_setKinds_25 (by decide) ?_
        have hE : aKinds a (nI k) = ((-4), none) := by first | (simp only [aKinds, hcx]; simp [c_2, c_8, c_22, hR_]; done) | (simp only [aKinds, hcx]; simp [c_2, c_8, c_22, hR_]; omega)
        refine tope (y := (aKinds a (nI k)).1) (by rw [hE]) ?_
        exact RET _ _ _ _ _ (o, r, hs, a) dX6_setKinds_27 rfl ⟨rfl, (by rw [hE]; exact ⟨rfl, rfl, rfl, rfl⟩)⟩ hP hS
    · have hR_ : inR x 1 10 = false := inR_hi (by decide) c_8
      refine lv_bipush (v := -2) hx hb dX6_setKinds_11 (by decide) ?_
      have hE : aKinds a x = ((-2), none) := by first | (simp only [aKinds]; simp [c_2, c_8, hR_]; done) | (simp only [aKinds]; simp [c_2, c_8, hR_]; omega)
      refine tope (y := (aKinds a x).1) (by rw [hE]) ?_
      exact RET _ _ _ _ _ (o, r, hs, a) dX6_setKinds_13 rfl ⟨rfl, (by rw [hE]; exact ⟨rfl, rfl, rfl, rfl⟩)⟩ hP hS
abbrev rm_X6_cutDoll : Room := { frames := 4, cells := 0, slots := 0, locals := 93 }
theorem ydv_X6_cutDoll : yX6_cutDoll.cls = RX6 ∧ yX6_cutDoll.cls ≠ "java/lang/invoke/MethodHandle" ∧ yX6_cutDoll.cls ≠ "java/lang/invoke/VarHandle" ∧ (parseMethodDescriptor yX6_cutDoll.desc).map (fun d => d.parameters.length) = some 2 := by decide +kernel
theorem inf_X6_cutDoll_X6 : ∀ w ∈ wsX60, w ∈ wsX6_cutDoll := fun w h => List.mem_cons_of_mem _ (List.mem_append_left _ (List.mem_append_left _ (List.mem_append_left _ (List.mem_append_right _ (h)))))
set_option maxHeartbeats 4000000 in
set_option maxRecDepth 100000 in
theorem c_X6_cutDoll (l : Launch) (D : va_G) (cA : ClassId) (d0 h0 k0 q0 c0 t0 s0 b0 : Nat) (fs : List Value) (c1 c2 : Nat) (o r : Nat) (hs : Nat → Nat) (h1 h2 : Nat) (a : Nat → Nat)  (x : Int32) (b : Bool) (ho : o < 4) (hr_ : r ≤ 4) (hV : Vd a) : MI l D cA yX6_cutDoll wsX6_cutDoll rm_X6_cutDoll [.ref d0, .int x, .int (bI b)] [(d0, .inr (6, .ref h0 :: .ref k0 :: .ref q0 :: .ref c0 :: .ref t0 :: .ref s0 :: .ref b0 :: fs)), (c1, .inr (3, [.ref c2])), (h0, .inr (4, [.ref h1])), (h1, .inr (3, [.ref h2]))] [(c0, .inr (1, [.ref c1, .int (nI o), .int (nI r)])), (c2, .inl (cA, 1144, .inl (nF hs))), (h2, .inl (cA, 286, .inl (nF a)))] (S := (Nat) × (Nat) × (Nat → Nat) × (Nat → Nat)) (fun rr_ (uu_ : (Nat) × (Nat) × (Nat → Nat) × (Nat → Nat)) => rr_ = (aCut a x b).1 ∧ (ActC a hs o r (aCut a x b).2 uu_.1 uu_.2.1 uu_.2.2.1 uu_.2.2.2)) (fun (uu_ : (Nat) × (Nat) × (Nat → Nat) × (Nat → Nat)) => [(c0, .inr (1, [.ref c1, .int (nI uu_.1), .int (nI uu_.2.1)])), (c2, .inl (cA, 1144, .inl (nF uu_.2.2.1))), (h2, .inl (cA, 286, .inl (nF uu_.2.2.2)))]) := by
  refine ofWi (cc := cX6_cutDoll) (maxL := 4) (rt := .int) (by decide) rfl (Nat.le_of_ble_eq_true rfl) ?_
  intro p e s m args below meth c Q A ls F hK hR hP hD hA hS hl RET
  obtain ⟨hx, hb, hml, hown, hts⟩ := id F
  have hl : lv_has ls 4 [(0, .ref d0), (1, .int x), (2, .int (bI b))] := hl
  refine lv_aload_n hx hb dX6_cutDoll_0 rfl (lv_at hl 0 rfl) ?_
  refine va_get (D := D) (cl := vwCl) (ci := 6) (v := .ref h0) (C := RX6) (T := TX6) (N := 8) hx hb hts inf_X6_cutDoll_X6 hown hK.1 (hR.at hS) 0 rfl rfl 0 (by decide) (hts _ (List.mem_of_getElem? (i := 1) rfl)) (fun _ h9 => h9) rfl dX6_cutDoll_1 ?_
  refine lv_iload_n hx hb dX6_cutDoll_4 rfl (lv_at hl 1 rfl) ?_
  refine call_r (q := (RX4, TX4, 1)) (As := [.int x]) (rest := []) F (c_X4_hasKind l D cA h0 h1 h2 a x (by have := hV.k; omega)) (cwV 1 hts gX6_cutDoll_X4_hasKind rfl rfl rfl ydv_X4_hasKind ⟨Nat.le_of_ble_eq_true rfl, Nat.le_of_ble_eq_true rfl⟩) hK hR hP hD hA hS [2, 3, 6] rfl rfl 2 4 rfl rfl rfl hl.1 rfl (Nat.le_of_ble_eq_true rfl) dX6_cutDoll_5 ⟨Nat.zero_le _, Nat.zero_le _⟩ (fun H locs hP hS => ?_)
  refine bv_if_ne (tgt := 13) hx hb dX6_cutDoll_8 (by decide) (fun c_8 => ?_) (fun c_8 => ?_)
  · have hk_ := hV.k
    obtain ⟨k, hk, rfl⟩ := isB_t (by omega) c_8
    have hcx : cN (nI k) = k := cN_nI (by omega)
    refine lv_aload_n hx hb dX6_cutDoll_13 rfl (lv_at hl 0 rfl) ?_
    refine va_get (D := D) (cl := vwCl) (ci := 6) (v := .ref h0) (C := RX6) (T := TX6) (N := 8) hx hb hts inf_X6_cutDoll_X6 hown hK.1 (hR.at hS) 0 rfl rfl 0 (by decide) (hts _ (List.mem_of_getElem? (i := 1) rfl)) (fun _ h9 => h9) rfl dX6_cutDoll_14 ?_
    refine call_r (q := (RX4, TX4, 1)) (As := []) (rest := []) F (c_X4_freeNumber l D cA h0 h1 h2 a (hV)) (cwV 0 hts gX6_cutDoll_X4_freeNumber rfl rfl rfl ydv_X4_freeNumber ⟨Nat.le_of_ble_eq_true rfl, Nat.le_of_ble_eq_true rfl⟩) hK hR hP hD hA hS [2, 3, 6] rfl rfl 2 4 rfl rfl rfl hl.1 rfl (Nat.le_of_ble_eq_true rfl) dX6_cutDoll_17 ⟨Nat.zero_le _, Nat.zero_le _⟩ (fun H locs hP hS => ?_)
    rcases fr_c a with hf8 | hf8
    · refine tope (y := -1) (frI_8 hf8) ?_
      refine lv_istore_n (lv' := [(3, .int ((-1))), (0, .ref d0), (1, .int (nI k)), (2, .int (bI b))]) hx hb dX6_cutDoll_20 rfl hl (by decide) rfl (fun ls hl => ?_)
      refine lv_iload_n hx hb dX6_cutDoll_21 rfl (lv_at hl 0 rfl) ?_
      refine lv_iconst (v := -1) hx hb dX6_cutDoll_22 (by decide) ?_
      refine lv_icmp_ne (tgt := 29) hx hb dX6_cutDoll_23 (by decide) (fun c_23 => absurd c_23 ((fun h => h rfl))) (fun c_23 => ?_)
      refine lv_bipush (v := -3) hx hb dX6_cutDoll_26 (by decide) ?_
      have hE : aCut a (nI k) b = ((-3), none) := by first | (simp only [aCut, hcx]; simp [c_8, c_23, hf8]; done) | (simp only [aCut, hcx]; simp [c_8, c_23, hf8]; omega)
      refine tope (y := (aCut a (nI k) b).1) (by rw [hE]) ?_
      exact RET _ _ _ _ _ (o, r, hs, a) dX6_cutDoll_28 rfl ⟨rfl, (by rw [hE]; exact ⟨rfl, rfl, rfl, rfl⟩)⟩ hP hS
    · refine tope (y := nI (fr a)) (frI_n hf8) ?_
      refine lv_istore_n (lv' := [(3, .int (nI (fr a))), (0, .ref d0), (1, .int (nI k)), (2, .int (bI b))]) hx hb dX6_cutDoll_20 rfl hl (by decide) rfl (fun ls hl => ?_)
      refine lv_iload_n hx hb dX6_cutDoll_21 rfl (lv_at hl 0 rfl) ?_
      refine lv_iconst (v := -1) hx hb dX6_cutDoll_22 (by decide) ?_
      refine lv_icmp_ne (tgt := 29) hx hb dX6_cutDoll_23 (by decide) (fun c_23 => ?_) (fun c_23 => absurd c_23 ((nI_m1 (by omega))))
      refine lv_aload_n hx hb dX6_cutDoll_29 rfl (lv_at hl 1 rfl) ?_
      refine va_get (D := D) (cl := vwCl) (ci := 6) (v := .ref c0) (C := RX6) (T := TX6) (N := 8) hx hb hts inf_X6_cutDoll_X6 hown hK.1 (hR.at hS) 0 rfl rfl 3 (by decide) (hts _ (List.mem_of_getElem? (i := 2) rfl)) (fun _ h9 => h9) rfl dX6_cutDoll_30 ?_
      refine lv_aload_n hx hb dX6_cutDoll_33 rfl (lv_at hl 1 rfl) ?_
      refine va_get (D := D) (cl := vwCl) (ci := 6) (v := .ref h0) (C := RX6) (T := TX6) (N := 8) hx hb hts inf_X6_cutDoll_X6 hown hK.1 (hR.at hS) 0 rfl rfl 0 (by decide) (hts _ (List.mem_of_getElem? (i := 1) rfl)) (fun _ h9 => h9) rfl dX6_cutDoll_34 ?_
      refine call_v (q := (RX1, TX1, 3)) (As := [.ref h0]) (rest := []) F (c_X1_remember l D cA c0 c1 c2 o r hs h0 h1 h2 a (by omega) (by omega)) (cwV 1 hts gX6_cutDoll_X1_remember rfl rfl rfl ydv_X1_remember ⟨Nat.le_of_ble_eq_true rfl, Nat.le_of_ble_eq_true rfl⟩) hK hR hP hD hA hS [1, 2, 3, 4, 5, 6] [0, 1, 2] rfl rfl rfl 4 1 rfl rfl (fun _ => rfl) rfl hl.1 rfl (Nat.le_of_ble_eq_true rfl) dX6_cutDoll_37 ⟨Nat.zero_le _, Nat.zero_le _⟩ (fun u_37 H locs hw hP hD hS => ?_)
      have hP : va_P D vwCl [(c0, .inr (1, [.ref c1, .int (nI (hisO o r)), .int (nI (hisT r + 1))])), (c2, .inl (cA, 1144, .inl (nF (cpyN a hs 0 ((hisO o r + hisT r) % 4 * 286) 286)))), (h2, .inl (cA, 286, .inl (nF a)))] H := hP
      have hD : va_D A [(c0, .inr (1, [.ref c1, .int (nI (hisO o r)), .int (nI (hisT r + 1))])), (c2, .inl (cA, 1144, .inl (nF (cpyN a hs 0 ((hisO o r + hisT r) % 4 * 286) 286)))), (h2, .inl (cA, 286, .inl (nF a)))] := hD
      refine lv_aload_n hx hb dX6_cutDoll_40 rfl (lv_at hl 1 rfl) ?_
      refine va_get (D := D) (cl := vwCl) (ci := 6) (v := .ref h0) (C := RX6) (T := TX6) (N := 8) hx hb hts inf_X6_cutDoll_X6 hown hK.1 (hR.at hS) 0 rfl rfl 0 (by decide) (hts _ (List.mem_of_getElem? (i := 1) rfl)) (fun _ h9 => h9) rfl dX6_cutDoll_41 ?_
      refine lv_iload_n hx hb dX6_cutDoll_44 rfl (lv_at hl 0 rfl) ?_
      refine lv_iconst (v := nI 0) hx hb dX6_cutDoll_45 (by decide) ?_
      refine lv_iload_n hx hb dX6_cutDoll_46 rfl (lv_at hl 2 rfl) ?_
      refine lv_iload_n hx hb dX6_cutDoll_47 rfl (lv_at hl 3 rfl) ?_
      refine call_s (As := [.int (nI k), .int (bI b)]) (rest := [.int (nI 0), .int (nI (fr a)), .ref h0]) F (c_X6_dollOf l D cA k b) (va_cwS 2 hts gX6_cutDoll_X6_dollOf rfl rfl rfl yd_X6_dollOf ⟨Nat.le_of_ble_eq_true rfl, Nat.le_of_ble_eq_true rfl⟩) hK hR hP hD hA hS rfl hl.1 rfl (Nat.le_of_ble_eq_true rfl) dX6_cutDoll_48 ⟨Nat.zero_le _, Nat.zero_le _⟩ (fun H locs hP hS => ?_)
      refine call_v (q := (RX4, TX4, 1)) (As := [.int (nI (fr a)), .int (nI 0), .int (nI (2 * k + b2n b))]) (rest := []) F (c_X4_putDoll l D cA h0 h1 h2 a (fr a) 0 (2 * k + b2n b) (by omega) (by omega)) (cwV 3 hts gX6_cutDoll_X4_putDoll rfl rfl rfl ydv_X4_putDoll ⟨Nat.le_of_ble_eq_true rfl, Nat.le_of_ble_eq_true rfl⟩) hK hR hP hD hA hS [2, 3, 6] [2] rfl rfl rfl 2 4 rfl rfl (fun _ => rfl) rfl hl.1 rfl (Nat.le_of_ble_eq_true rfl) dX6_cutDoll_51 ⟨Nat.zero_le _, Nat.zero_le _⟩ (fun u_51 H locs hw hP hD hS => ?_)
      have hP : va_P D vwCl [(c0, .inr (1, [.ref c1, .int (nI (hisO o r)), .int (nI (hisT r + 1))])), (c2, .inl (cA, 1144, .inl (nF (cpyN a hs 0 ((hisO o r + hisT r) % 4 * 286) 286)))), (h2, .inl (cA, 286, .inl (nF (updN a (30 + (fr a) * 32 + 0) (2 * k + b2n b)))))] H := hP
      have hD : va_D A [(c0, .inr (1, [.ref c1, .int (nI (hisO o r)), .int (nI (hisT r + 1))])), (c2, .inl (cA, 1144, .inl (nF (cpyN a hs 0 ((hisO o r + hisT r) % 4 * 286) 286)))), (h2, .inl (cA, 286, .inl (nF (updN a (30 + (fr a) * 32 + 0) (2 * k + b2n b)))))] := hD
      refine lv_aload_n hx hb dX6_cutDoll_54 rfl (lv_at hl 1 rfl) ?_
      refine va_get (D := D) (cl := vwCl) (ci := 6) (v := .ref h0) (C := RX6) (T := TX6) (N := 8) hx hb hts inf_X6_cutDoll_X6 hown hK.1 (hR.at hS) 0 rfl rfl 0 (by decide) (hts _ (List.mem_of_getElem? (i := 1) rfl)) (fun _ h9 => h9) rfl dX6_cutDoll_55 ?_
      refine lv_iload_n hx hb dX6_cutDoll_58 rfl (lv_at hl 0 rfl) ?_
      refine lv_iconst (v := nI 1) hx hb dX6_cutDoll_59 (by decide) ?_
      refine call_v (q := (RX4, TX4, 1)) (As := [.int (nI (fr a)), .int (nI 1)]) (rest := []) F (c_X4_putLength l D cA h0 h1 h2 (updN a (30 + (fr a) * 32 + 0) (2 * k + b2n b)) (fr a) 1 (by omega)) (cwV 2 hts gX6_cutDoll_X4_putLength rfl rfl rfl ydv_X4_putLength ⟨Nat.le_of_ble_eq_true rfl, Nat.le_of_ble_eq_true rfl⟩) hK hR hP hD hA hS [2, 3, 6] [2] rfl rfl rfl 2 4 rfl rfl (fun _ => rfl) rfl hl.1 rfl (Nat.le_of_ble_eq_true rfl) dX6_cutDoll_60 ⟨Nat.zero_le _, Nat.zero_le _⟩ (fun u_60 H locs hw hP hD hS => ?_)
      have hP : va_P D vwCl [(c0, .inr (1, [.ref c1, .int (nI (hisO o r)), .int (nI (hisT r + 1))])), (c2, .inl (cA, 1144, .inl (nF (cpyN a hs 0 ((hisO o r + hisT r) % 4 * 286) 286)))), (h2, .inl (cA, 286, .inl (nF (updN (updN a (30 + (fr a) * 32 + 0) (2 * k + b2n b)) (22 + (fr a)) 1))))] H := hP
      have hD : va_D A [(c0, .inr (1, [.ref c1, .int (nI (hisO o r)), .int (nI (hisT r + 1))])), (c2, .inl (cA, 1144, .inl (nF (cpyN a hs 0 ((hisO o r + hisT r) % 4 * 286) 286)))), (h2, .inl (cA, 286, .inl (nF (updN (updN a (30 + (fr a) * 32 + 0) (2 * k + b2n b)) (22 + (fr a)) 1))))] := hD
      refine lv_iload_n hx hb dX6_cutDoll_63 rfl (lv_at hl 0 rfl) ?_
      have hE : aCut a (nI k) b = (nI (fr a), some (updN (updN a (30 + (fr a) * 32 + 0) (2 * k + b2n b)) (22 + (fr a)) 1)) := by first | (simp only [aCut, hcx]; simp [c_8, c_23, Nat.ne_of_lt hf8]; done) | (simp only [aCut, hcx]; simp [c_8, c_23, Nat.ne_of_lt hf8]; omega)
      refine tope (y := (aCut a (nI k) b).1) (by rw [hE]) ?_
      exact RET _ _ _ _ _ (hisO o r, hisT r + 1, cpyN a hs 0 ((hisO o r + hisT r) % 4 * 286) 286, updN (updN a (30 + (fr a) * 32 + 0) (2 * k + b2n b)) (22 + (fr a)) 1) dX6_cutDoll_64 rfl ⟨rfl, (by rw [hE]; exact ⟨rfl, rfl, rfl, rfl⟩)⟩ hP hS
  · refine lv_iconst (v := -1) hx hb dX6_cutDoll_11 (by decide) ?_
    have hE : aCut a x b = ((-1), none) := by first | (simp only [aCut]; simp [c_8]; done) | (simp only [aCut]; simp [c_8]; omega)
    refine tope (y := (aCut a x b).1) (by rw [hE]) ?_
    exact RET _ _ _ _ _ (o, r, hs, a) dX6_cutDoll_12 rfl ⟨rfl, (by rw [hE]; exact ⟨rfl, rfl, rfl, rfl⟩)⟩ hP hS
abbrev rm_X6_join : Room := { frames := 4, cells := 0, slots := 0, locals := 93 }
theorem ydv_X6_join : yX6_join.cls = RX6 ∧ yX6_join.cls ≠ "java/lang/invoke/MethodHandle" ∧ yX6_join.cls ≠ "java/lang/invoke/VarHandle" ∧ (parseMethodDescriptor yX6_join.desc).map (fun d => d.parameters.length) = some 2 := by decide +kernel
theorem inf_X6_join_X6 : ∀ w ∈ wsX60, w ∈ wsX6_join := fun w h => List.mem_cons_of_mem _ (List.mem_append_left _ (List.mem_append_left _ (List.mem_append_left _ (List.mem_append_right _ (h)))))
set_option maxHeartbeats 4000000 in
set_option maxRecDepth 100000 in
theorem c_X6_join (l : Launch) (D : va_G) (cA : ClassId) (d0 h0 k0 q0 c0 t0 s0 b0 : Nat) (fs : List Value) (c1 c2 : Nat) (o r : Nat) (hs : Nat → Nat) (h1 h2 : Nat) (a : Nat → Nat)  (x y : Int32) (ho : o < 4) (hr_ : r ≤ 4) (hV : Vd a) : MI l D cA yX6_join wsX6_join rm_X6_join [.ref d0, .int x, .int y] [(d0, .inr (6, .ref h0 :: .ref k0 :: .ref q0 :: .ref c0 :: .ref t0 :: .ref s0 :: .ref b0 :: fs)), (c1, .inr (3, [.ref c2])), (h0, .inr (4, [.ref h1])), (h1, .inr (3, [.ref h2]))] [(c0, .inr (1, [.ref c1, .int (nI o), .int (nI r)])), (c2, .inl (cA, 1144, .inl (nF hs))), (h2, .inl (cA, 286, .inl (nF a)))] (S := (Nat) × (Nat) × (Nat → Nat) × (Nat → Nat)) (fun rr_ (uu_ : (Nat) × (Nat) × (Nat → Nat) × (Nat → Nat)) => rr_ = (aJoin a x y).1 ∧ (ActC a hs o r (aJoin a x y).2 uu_.1 uu_.2.1 uu_.2.2.1 uu_.2.2.2)) (fun (uu_ : (Nat) × (Nat) × (Nat → Nat) × (Nat → Nat)) => [(c0, .inr (1, [.ref c1, .int (nI uu_.1), .int (nI uu_.2.1)])), (c2, .inl (cA, 1144, .inl (nF uu_.2.2.1))), (h2, .inl (cA, 286, .inl (nF uu_.2.2.2)))]) := by
  refine ofWi (cc := cX6_join) (maxL := 5) (rt := .int) (by decide) rfl (Nat.le_of_ble_eq_true rfl) ?_
  intro p e s m args below meth c Q A ls F hK hR hP hD hA hS hl RET
  obtain ⟨hx, hb, hml, hown, hts⟩ := id F
  have hl : lv_has ls 5 [(0, .ref d0), (1, .int x), (2, .int y)] := hl
  refine lv_aload_n hx hb dX6_join_0 rfl (lv_at hl 0 rfl) ?_
  refine va_get (D := D) (cl := vwCl) (ci := 6) (v := .ref h0) (C := RX6) (T := TX6) (N := 8) hx hb hts inf_X6_join_X6 hown hK.1 (hR.at hS) 0 rfl rfl 0 (by decide) (hts _ (List.mem_of_getElem? (i := 1) rfl)) (fun _ h9 => h9) rfl dX6_join_1 ?_
  refine lv_iload_n hx hb dX6_join_4 rfl (lv_at hl 1 rfl) ?_
  refine call_r (q := (RX4, TX4, 1)) (As := [.int x]) (rest := []) F (c_X4_hasGarland l D cA h0 h1 h2 a x (fun g hg => by have := hV.1 g hg; omega)) (cwV 1 hts gX6_join_X4_hasGarland rfl rfl rfl ydv_X4_hasGarland ⟨Nat.le_of_ble_eq_true rfl, Nat.le_of_ble_eq_true rfl⟩) hK hR hP hD hA hS [2, 3, 6] rfl rfl 2 4 rfl rfl rfl hl.1 rfl (Nat.le_of_ble_eq_true rfl) dX6_join_5 ⟨Nat.zero_le _, Nat.zero_le _⟩ (fun H locs hP hS => ?_)
  refine bv_if_eq (tgt := 22) hx hb dX6_join_8 (by decide) (fun c_8 => ?_) (fun c_8 => ?_)
  · refine lv_iconst (v := -1) hx hb dX6_join_22 (by decide) ?_
    have hE : aJoin a x y = ((-1), none) := by first | (simp only [aJoin]; simp [c_8]; done) | (simp only [aJoin]; simp [c_8]; omega)
    refine tope (y := (aJoin a x y).1) (by rw [hE]) ?_
    exact RET _ _ _ _ _ (o, r, hs, a) dX6_join_23 rfl ⟨rfl, (by rw [hE]; exact ⟨rfl, rfl, rfl, rfl⟩)⟩ hP hS
  · obtain ⟨g, hg, rfl, hg0⟩ := inG_t c_8
    have hcx : cN (nI g) = g := cN_nI (by omega)
    refine lv_aload_n hx hb dX6_join_11 rfl (lv_at hl 0 rfl) ?_
    refine va_get (D := D) (cl := vwCl) (ci := 6) (v := .ref h0) (C := RX6) (T := TX6) (N := 8) hx hb hts inf_X6_join_X6 hown hK.1 (hR.at hS) 0 rfl rfl 0 (by decide) (hts _ (List.mem_of_getElem? (i := 1) rfl)) (fun _ h9 => h9) rfl dX6_join_12 ?_
    refine lv_iload_n hx hb dX6_join_15 rfl (lv_at hl 2 rfl) ?_
    refine call_r (q := (RX4, TX4, 1)) (As := [.int y]) (rest := []) F (c_X4_hasGarland l D cA h0 h1 h2 a y (fun g hg => by have := hV.1 g hg; omega)) (cwV 1 hts gX6_join_X4_hasGarland rfl rfl rfl ydv_X4_hasGarland ⟨Nat.le_of_ble_eq_true rfl, Nat.le_of_ble_eq_true rfl⟩) hK hR hP hD hA hS [2, 3, 6] rfl rfl 2 4 rfl rfl rfl hl.1 rfl (Nat.le_of_ble_eq_true rfl) dX6_join_16 ⟨Nat.zero_le _, Nat.zero_le _⟩ (fun H locs hP hS => ?_)
    refine bv_if_ne (tgt := 24) hx hb dX6_join_19 (by decide) (fun c_19 => ?_) (fun c_19 => ?_)
    · obtain ⟨o_, ho_, rfl, ho0⟩ := inG_t c_19
      have hcy : cN (nI o_) = o_ := cN_nI (by omega)
      have hl1 := hV.l hg
      have hl2 := hV.l ho_
      have hd1 := hV.d (q := ln a g - 1) hg (by omega)
      have hd2 := hV.d (q := 0) ho_ (by omega)
      refine lv_iload_n hx hb dX6_join_24 rfl (lv_at hl 1 rfl) ?_
      refine lv_iload_n hx hb dX6_join_25 rfl (lv_at hl 2 rfl) ?_
      refine nv_icmp_ne (tgt := 32) hx hb dX6_join_26 (by decide) (by omega) (by omega) (fun c_26 => ?_) (fun c_26 => ?_)
      · refine lv_aload_n hx hb dX6_join_32 rfl (lv_at hl 0 rfl) ?_
        refine va_get (D := D) (cl := vwCl) (ci := 6) (v := .ref h0) (C := RX6) (T := TX6) (N := 8) hx hb hts inf_X6_join_X6 hown hK.1 (hR.at hS) 0 rfl rfl 0 (by decide) (hts _ (List.mem_of_getElem? (i := 1) rfl)) (fun _ h9 => h9) rfl dX6_join_33 ?_
        refine lv_aload_n hx hb dX6_join_36 rfl (lv_at hl 0 rfl) ?_
        refine va_get (D := D) (cl := vwCl) (ci := 6) (v := .ref h0) (C := RX6) (T := TX6) (N := 8) hx hb hts inf_X6_join_X6 hown hK.1 (hR.at hS) 0 rfl rfl 0 (by decide) (hts _ (List.mem_of_getElem? (i := 1) rfl)) (fun _ h9 => h9) rfl dX6_join_37 ?_
        refine lv_iload_n hx hb dX6_join_40 rfl (lv_at hl 1 rfl) ?_
        refine call_r (q := (RX4, TX4, 1)) (As := [.int (nI g)]) (rest := [.ref h0]) F (c_X4_lastDoll l D cA h0 h1 h2 a g (by omega) (by omega) (by omega)) (cwV 1 hts gX6_join_X4_lastDoll rfl rfl rfl ydv_X4_lastDoll ⟨Nat.le_of_ble_eq_true rfl, Nat.le_of_ble_eq_true rfl⟩) hK hR hP hD hA hS [2, 3, 6] rfl rfl 2 4 rfl rfl rfl hl.1 rfl (Nat.le_of_ble_eq_true rfl) dX6_join_41 ⟨Nat.zero_le _, Nat.zero_le _⟩ (fun H locs hP hS => ?_)
        refine lv_aload_n hx hb dX6_join_44 rfl (lv_at hl 0 rfl) ?_
        refine va_get (D := D) (cl := vwCl) (ci := 6) (v := .ref h0) (C := RX6) (T := TX6) (N := 8) hx hb hts inf_X6_join_X6 hown hK.1 (hR.at hS) 0 rfl rfl 0 (by decide) (hts _ (List.mem_of_getElem? (i := 1) rfl)) (fun _ h9 => h9) rfl dX6_join_45 ?_
        refine lv_iload_n hx hb dX6_join_48 rfl (lv_at hl 2 rfl) ?_
        refine call_r (q := (RX4, TX4, 1)) (As := [.int (nI o_)]) (rest := [.int (nI (dl a g (ln a g - 1))), .ref h0]) F (c_X4_firstDoll l D cA h0 h1 h2 a o_ (by omega)) (cwV 1 hts gX6_join_X4_firstDoll rfl rfl rfl ydv_X4_firstDoll ⟨Nat.le_of_ble_eq_true rfl, Nat.le_of_ble_eq_true rfl⟩) hK hR hP hD hA hS [2, 3, 6] rfl rfl 2 4 rfl rfl rfl hl.1 rfl (Nat.le_of_ble_eq_true rfl) dX6_join_49 ⟨Nat.zero_le _, Nat.zero_le _⟩ (fun H locs hP hS => ?_)
        refine call_r (q := (RX4, TX4, 1)) (As := [.int (nI (dl a g (ln a g - 1))), .int (nI (dl a o_ 0))]) (rest := []) F (c_X4_clash l D cA h0 h1 h2 a (dl a g (ln a g - 1)) (dl a o_ 0) (hV.r) (by omega) (by omega) (hV)) (cwV 2 hts gX6_join_X4_clash rfl rfl rfl ydv_X4_clash ⟨Nat.le_of_ble_eq_true rfl, Nat.le_of_ble_eq_true rfl⟩) hK hR hP hD hA hS [2, 3, 6] rfl rfl 2 4 rfl rfl rfl hl.1 rfl (Nat.le_of_ble_eq_true rfl) dX6_join_52 ⟨Nat.zero_le _, Nat.zero_le _⟩ (fun H locs hP hS => ?_)
        refine bv_if_eq (tgt := 61) hx hb dX6_join_55 (by decide) (fun c_55 => ?_) (fun c_55 => ?_)
        · refine lv_aload_n hx hb dX6_join_61 rfl (lv_at hl 0 rfl) ?_
          refine va_get (D := D) (cl := vwCl) (ci := 6) (v := .ref h0) (C := RX6) (T := TX6) (N := 8) hx hb hts inf_X6_join_X6 hown hK.1 (hR.at hS) 0 rfl rfl 0 (by decide) (hts _ (List.mem_of_getElem? (i := 1) rfl)) (fun _ h9 => h9) rfl dX6_join_62 ?_
          refine lv_iload_n hx hb dX6_join_65 rfl (lv_at hl 1 rfl) ?_
          refine call_r (q := (RX4, TX4, 1)) (As := [.int (nI g)]) (rest := []) F (c_X4_lengthOf l D cA h0 h1 h2 a g (by omega)) (cwV 1 hts gX6_join_X4_lengthOf rfl rfl rfl ydv_X4_lengthOf ⟨Nat.le_of_ble_eq_true rfl, Nat.le_of_ble_eq_true rfl⟩) hK hR hP hD hA hS [2, 3, 6] rfl rfl 2 4 rfl rfl rfl hl.1 rfl (Nat.le_of_ble_eq_true rfl) dX6_join_66 ⟨Nat.zero_le _, Nat.zero_le _⟩ (fun H locs hP hS => ?_)
          refine lv_istore_n (lv' := [(3, .int (nI (ln a g))), (0, .ref d0), (1, .int (nI g)), (2, .int (nI o_))]) hx hb dX6_join_69 rfl hl (by decide) rfl (fun ls hl => ?_)
          refine lv_iload_n hx hb dX6_join_70 rfl (lv_at hl 0 rfl) ?_
          refine lv_aload_n hx hb dX6_join_71 rfl (lv_at hl 1 rfl) ?_
          refine va_get (D := D) (cl := vwCl) (ci := 6) (v := .ref h0) (C := RX6) (T := TX6) (N := 8) hx hb hts inf_X6_join_X6 hown hK.1 (hR.at hS) 0 rfl rfl 0 (by decide) (hts _ (List.mem_of_getElem? (i := 1) rfl)) (fun _ h9 => h9) rfl dX6_join_72 ?_
          refine lv_iload_n hx hb dX6_join_75 rfl (lv_at hl 3 rfl) ?_
          refine call_r (q := (RX4, TX4, 1)) (As := [.int (nI o_)]) (rest := [.int (nI (ln a g))]) F (c_X4_lengthOf l D cA h0 h1 h2 a o_ (by omega)) (cwV 1 hts gX6_join_X4_lengthOf rfl rfl rfl ydv_X4_lengthOf ⟨Nat.le_of_ble_eq_true rfl, Nat.le_of_ble_eq_true rfl⟩) hK hR hP hD hA hS [2, 3, 6] rfl rfl 2 4 rfl rfl rfl hl.1 rfl (Nat.le_of_ble_eq_true rfl) dX6_join_76 ⟨Nat.zero_le _, Nat.zero_le _⟩ (fun H locs hP hS => ?_)
          refine nv_iadd hx hb dX6_join_79 ?_
          refine lv_istore (lv' := [(4, .int (nI ((ln a g) + (ln a o_)))), (3, .int (nI (ln a g))), (0, .ref d0), (1, .int (nI g)), (2, .int (nI o_))]) hx hb dX6_join_80 hl (by decide) rfl (fun ls hl => ?_)
          refine lv_iload hx hb dX6_join_82 (lv_at hl 0 rfl) ?_
          refine lv_bipush (v := nI 32) hx hb dX6_join_84 (by decide) ?_
          refine nv_icmp_le (tgt := 92) hx hb dX6_join_86 (by decide) (by omega) (by decide) (fun c_86 => ?_) (fun c_86 => ?_)
          · refine lv_aload_n hx hb dX6_join_92 rfl (lv_at hl 2 rfl) ?_
            refine va_get (D := D) (cl := vwCl) (ci := 6) (v := .ref c0) (C := RX6) (T := TX6) (N := 8) hx hb hts inf_X6_join_X6 hown hK.1 (hR.at hS) 0 rfl rfl 3 (by decide) (hts _ (List.mem_of_getElem? (i := 2) rfl)) (fun _ h9 => h9) rfl dX6_join_93 ?_
            refine lv_aload_n hx hb dX6_join_96 rfl (lv_at hl 2 rfl) ?_
            refine va_get (D := D) (cl := vwCl) (ci := 6) (v := .ref h0) (C := RX6) (T := TX6) (N := 8) hx hb hts inf_X6_join_X6 hown hK.1 (hR.at hS) 0 rfl rfl 0 (by decide) (hts _ (List.mem_of_getElem? (i := 1) rfl)) (fun _ h9 => h9) rfl dX6_join_97 ?_
            refine call_v (q := (RX1, TX1, 3)) (As := [.ref h0]) (rest := []) F (c_X1_remember l D cA c0 c1 c2 o r hs h0 h1 h2 a (by omega) (by omega)) (cwV 1 hts gX6_join_X1_remember rfl rfl rfl ydv_X1_remember ⟨Nat.le_of_ble_eq_true rfl, Nat.le_of_ble_eq_true rfl⟩) hK hR hP hD hA hS [1, 2, 3, 4, 5, 6] [0, 1, 2] rfl rfl rfl 4 1 rfl rfl (fun _ => rfl) rfl hl.1 rfl (Nat.le_of_ble_eq_true rfl) dX6_join_100 ⟨Nat.zero_le _, Nat.zero_le _⟩ (fun u_100 H locs hw hP hD hS => ?_)
            have hP : va_P D vwCl [(c0, .inr (1, [.ref c1, .int (nI (hisO o r)), .int (nI (hisT r + 1))])), (c2, .inl (cA, 1144, .inl (nF (cpyN a hs 0 ((hisO o r + hisT r) % 4 * 286) 286)))), (h2, .inl (cA, 286, .inl (nF a)))] H := hP
            have hD : va_D A [(c0, .inr (1, [.ref c1, .int (nI (hisO o r)), .int (nI (hisT r + 1))])), (c2, .inl (cA, 1144, .inl (nF (cpyN a hs 0 ((hisO o r + hisT r) % 4 * 286) 286)))), (h2, .inl (cA, 286, .inl (nF a)))] := hD
            refine lv_aload_n hx hb dX6_join_103 rfl (lv_at hl 2 rfl) ?_
            refine va_get (D := D) (cl := vwCl) (ci := 6) (v := .ref h0) (C := RX6) (T := TX6) (N := 8) hx hb hts inf_X6_join_X6 hown hK.1 (hR.at hS) 0 rfl rfl 0 (by decide) (hts _ (List.mem_of_getElem? (i := 1) rfl)) (fun _ h9 => h9) rfl dX6_join_104 ?_
            refine lv_iload_n hx hb dX6_join_107 rfl (lv_at hl 4 rfl) ?_
            refine lv_iconst (v := nI 0) hx hb dX6_join_108 (by decide) ?_
            refine lv_iload_n hx hb dX6_join_109 rfl (lv_at hl 3 rfl) ?_
            refine lv_iload_n hx hb dX6_join_110 rfl (lv_at hl 1 rfl) ?_
            refine lv_iload hx hb dX6_join_111 (lv_at hl 0 rfl) ?_
            refine lv_iload_n hx hb dX6_join_113 rfl (lv_at hl 1 rfl) ?_
            refine nv_isub hx hb dX6_join_114 (by omega) ?_
            refine call_v (q := (RX4, TX4, 1)) (As := [.int (nI o_), .int (nI 0), .int (nI g), .int (nI (ln a g)), .int (nI (((ln a g) + (ln a o_)) - (ln a g)))]) (rest := []) F (c_X4_copyDolls l D cA h0 h1 h2 a o_ 0 g (ln a g) (((ln a g) + (ln a o_)) - (ln a g)) (by omega) (by omega)) (cwV 5 hts gX6_join_X4_copyDolls rfl rfl rfl ydv_X4_copyDolls ⟨Nat.le_of_ble_eq_true rfl, Nat.le_of_ble_eq_true rfl⟩) hK hR hP hD hA hS [2, 3, 6] [2] rfl rfl rfl 2 4 rfl rfl (fun _ => rfl) rfl hl.1 rfl (Nat.le_of_ble_eq_true rfl) dX6_join_115 ⟨Nat.zero_le _, Nat.zero_le _⟩ (fun u_115 H locs hw hP hD hS => ?_)
            have hP : va_P D vwCl [(c0, .inr (1, [.ref c1, .int (nI (hisO o r)), .int (nI (hisT r + 1))])), (c2, .inl (cA, 1144, .inl (nF (cpyN a hs 0 ((hisO o r + hisT r) % 4 * 286) 286)))), (h2, .inl (cA, 286, .inl (nF (cpyN a a (30 + o_ * 32 + 0) (30 + g * 32 + (ln a g)) (((ln a g) + (ln a o_)) - (ln a g))))))] H := hP
            have hD : va_D A [(c0, .inr (1, [.ref c1, .int (nI (hisO o r)), .int (nI (hisT r + 1))])), (c2, .inl (cA, 1144, .inl (nF (cpyN a hs 0 ((hisO o r + hisT r) % 4 * 286) 286)))), (h2, .inl (cA, 286, .inl (nF (cpyN a a (30 + o_ * 32 + 0) (30 + g * 32 + (ln a g)) (((ln a g) + (ln a o_)) - (ln a g))))))] := hD
            refine lv_aload_n hx hb dX6_join_118 rfl (lv_at hl 2 rfl) ?_
            refine va_get (D := D) (cl := vwCl) (ci := 6) (v := .ref h0) (C := RX6) (T := TX6) (N := 8) hx hb hts inf_X6_join_X6 hown hK.1 (hR.at hS) 0 rfl rfl 0 (by decide) (hts _ (List.mem_of_getElem? (i := 1) rfl)) (fun _ h9 => h9) rfl dX6_join_119 ?_
            refine lv_iload_n hx hb dX6_join_122 rfl (lv_at hl 3 rfl) ?_
            refine lv_iload hx hb dX6_join_123 (lv_at hl 0 rfl) ?_
            refine call_v (q := (RX4, TX4, 1)) (As := [.int (nI g), .int (nI ((ln a g) + (ln a o_)))]) (rest := []) F (c_X4_putLength l D cA h0 h1 h2 (cpyN a a (30 + o_ * 32 + 0) (30 + g * 32 + (ln a g)) (((ln a g) + (ln a o_)) - (ln a g))) g ((ln a g) + (ln a o_)) (by omega)) (cwV 2 hts gX6_join_X4_putLength rfl rfl rfl ydv_X4_putLength ⟨Nat.le_of_ble_eq_true rfl, Nat.le_of_ble_eq_true rfl⟩) hK hR hP hD hA hS [2, 3, 6] [2] rfl rfl rfl 2 4 rfl rfl (fun _ => rfl) rfl hl.1 rfl (Nat.le_of_ble_eq_true rfl) dX6_join_125 ⟨Nat.zero_le _, Nat.zero_le _⟩ (fun u_125 H locs hw hP hD hS => ?_)
            have hP : va_P D vwCl [(c0, .inr (1, [.ref c1, .int (nI (hisO o r)), .int (nI (hisT r + 1))])), (c2, .inl (cA, 1144, .inl (nF (cpyN a hs 0 ((hisO o r + hisT r) % 4 * 286) 286)))), (h2, .inl (cA, 286, .inl (nF (updN (cpyN a a (30 + o_ * 32 + 0) (30 + g * 32 + (ln a g)) (((ln a g) + (ln a o_)) - (ln a g))) (22 + g) ((ln a g) + (ln a o_))))))] H := hP
            have hD : va_D A [(c0, .inr (1, [.ref c1, .int (nI (hisO o r)), .int (nI (hisT r + 1))])), (c2, .inl (cA, 1144, .inl (nF (cpyN a hs 0 ((hisO o r + hisT r) % 4 * 286) 286)))), (h2, .inl (cA, 286, .inl (nF (updN (cpyN a a (30 + o_ * 32 + 0) (30 + g * 32 + (ln a g)) (((ln a g) + (ln a o_)) - (ln a g))) (22 + g) ((ln a g) + (ln a o_))))))] := hD
            refine lv_aload_n hx hb dX6_join_128 rfl (lv_at hl 2 rfl) ?_
            refine va_get (D := D) (cl := vwCl) (ci := 6) (v := .ref h0) (C := RX6) (T := TX6) (N := 8) hx hb hts inf_X6_join_X6 hown hK.1 (hR.at hS) 0 rfl rfl 0 (by decide) (hts _ (List.mem_of_getElem? (i := 1) rfl)) (fun _ h9 => h9) rfl dX6_join_129 ?_
            refine lv_iload_n hx hb dX6_join_132 rfl (lv_at hl 4 rfl) ?_
            refine lv_iconst (v := nI 0) hx hb dX6_join_133 (by decide) ?_
            refine call_v (q := (RX4, TX4, 1)) (As := [.int (nI o_), .int (nI 0)]) (rest := []) F (c_X4_putLength l D cA h0 h1 h2 (updN (cpyN a a (30 + o_ * 32 + 0) (30 + g * 32 + (ln a g)) (((ln a g) + (ln a o_)) - (ln a g))) (22 + g) ((ln a g) + (ln a o_))) o_ 0 (by omega)) (cwV 2 hts gX6_join_X4_putLength rfl rfl rfl ydv_X4_putLength ⟨Nat.le_of_ble_eq_true rfl, Nat.le_of_ble_eq_true rfl⟩) hK hR hP hD hA hS [2, 3, 6] [2] rfl rfl rfl 2 4 rfl rfl (fun _ => rfl) rfl hl.1 rfl (Nat.le_of_ble_eq_true rfl) dX6_join_134 ⟨Nat.zero_le _, Nat.zero_le _⟩ (fun u_134 H locs hw hP hD hS => ?_)
            have hP : va_P D vwCl [(c0, .inr (1, [.ref c1, .int (nI (hisO o r)), .int (nI (hisT r + 1))])), (c2, .inl (cA, 1144, .inl (nF (cpyN a hs 0 ((hisO o r + hisT r) % 4 * 286) 286)))), (h2, .inl (cA, 286, .inl (nF (updN (updN (cpyN a a (30 + o_ * 32 + 0) (30 + g * 32 + (ln a g)) (((ln a g) + (ln a o_)) - (ln a g))) (22 + g) ((ln a g) + (ln a o_))) (22 + o_) 0))))] H := hP
            have hD : va_D A [(c0, .inr (1, [.ref c1, .int (nI (hisO o r)), .int (nI (hisT r + 1))])), (c2, .inl (cA, 1144, .inl (nF (cpyN a hs 0 ((hisO o r + hisT r) % 4 * 286) 286)))), (h2, .inl (cA, 286, .inl (nF (updN (updN (cpyN a a (30 + o_ * 32 + 0) (30 + g * 32 + (ln a g)) (((ln a g) + (ln a o_)) - (ln a g))) (22 + g) ((ln a g) + (ln a o_))) (22 + o_) 0))))] := hD
            refine lv_iload hx hb dX6_join_137 (lv_at hl 0 rfl) ?_
            have hE : aJoin a (nI g) (nI o_) = (nI ((ln a g) + (ln a o_)), some (updN (updN (cpyN a a (30 + o_ * 32 + 0) (30 + g * 32 + (ln a g)) (((ln a g) + (ln a o_)) - (ln a g))) (22 + g) ((ln a g) + (ln a o_))) (22 + o_) 0)) := by first | (simp only [aJoin, hcx, hcy]; simp [c_8, c_19, c_26, c_55, c_86]; done) | (simp only [aJoin, hcx, hcy]; simp [c_8, c_19, c_26, c_55, c_86]; omega)
            refine tope (y := (aJoin a (nI g) (nI o_)).1) (by rw [hE]) ?_
            exact RET _ _ _ _ _ (hisO o r, hisT r + 1, cpyN a hs 0 ((hisO o r + hisT r) % 4 * 286) 286, updN (updN (cpyN a a (30 + o_ * 32 + 0) (30 + g * 32 + (ln a g)) (((ln a g) + (ln a o_)) - (ln a g))) (22 + g) ((ln a g) + (ln a o_))) (22 + o_) 0) dX6_join_139 rfl ⟨rfl, (by rw [hE]; exact ⟨rfl, rfl, rfl, rfl⟩)⟩ hP hS
          · refine lv_bipush (v := -3) hx hb dX6_join_89 (by decide) ?_
            have hE : aJoin a (nI g) (nI o_) = ((-3), none) := by first | (simp only [aJoin, hcx, hcy]; simp [c_8, c_19, c_26, c_55, c_86]; done) | (simp only [aJoin, hcx, hcy]; simp [c_8, c_19, c_26, c_55, c_86]; omega)
            refine tope (y := (aJoin a (nI g) (nI o_)).1) (by rw [hE]) ?_
            exact RET _ _ _ _ _ (o, r, hs, a) dX6_join_91 rfl ⟨rfl, (by rw [hE]; exact ⟨rfl, rfl, rfl, rfl⟩)⟩ hP hS
        · refine lv_bipush (v := -4) hx hb dX6_join_58 (by decide) ?_
          have hE : aJoin a (nI g) (nI o_) = ((-4), none) := by first | (simp only [aJoin, hcx, hcy]; simp [c_8, c_19, c_26, c_55]; done) | (simp only [aJoin, hcx, hcy]; simp [c_8, c_19, c_26, c_55]; omega)
          refine tope (y := (aJoin a (nI g) (nI o_)).1) (by rw [hE]) ?_
          exact RET _ _ _ _ _ (o, r, hs, a) dX6_join_60 rfl ⟨rfl, (by rw [hE]; exact ⟨rfl, rfl, rfl, rfl⟩)⟩ hP hS
      · refine lv_bipush (v := -2) hx hb dX6_join_29 (by decide) ?_
        have hE : aJoin a (nI g) (nI o_) = ((-2), none) := by first | (simp only [aJoin, hcx, hcy]; simp [c_8, c_19, eq_true c_26]; done) | (simp only [aJoin, hcx, hcy]; simp [c_8, c_19, eq_true c_26]; omega)
        refine tope (y := (aJoin a (nI g) (nI o_)).1) (by rw [hE]) ?_
        exact RET _ _ _ _ _ (o, r, hs, a) dX6_join_31 rfl ⟨rfl, (by rw [hE]; exact ⟨rfl, rfl, rfl, rfl⟩)⟩ hP hS
    · refine lv_iconst (v := -1) hx hb dX6_join_22 (by decide) ?_
      have hE : aJoin a (nI g) y = ((-1), none) := by first | (simp only [aJoin, hcx]; simp [c_8, c_19]; done) | (simp only [aJoin, hcx]; simp [c_8, c_19]; omega)
      refine tope (y := (aJoin a (nI g) y).1) (by rw [hE]) ?_
      exact RET _ _ _ _ _ (o, r, hs, a) dX6_join_23 rfl ⟨rfl, (by rw [hE]; exact ⟨rfl, rfl, rfl, rfl⟩)⟩ hP hS
abbrev rm_X6_cutApart : Room := { frames := 4, cells := 0, slots := 0, locals := 93 }
theorem ydv_X6_cutApart : yX6_cutApart.cls = RX6 ∧ yX6_cutApart.cls ≠ "java/lang/invoke/MethodHandle" ∧ yX6_cutApart.cls ≠ "java/lang/invoke/VarHandle" ∧ (parseMethodDescriptor yX6_cutApart.desc).map (fun d => d.parameters.length) = some 2 := by decide +kernel
theorem inf_X6_cutApart_X6 : ∀ w ∈ wsX60, w ∈ wsX6_cutApart := fun w h => List.mem_cons_of_mem _ (List.mem_append_left _ (List.mem_append_left _ (List.mem_append_left _ (List.mem_append_right _ (h)))))
set_option maxHeartbeats 4000000 in
set_option maxRecDepth 100000 in
theorem c_X6_cutApart (l : Launch) (D : va_G) (cA : ClassId) (d0 h0 k0 q0 c0 t0 s0 b0 : Nat) (fs : List Value) (c1 c2 : Nat) (o r : Nat) (hs : Nat → Nat) (h1 h2 : Nat) (a : Nat → Nat)  (x y : Int32) (ho : o < 4) (hr_ : r ≤ 4) (hV : Vd a) : MI l D cA yX6_cutApart wsX6_cutApart rm_X6_cutApart [.ref d0, .int x, .int y] [(d0, .inr (6, .ref h0 :: .ref k0 :: .ref q0 :: .ref c0 :: .ref t0 :: .ref s0 :: .ref b0 :: fs)), (c1, .inr (3, [.ref c2])), (h0, .inr (4, [.ref h1])), (h1, .inr (3, [.ref h2]))] [(c0, .inr (1, [.ref c1, .int (nI o), .int (nI r)])), (c2, .inl (cA, 1144, .inl (nF hs))), (h2, .inl (cA, 286, .inl (nF a)))] (S := (Nat) × (Nat) × (Nat → Nat) × (Nat → Nat)) (fun rr_ (uu_ : (Nat) × (Nat) × (Nat → Nat) × (Nat → Nat)) => rr_ = (aApart a x y).1 ∧ (ActC a hs o r (aApart a x y).2 uu_.1 uu_.2.1 uu_.2.2.1 uu_.2.2.2)) (fun (uu_ : (Nat) × (Nat) × (Nat → Nat) × (Nat → Nat)) => [(c0, .inr (1, [.ref c1, .int (nI uu_.1), .int (nI uu_.2.1)])), (c2, .inl (cA, 1144, .inl (nF uu_.2.2.1))), (h2, .inl (cA, 286, .inl (nF uu_.2.2.2)))]) := by
  refine ofWi (cc := cX6_cutApart) (maxL := 5) (rt := .int) (by decide) rfl (Nat.le_of_ble_eq_true rfl) ?_
  intro p e s m args below meth c Q A ls F hK hR hP hD hA hS hl RET
  obtain ⟨hx, hb, hml, hown, hts⟩ := id F
  have hl : lv_has ls 5 [(0, .ref d0), (1, .int x), (2, .int y)] := hl
  refine lv_aload_n hx hb dX6_cutApart_0 rfl (lv_at hl 0 rfl) ?_
  refine va_get (D := D) (cl := vwCl) (ci := 6) (v := .ref h0) (C := RX6) (T := TX6) (N := 8) hx hb hts inf_X6_cutApart_X6 hown hK.1 (hR.at hS) 0 rfl rfl 0 (by decide) (hts _ (List.mem_of_getElem? (i := 1) rfl)) (fun _ h9 => h9) rfl dX6_cutApart_1 ?_
  refine lv_iload_n hx hb dX6_cutApart_4 rfl (lv_at hl 1 rfl) ?_
  refine call_r (q := (RX4, TX4, 1)) (As := [.int x]) (rest := []) F (c_X4_hasGarland l D cA h0 h1 h2 a x (fun g hg => by have := hV.1 g hg; omega)) (cwV 1 hts gX6_cutApart_X4_hasGarland rfl rfl rfl ydv_X4_hasGarland ⟨Nat.le_of_ble_eq_true rfl, Nat.le_of_ble_eq_true rfl⟩) hK hR hP hD hA hS [2, 3, 6] rfl rfl 2 4 rfl rfl rfl hl.1 rfl (Nat.le_of_ble_eq_true rfl) dX6_cutApart_5 ⟨Nat.zero_le _, Nat.zero_le _⟩ (fun H locs hP hS => ?_)
  refine bv_if_ne (tgt := 13) hx hb dX6_cutApart_8 (by decide) (fun c_8 => ?_) (fun c_8 => ?_)
  · obtain ⟨g, hg, rfl, hg0⟩ := inG_t c_8
    have hcx : cN (nI g) = g := cN_nI (by omega)
    have hl1 := hV.l hg
    refine lv_aload_n hx hb dX6_cutApart_13 rfl (lv_at hl 0 rfl) ?_
    refine va_get (D := D) (cl := vwCl) (ci := 6) (v := .ref h0) (C := RX6) (T := TX6) (N := 8) hx hb hts inf_X6_cutApart_X6 hown hK.1 (hR.at hS) 0 rfl rfl 0 (by decide) (hts _ (List.mem_of_getElem? (i := 1) rfl)) (fun _ h9 => h9) rfl dX6_cutApart_14 ?_
    refine lv_iload_n hx hb dX6_cutApart_17 rfl (lv_at hl 1 rfl) ?_
    refine call_r (q := (RX4, TX4, 1)) (As := [.int (nI g)]) (rest := []) F (c_X4_lengthOf l D cA h0 h1 h2 a g (by omega)) (cwV 1 hts gX6_cutApart_X4_lengthOf rfl rfl rfl ydv_X4_lengthOf ⟨Nat.le_of_ble_eq_true rfl, Nat.le_of_ble_eq_true rfl⟩) hK hR hP hD hA hS [2, 3, 6] rfl rfl 2 4 rfl rfl rfl hl.1 rfl (Nat.le_of_ble_eq_true rfl) dX6_cutApart_18 ⟨Nat.zero_le _, Nat.zero_le _⟩ (fun H locs hP hS => ?_)
    refine lv_istore_n (lv' := [(3, .int (nI (ln a g))), (0, .ref d0), (1, .int (nI g)), (2, .int y)]) hx hb dX6_cutApart_21 rfl hl (by decide) rfl (fun ls hl => ?_)
    refine lv_iload_n hx hb dX6_cutApart_22 rfl (lv_at hl 3 rfl) ?_
    refine lv_iconst (v := nI 1) hx hb dX6_cutApart_23 (by decide) ?_
    refine lv_icmp_lt (tgt := 32) hx hb dX6_cutApart_24 (by decide) (fun c_24 => ?_) (fun c_24 => ?_)
    · have hR_ : inR y 1 (ln a g - 1) = false := inR_lo (by decide) c_24
      refine lv_bipush (v := -2) hx hb dX6_cutApart_32 (by decide) ?_
      have hE : aApart a (nI g) y = ((-2), none) := by first | (simp only [aApart, hcx]; simp [c_8, c_24, hR_]; done) | (simp only [aApart, hcx]; simp [c_8, c_24, hR_]; omega)
      refine tope (y := (aApart a (nI g) y).1) (by rw [hE]) ?_
      exact RET _ _ _ _ _ (o, r, hs, a) dX6_cutApart_34 rfl ⟨rfl, (by rw [hE]; exact ⟨rfl, rfl, rfl, rfl⟩)⟩ hP hS
    · refine lv_iload_n hx hb dX6_cutApart_27 rfl (lv_at hl 3 rfl) ?_
      refine lv_iload_n hx hb dX6_cutApart_28 rfl (lv_at hl 0 rfl) ?_
      refine lv_icmp_lt (tgt := 35) hx hb dX6_cutApart_29 (by decide) (fun c_29 => ?_) (fun c_29 => ?_)
      · have hR_ : inR y 1 (ln a g - 1) = true := inR_in2 (n := ln a g) (by omega) (by decide) (by omega) c_24 c_29
        obtain ⟨q, hq1, hq2, rfl⟩ := inR_t (by omega) hR_
        have hcy : cN (nI q) = q := cN_nI (by omega)
        refine lv_aload_n hx hb dX6_cutApart_35 rfl (lv_at hl 1 rfl) ?_
        refine va_get (D := D) (cl := vwCl) (ci := 6) (v := .ref h0) (C := RX6) (T := TX6) (N := 8) hx hb hts inf_X6_cutApart_X6 hown hK.1 (hR.at hS) 0 rfl rfl 0 (by decide) (hts _ (List.mem_of_getElem? (i := 1) rfl)) (fun _ h9 => h9) rfl dX6_cutApart_36 ?_
        refine call_r (q := (RX4, TX4, 1)) (As := []) (rest := []) F (c_X4_freeNumber l D cA h0 h1 h2 a (hV)) (cwV 0 hts gX6_cutApart_X4_freeNumber rfl rfl rfl ydv_X4_freeNumber ⟨Nat.le_of_ble_eq_true rfl, Nat.le_of_ble_eq_true rfl⟩) hK hR hP hD hA hS [2, 3, 6] rfl rfl 2 4 rfl rfl rfl hl.1 rfl (Nat.le_of_ble_eq_true rfl) dX6_cutApart_39 ⟨Nat.zero_le _, Nat.zero_le _⟩ (fun H locs hP hS => ?_)
        rcases fr_c a with hf8 | hf8
        · refine tope (y := -1) (frI_8 hf8) ?_
          refine lv_istore (lv' := [(4, .int ((-1))), (3, .int (nI (ln a g))), (0, .ref d0), (1, .int (nI g)), (2, .int (nI q))]) hx hb dX6_cutApart_42 hl (by decide) rfl (fun ls hl => ?_)
          refine lv_iload hx hb dX6_cutApart_44 (lv_at hl 0 rfl) ?_
          refine lv_iconst (v := -1) hx hb dX6_cutApart_46 (by decide) ?_
          refine lv_icmp_ne (tgt := 53) hx hb dX6_cutApart_47 (by decide) (fun c_47 => absurd c_47 ((fun h => h rfl))) (fun c_47 => ?_)
          refine lv_bipush (v := -3) hx hb dX6_cutApart_50 (by decide) ?_
          have hE : aApart a (nI g) (nI q) = ((-3), none) := by first | (simp only [aApart, hcx, hcy]; simp [c_8, c_24, c_29, c_47, hf8, hR_]; done) | (simp only [aApart, hcx, hcy]; simp [c_8, c_24, c_29, c_47, hf8, hR_]; omega)
          refine tope (y := (aApart a (nI g) (nI q)).1) (by rw [hE]) ?_
          exact RET _ _ _ _ _ (o, r, hs, a) dX6_cutApart_52 rfl ⟨rfl, (by rw [hE]; exact ⟨rfl, rfl, rfl, rfl⟩)⟩ hP hS
        · refine tope (y := nI (fr a)) (frI_n hf8) ?_
          refine lv_istore (lv' := [(4, .int (nI (fr a))), (3, .int (nI (ln a g))), (0, .ref d0), (1, .int (nI g)), (2, .int (nI q))]) hx hb dX6_cutApart_42 hl (by decide) rfl (fun ls hl => ?_)
          refine lv_iload hx hb dX6_cutApart_44 (lv_at hl 0 rfl) ?_
          refine lv_iconst (v := -1) hx hb dX6_cutApart_46 (by decide) ?_
          refine lv_icmp_ne (tgt := 53) hx hb dX6_cutApart_47 (by decide) (fun c_47 => ?_) (fun c_47 => absurd c_47 ((nI_m1 (by omega))))
          refine lv_aload_n hx hb dX6_cutApart_53 rfl (lv_at hl 2 rfl) ?_
          refine va_get (D := D) (cl := vwCl) (ci := 6) (v := .ref c0) (C := RX6) (T := TX6) (N := 8) hx hb hts inf_X6_cutApart_X6 hown hK.1 (hR.at hS) 0 rfl rfl 3 (by decide) (hts _ (List.mem_of_getElem? (i := 2) rfl)) (fun _ h9 => h9) rfl dX6_cutApart_54 ?_
          refine lv_aload_n hx hb dX6_cutApart_57 rfl (lv_at hl 2 rfl) ?_
          refine va_get (D := D) (cl := vwCl) (ci := 6) (v := .ref h0) (C := RX6) (T := TX6) (N := 8) hx hb hts inf_X6_cutApart_X6 hown hK.1 (hR.at hS) 0 rfl rfl 0 (by decide) (hts _ (List.mem_of_getElem? (i := 1) rfl)) (fun _ h9 => h9) rfl dX6_cutApart_58 ?_
          refine call_v (q := (RX1, TX1, 3)) (As := [.ref h0]) (rest := []) F (c_X1_remember l D cA c0 c1 c2 o r hs h0 h1 h2 a (by omega) (by omega)) (cwV 1 hts gX6_cutApart_X1_remember rfl rfl rfl ydv_X1_remember ⟨Nat.le_of_ble_eq_true rfl, Nat.le_of_ble_eq_true rfl⟩) hK hR hP hD hA hS [1, 2, 3, 4, 5, 6] [0, 1, 2] rfl rfl rfl 4 1 rfl rfl (fun _ => rfl) rfl hl.1 rfl (Nat.le_of_ble_eq_true rfl) dX6_cutApart_61 ⟨Nat.zero_le _, Nat.zero_le _⟩ (fun u_61 H locs hw hP hD hS => ?_)
          have hP : va_P D vwCl [(c0, .inr (1, [.ref c1, .int (nI (hisO o r)), .int (nI (hisT r + 1))])), (c2, .inl (cA, 1144, .inl (nF (cpyN a hs 0 ((hisO o r + hisT r) % 4 * 286) 286)))), (h2, .inl (cA, 286, .inl (nF a)))] H := hP
          have hD : va_D A [(c0, .inr (1, [.ref c1, .int (nI (hisO o r)), .int (nI (hisT r + 1))])), (c2, .inl (cA, 1144, .inl (nF (cpyN a hs 0 ((hisO o r + hisT r) % 4 * 286) 286)))), (h2, .inl (cA, 286, .inl (nF a)))] := hD
          refine lv_aload_n hx hb dX6_cutApart_64 rfl (lv_at hl 2 rfl) ?_
          refine va_get (D := D) (cl := vwCl) (ci := 6) (v := .ref h0) (C := RX6) (T := TX6) (N := 8) hx hb hts inf_X6_cutApart_X6 hown hK.1 (hR.at hS) 0 rfl rfl 0 (by decide) (hts _ (List.mem_of_getElem? (i := 1) rfl)) (fun _ h9 => h9) rfl dX6_cutApart_65 ?_
          refine lv_iload_n hx hb dX6_cutApart_68 rfl (lv_at hl 3 rfl) ?_
          refine lv_iload_n hx hb dX6_cutApart_69 rfl (lv_at hl 4 rfl) ?_
          refine lv_iload hx hb dX6_cutApart_70 (lv_at hl 0 rfl) ?_
          refine lv_iconst (v := nI 0) hx hb dX6_cutApart_72 (by decide) ?_
          refine lv_iload_n hx hb dX6_cutApart_73 rfl (lv_at hl 1 rfl) ?_
          refine lv_iload_n hx hb dX6_cutApart_74 rfl (lv_at hl 4 rfl) ?_
          refine nv_isub hx hb dX6_cutApart_75 (by omega) ?_
          refine call_v (q := (RX4, TX4, 1)) (As := [.int (nI g), .int (nI q), .int (nI (fr a)), .int (nI 0), .int (nI ((ln a g) - q))]) (rest := []) F (c_X4_copyDolls l D cA h0 h1 h2 a g q (fr a) 0 ((ln a g) - q) (by omega) (by omega)) (cwV 5 hts gX6_cutApart_X4_copyDolls rfl rfl rfl ydv_X4_copyDolls ⟨Nat.le_of_ble_eq_true rfl, Nat.le_of_ble_eq_true rfl⟩) hK hR hP hD hA hS [2, 3, 6] [2] rfl rfl rfl 2 4 rfl rfl (fun _ => rfl) rfl hl.1 rfl (Nat.le_of_ble_eq_true rfl) dX6_cutApart_76 ⟨Nat.zero_le _, Nat.zero_le _⟩ (fun u_76 H locs hw hP hD hS => ?_)
          have hP : va_P D vwCl [(c0, .inr (1, [.ref c1, .int (nI (hisO o r)), .int (nI (hisT r + 1))])), (c2, .inl (cA, 1144, .inl (nF (cpyN a hs 0 ((hisO o r + hisT r) % 4 * 286) 286)))), (h2, .inl (cA, 286, .inl (nF (cpyN a a (30 + g * 32 + q) (30 + (fr a) * 32 + 0) ((ln a g) - q)))))] H := hP
          have hD : va_D A [(c0, .inr (1, [.ref c1, .int (nI (hisO o r)), .int (nI (hisT r + 1))])), (c2, .inl (cA, 1144, .inl (nF (cpyN a hs 0 ((hisO o r + hisT r) % 4 * 286) 286)))), (h2, .inl (cA, 286, .inl (nF (cpyN a a (30 + g * 32 + q) (30 + (fr a) * 32 + 0) ((ln a g) - q)))))] := hD
          refine lv_aload_n hx hb dX6_cutApart_79 rfl (lv_at hl 2 rfl) ?_
          refine va_get (D := D) (cl := vwCl) (ci := 6) (v := .ref h0) (C := RX6) (T := TX6) (N := 8) hx hb hts inf_X6_cutApart_X6 hown hK.1 (hR.at hS) 0 rfl rfl 0 (by decide) (hts _ (List.mem_of_getElem? (i := 1) rfl)) (fun _ h9 => h9) rfl dX6_cutApart_80 ?_
          refine lv_iload hx hb dX6_cutApart_83 (lv_at hl 0 rfl) ?_
          refine lv_iload_n hx hb dX6_cutApart_85 rfl (lv_at hl 1 rfl) ?_
          refine lv_iload_n hx hb dX6_cutApart_86 rfl (lv_at hl 4 rfl) ?_
          refine nv_isub hx hb dX6_cutApart_87 (by omega) ?_
          refine call_v (q := (RX4, TX4, 1)) (As := [.int (nI (fr a)), .int (nI ((ln a g) - q))]) (rest := []) F (c_X4_putLength l D cA h0 h1 h2 (cpyN a a (30 + g * 32 + q) (30 + (fr a) * 32 + 0) ((ln a g) - q)) (fr a) ((ln a g) - q) (by omega)) (cwV 2 hts gX6_cutApart_X4_putLength rfl rfl rfl ydv_X4_putLength ⟨Nat.le_of_ble_eq_true rfl, Nat.le_of_ble_eq_true rfl⟩) hK hR hP hD hA hS [2, 3, 6] [2] rfl rfl rfl 2 4 rfl rfl (fun _ => rfl) rfl hl.1 rfl (Nat.le_of_ble_eq_true rfl) dX6_cutApart_88 ⟨Nat.zero_le _, Nat.zero_le _⟩ (fun u_88 H locs hw hP hD hS => ?_)
          have hP : va_P D vwCl [(c0, .inr (1, [.ref c1, .int (nI (hisO o r)), .int (nI (hisT r + 1))])), (c2, .inl (cA, 1144, .inl (nF (cpyN a hs 0 ((hisO o r + hisT r) % 4 * 286) 286)))), (h2, .inl (cA, 286, .inl (nF (updN (cpyN a a (30 + g * 32 + q) (30 + (fr a) * 32 + 0) ((ln a g) - q)) (22 + (fr a)) ((ln a g) - q)))))] H := hP
          have hD : va_D A [(c0, .inr (1, [.ref c1, .int (nI (hisO o r)), .int (nI (hisT r + 1))])), (c2, .inl (cA, 1144, .inl (nF (cpyN a hs 0 ((hisO o r + hisT r) % 4 * 286) 286)))), (h2, .inl (cA, 286, .inl (nF (updN (cpyN a a (30 + g * 32 + q) (30 + (fr a) * 32 + 0) ((ln a g) - q)) (22 + (fr a)) ((ln a g) - q)))))] := hD
          refine lv_aload_n hx hb dX6_cutApart_91 rfl (lv_at hl 2 rfl) ?_
          refine va_get (D := D) (cl := vwCl) (ci := 6) (v := .ref h0) (C := RX6) (T := TX6) (N := 8) hx hb hts inf_X6_cutApart_X6 hown hK.1 (hR.at hS) 0 rfl rfl 0 (by decide) (hts _ (List.mem_of_getElem? (i := 1) rfl)) (fun _ h9 => h9) rfl dX6_cutApart_92 ?_
          refine lv_iload_n hx hb dX6_cutApart_95 rfl (lv_at hl 3 rfl) ?_
          refine lv_iload_n hx hb dX6_cutApart_96 rfl (lv_at hl 4 rfl) ?_
          refine call_v (q := (RX4, TX4, 1)) (As := [.int (nI g), .int (nI q)]) (rest := []) F (c_X4_putLength l D cA h0 h1 h2 (updN (cpyN a a (30 + g * 32 + q) (30 + (fr a) * 32 + 0) ((ln a g) - q)) (22 + (fr a)) ((ln a g) - q)) g q (by omega)) (cwV 2 hts gX6_cutApart_X4_putLength rfl rfl rfl ydv_X4_putLength ⟨Nat.le_of_ble_eq_true rfl, Nat.le_of_ble_eq_true rfl⟩) hK hR hP hD hA hS [2, 3, 6] [2] rfl rfl rfl 2 4 rfl rfl (fun _ => rfl) rfl hl.1 rfl (Nat.le_of_ble_eq_true rfl) dX6_cutApart_97 ⟨Nat.zero_le _, Nat.zero_le _⟩ (fun u_97 H locs hw hP hD hS => ?_)
          have hP : va_P D vwCl [(c0, .inr (1, [.ref c1, .int (nI (hisO o r)), .int (nI (hisT r + 1))])), (c2, .inl (cA, 1144, .inl (nF (cpyN a hs 0 ((hisO o r + hisT r) % 4 * 286) 286)))), (h2, .inl (cA, 286, .inl (nF (updN (updN (cpyN a a (30 + g * 32 + q) (30 + (fr a) * 32 + 0) ((ln a g) - q)) (22 + (fr a)) ((ln a g) - q)) (22 + g) q))))] H := hP
          have hD : va_D A [(c0, .inr (1, [.ref c1, .int (nI (hisO o r)), .int (nI (hisT r + 1))])), (c2, .inl (cA, 1144, .inl (nF (cpyN a hs 0 ((hisO o r + hisT r) % 4 * 286) 286)))), (h2, .inl (cA, 286, .inl (nF (updN (updN (cpyN a a (30 + g * 32 + q) (30 + (fr a) * 32 + 0) ((ln a g) - q)) (22 + (fr a)) ((ln a g) - q)) (22 + g) q))))] := hD
          refine lv_iload hx hb dX6_cutApart_100 (lv_at hl 0 rfl) ?_
          have hE : aApart a (nI g) (nI q) = (nI (fr a), some (updN (updN (cpyN a a (30 + g * 32 + q) (30 + (fr a) * 32 + 0) ((ln a g) - q)) (22 + (fr a)) ((ln a g) - q)) (22 + g) q)) := by first | (simp only [aApart, hcx, hcy]; simp [c_8, c_24, c_29, c_47, Nat.ne_of_lt hf8, hR_]; done) | (simp only [aApart, hcx, hcy]; simp [c_8, c_24, c_29, c_47, Nat.ne_of_lt hf8, hR_]; omega)
          refine tope (y := (aApart a (nI g) (nI q)).1) (by rw [hE]) ?_
          exact RET _ _ _ _ _ (hisO o r, hisT r + 1, cpyN a hs 0 ((hisO o r + hisT r) % 4 * 286) 286, updN (updN (cpyN a a (30 + g * 32 + q) (30 + (fr a) * 32 + 0) ((ln a g) - q)) (22 + (fr a)) ((ln a g) - q)) (22 + g) q) dX6_cutApart_102 rfl ⟨rfl, (by rw [hE]; exact ⟨rfl, rfl, rfl, rfl⟩)⟩ hP hS
      · have hR_ : inR y 1 (ln a g - 1) = false := inR_hi2 (n := ln a g) (by omega) (by omega) c_29
        refine lv_bipush (v := -2) hx hb dX6_cutApart_32 (by decide) ?_
        have hE : aApart a (nI g) y = ((-2), none) := by first | (simp only [aApart, hcx]; simp [c_8, c_24, c_29, hR_]; done) | (simp only [aApart, hcx]; simp [c_8, c_24, c_29, hR_]; omega)
        refine tope (y := (aApart a (nI g) y).1) (by rw [hE]) ?_
        exact RET _ _ _ _ _ (o, r, hs, a) dX6_cutApart_34 rfl ⟨rfl, (by rw [hE]; exact ⟨rfl, rfl, rfl, rfl⟩)⟩ hP hS
  · refine lv_iconst (v := -1) hx hb dX6_cutApart_11 (by decide) ?_
    have hE : aApart a x y = ((-1), none) := by first | (simp only [aApart]; simp [c_8]; done) | (simp only [aApart]; simp [c_8]; omega)
    refine tope (y := (aApart a x y).1) (by rw [hE]) ?_
    exact RET _ _ _ _ _ (o, r, hs, a) dX6_cutApart_12 rfl ⟨rfl, (by rw [hE]; exact ⟨rfl, rfl, rfl, rfl⟩)⟩ hP hS
abbrev rm_X6_turn : Room := { frames := 4, cells := 0, slots := 0, locals := 93 }
theorem ydv_X6_turn : yX6_turn.cls = RX6 ∧ yX6_turn.cls ≠ "java/lang/invoke/MethodHandle" ∧ yX6_turn.cls ≠ "java/lang/invoke/VarHandle" ∧ (parseMethodDescriptor yX6_turn.desc).map (fun d => d.parameters.length) = some 1 := by decide +kernel
theorem inf_X6_turn_X6 : ∀ w ∈ wsX60, w ∈ wsX6_turn := fun w h => List.mem_cons_of_mem _ (List.mem_append_left _ (List.mem_append_left _ (List.mem_append_left _ (List.mem_append_left _ (List.mem_append_right _ (h))))))
set_option maxHeartbeats 4000000 in
set_option maxRecDepth 100000 in
theorem c_X6_turn (l : Launch) (D : va_G) (cA : ClassId) (d0 h0 k0 q0 c0 t0 s0 b0 : Nat) (fs : List Value) (c1 c2 : Nat) (o r : Nat) (hs : Nat → Nat) (h1 h2 : Nat) (a : Nat → Nat)  (x : Int32) (ho : o < 4) (hr_ : r ≤ 4) (hV : Vd a) : MI l D cA yX6_turn wsX6_turn rm_X6_turn [.ref d0, .int x] [(d0, .inr (6, .ref h0 :: .ref k0 :: .ref q0 :: .ref c0 :: .ref t0 :: .ref s0 :: .ref b0 :: fs)), (c1, .inr (3, [.ref c2])), (h0, .inr (4, [.ref h1])), (h1, .inr (3, [.ref h2])), (k0, .inr (2, [.ref h0]))] [(c0, .inr (1, [.ref c1, .int (nI o), .int (nI r)])), (c2, .inl (cA, 1144, .inl (nF hs))), (h2, .inl (cA, 286, .inl (nF a)))] (S := (Nat) × (Nat) × (Nat → Nat) × (Nat → Nat)) (fun rr_ (uu_ : (Nat) × (Nat) × (Nat → Nat) × (Nat → Nat)) => rr_ = (aTurn a x).1 ∧ (ActC a hs o r (aTurn a x).2 uu_.1 uu_.2.1 uu_.2.2.1 uu_.2.2.2)) (fun (uu_ : (Nat) × (Nat) × (Nat → Nat) × (Nat → Nat)) => [(c0, .inr (1, [.ref c1, .int (nI uu_.1), .int (nI uu_.2.1)])), (c2, .inl (cA, 1144, .inl (nF uu_.2.2.1))), (h2, .inl (cA, 286, .inl (nF uu_.2.2.2)))]) := by
  refine ofWi (cc := cX6_turn) (maxL := 2) (rt := .int) (by decide) rfl (Nat.le_of_ble_eq_true rfl) ?_
  intro p e s m args below meth c Q A ls F hK hR hP hD hA hS hl RET
  obtain ⟨hx, hb, hml, hown, hts⟩ := id F
  have hl : lv_has ls 2 [(0, .ref d0), (1, .int x)] := hl
  refine lv_aload_n hx hb dX6_turn_0 rfl (lv_at hl 0 rfl) ?_
  refine va_get (D := D) (cl := vwCl) (ci := 6) (v := .ref h0) (C := RX6) (T := TX6) (N := 8) hx hb hts inf_X6_turn_X6 hown hK.1 (hR.at hS) 0 rfl rfl 0 (by decide) (hts _ (List.mem_of_getElem? (i := 1) rfl)) (fun _ h9 => h9) rfl dX6_turn_1 ?_
  refine lv_iload_n hx hb dX6_turn_4 rfl (lv_at hl 1 rfl) ?_
  refine call_r (q := (RX4, TX4, 1)) (As := [.int x]) (rest := []) F (c_X4_hasGarland l D cA h0 h1 h2 a x (fun g hg => by have := hV.1 g hg; omega)) (cwV 1 hts gX6_turn_X4_hasGarland rfl rfl rfl ydv_X4_hasGarland ⟨Nat.le_of_ble_eq_true rfl, Nat.le_of_ble_eq_true rfl⟩) hK hR hP hD hA hS [2, 3, 7] rfl rfl 2 4 rfl rfl rfl hl.1 rfl (Nat.le_of_ble_eq_true rfl) dX6_turn_5 ⟨Nat.zero_le _, Nat.zero_le _⟩ (fun H locs hP hS => ?_)
  refine bv_if_ne (tgt := 13) hx hb dX6_turn_8 (by decide) (fun c_8 => ?_) (fun c_8 => ?_)
  · obtain ⟨g, hg, rfl, hg0⟩ := inG_t c_8
    have hcx : cN (nI g) = g := cN_nI (by omega)
    refine lv_aload_n hx hb dX6_turn_13 rfl (lv_at hl 0 rfl) ?_
    refine va_get (D := D) (cl := vwCl) (ci := 6) (v := .ref k0) (C := RX6) (T := TX6) (N := 8) hx hb hts inf_X6_turn_X6 hown hK.1 (hR.at hS) 0 rfl rfl 1 (by decide) (hts _ (List.mem_of_getElem? (i := 2) rfl)) (fun _ h9 => h9) rfl dX6_turn_14 ?_
    refine lv_iload_n hx hb dX6_turn_17 rfl (lv_at hl 1 rfl) ?_
    refine call_r (q := (RX2, TX2, 1)) (As := [.int (nI g)]) (rest := []) F (c_X2_isOwnMirror l D cA k0 h0 h1 h2 a g (hV) (by omega)) (cwV 1 hts gX6_turn_X2_isOwnMirror rfl rfl rfl ydv_X2_isOwnMirror ⟨Nat.le_of_ble_eq_true rfl, Nat.le_of_ble_eq_true rfl⟩) hK hR hP hD hA hS [4, 2, 3, 7] rfl rfl 4 2 rfl rfl rfl hl.1 rfl (Nat.le_of_ble_eq_true rfl) dX6_turn_18 ⟨Nat.zero_le _, Nat.zero_le _⟩ (fun H locs hP hS => ?_)
    refine bv_if_eq (tgt := 27) hx hb dX6_turn_21 (by decide) (fun c_21 => ?_) (fun c_21 => ?_)
    · refine lv_aload_n hx hb dX6_turn_27 rfl (lv_at hl 0 rfl) ?_
      refine va_get (D := D) (cl := vwCl) (ci := 6) (v := .ref c0) (C := RX6) (T := TX6) (N := 8) hx hb hts inf_X6_turn_X6 hown hK.1 (hR.at hS) 0 rfl rfl 3 (by decide) (hts _ (List.mem_of_getElem? (i := 3) rfl)) (fun _ h9 => h9) rfl dX6_turn_28 ?_
      refine lv_aload_n hx hb dX6_turn_31 rfl (lv_at hl 0 rfl) ?_
      refine va_get (D := D) (cl := vwCl) (ci := 6) (v := .ref h0) (C := RX6) (T := TX6) (N := 8) hx hb hts inf_X6_turn_X6 hown hK.1 (hR.at hS) 0 rfl rfl 0 (by decide) (hts _ (List.mem_of_getElem? (i := 1) rfl)) (fun _ h9 => h9) rfl dX6_turn_32 ?_
      refine call_v (q := (RX1, TX1, 3)) (As := [.ref h0]) (rest := []) F (c_X1_remember l D cA c0 c1 c2 o r hs h0 h1 h2 a (by omega) (by omega)) (cwV 1 hts gX6_turn_X1_remember rfl rfl rfl ydv_X1_remember ⟨Nat.le_of_ble_eq_true rfl, Nat.le_of_ble_eq_true rfl⟩) hK hR hP hD hA hS [1, 2, 3, 5, 6, 7] [0, 1, 2] rfl rfl rfl 5 1 rfl rfl (fun _ => rfl) rfl hl.1 rfl (Nat.le_of_ble_eq_true rfl) dX6_turn_35 ⟨Nat.zero_le _, Nat.zero_le _⟩ (fun u_35 H locs hw hP hD hS => ?_)
      have hP : va_P D vwCl [(c0, .inr (1, [.ref c1, .int (nI (hisO o r)), .int (nI (hisT r + 1))])), (c2, .inl (cA, 1144, .inl (nF (cpyN a hs 0 ((hisO o r + hisT r) % 4 * 286) 286)))), (h2, .inl (cA, 286, .inl (nF a)))] H := hP
      have hD : va_D A [(c0, .inr (1, [.ref c1, .int (nI (hisO o r)), .int (nI (hisT r + 1))])), (c2, .inl (cA, 1144, .inl (nF (cpyN a hs 0 ((hisO o r + hisT r) % 4 * 286) 286)))), (h2, .inl (cA, 286, .inl (nF a)))] := hD
      refine lv_aload_n hx hb dX6_turn_38 rfl (lv_at hl 0 rfl) ?_
      refine va_get (D := D) (cl := vwCl) (ci := 6) (v := .ref h0) (C := RX6) (T := TX6) (N := 8) hx hb hts inf_X6_turn_X6 hown hK.1 (hR.at hS) 0 rfl rfl 0 (by decide) (hts _ (List.mem_of_getElem? (i := 1) rfl)) (fun _ h9 => h9) rfl dX6_turn_39 ?_
      refine lv_iload_n hx hb dX6_turn_42 rfl (lv_at hl 1 rfl) ?_
      refine call_v (q := (RX4, TX4, 1)) (As := [.int (nI g)]) (rest := []) F (c_X4_turnRound l D cA h0 h1 h2 a g (hV) (by omega) (by omega)) (cwV 1 hts gX6_turn_X4_turnRound rfl rfl rfl ydv_X4_turnRound ⟨Nat.le_of_ble_eq_true rfl, Nat.le_of_ble_eq_true rfl⟩) hK hR hP hD hA hS [2, 3, 7] [2] rfl rfl rfl 2 4 rfl rfl (fun _ => rfl) rfl hl.1 rfl (Nat.le_of_ble_eq_true rfl) dX6_turn_43 ⟨Nat.zero_le _, Nat.zero_le _⟩ (fun u_43 H locs hw hP hD hS => ?_)
      have hP : va_P D vwCl [(c0, .inr (1, [.ref c1, .int (nI (hisO o r)), .int (nI (hisT r + 1))])), (c2, .inl (cA, 1144, .inl (nF (cpyN a hs 0 ((hisO o r + hisT r) % 4 * 286) 286)))), (h2, .inl (cA, 286, .inl (nF (turnA a g))))] H := hP
      have hD : va_D A [(c0, .inr (1, [.ref c1, .int (nI (hisO o r)), .int (nI (hisT r + 1))])), (c2, .inl (cA, 1144, .inl (nF (cpyN a hs 0 ((hisO o r + hisT r) % 4 * 286) 286)))), (h2, .inl (cA, 286, .inl (nF (turnA a g))))] := hD
      refine lv_aload_n hx hb dX6_turn_46 rfl (lv_at hl 0 rfl) ?_
      refine va_get (D := D) (cl := vwCl) (ci := 6) (v := .ref k0) (C := RX6) (T := TX6) (N := 8) hx hb hts inf_X6_turn_X6 hown hK.1 (hR.at hS) 0 rfl rfl 1 (by decide) (hts _ (List.mem_of_getElem? (i := 2) rfl)) (fun _ h9 => h9) rfl dX6_turn_47 ?_
      refine lv_iload_n hx hb dX6_turn_50 rfl (lv_at hl 1 rfl) ?_
      refine call_r (q := (RX2, TX2, 1)) (As := [.int (nI g)]) (rest := []) F (c_X2_mirroredIn l D cA k0 h0 h1 h2 (turnA a g) g (Vd_turn hV hg) (hg)) (cwV 1 hts gX6_turn_X2_mirroredIn rfl rfl rfl ydv_X2_mirroredIn ⟨Nat.le_of_ble_eq_true rfl, Nat.le_of_ble_eq_true rfl⟩) hK hR hP hD hA hS [4, 2, 3, 7] rfl rfl 4 2 rfl rfl rfl hl.1 rfl (Nat.le_of_ble_eq_true rfl) dX6_turn_51 ⟨Nat.zero_le _, Nat.zero_le _⟩ (fun H locs hP hS => ?_)
      have hE : aTurn a (nI g) = (nI (mirIn (turnA a g) g), some (turnA a g)) := by first | (simp only [aTurn, hcx]; simp [c_8, c_21]; done) | (simp only [aTurn, hcx]; simp [c_8, c_21]; omega)
      refine tope (y := (aTurn a (nI g)).1) (by rw [hE]) ?_
      exact RET _ _ _ _ _ (hisO o r, hisT r + 1, cpyN a hs 0 ((hisO o r + hisT r) % 4 * 286) 286, turnA a g) dX6_turn_54 rfl ⟨rfl, (by rw [hE]; exact ⟨rfl, rfl, rfl, rfl⟩)⟩ hP hS
    · refine lv_bipush (v := -5) hx hb dX6_turn_24 (by decide) ?_
      have hE : aTurn a (nI g) = ((-5), none) := by first | (simp only [aTurn, hcx]; simp [c_8, c_21]; done) | (simp only [aTurn, hcx]; simp [c_8, c_21]; omega)
      refine tope (y := (aTurn a (nI g)).1) (by rw [hE]) ?_
      exact RET _ _ _ _ _ (o, r, hs, a) dX6_turn_26 rfl ⟨rfl, (by rw [hE]; exact ⟨rfl, rfl, rfl, rfl⟩)⟩ hP hS
  · refine lv_iconst (v := -1) hx hb dX6_turn_11 (by decide) ?_
    have hE : aTurn a x = ((-1), none) := by first | (simp only [aTurn]; simp [c_8]; done) | (simp only [aTurn]; simp [c_8]; omega)
    refine tope (y := (aTurn a x).1) (by rw [hE]) ?_
    exact RET _ _ _ _ _ (o, r, hs, a) dX6_turn_12 rfl ⟨rfl, (by rw [hE]; exact ⟨rfl, rfl, rfl, rfl⟩)⟩ hP hS
abbrev rm_X6_fold : Room := { frames := 4, cells := 0, slots := 0, locals := 93 }
theorem ydv_X6_fold : yX6_fold.cls = RX6 ∧ yX6_fold.cls ≠ "java/lang/invoke/MethodHandle" ∧ yX6_fold.cls ≠ "java/lang/invoke/VarHandle" ∧ (parseMethodDescriptor yX6_fold.desc).map (fun d => d.parameters.length) = some 1 := by decide +kernel
theorem inf_X6_fold_X6 : ∀ w ∈ wsX60, w ∈ wsX6_fold := fun w h => List.mem_cons_of_mem _ (List.mem_append_left _ (List.mem_append_left _ (List.mem_append_left _ (List.mem_append_right _ (h)))))
set_option maxHeartbeats 4000000 in
set_option maxRecDepth 100000 in
theorem c_X6_fold (l : Launch) (D : va_G) (cA : ClassId) (d0 h0 k0 q0 c0 t0 s0 b0 : Nat) (fs : List Value) (c1 c2 : Nat) (o r : Nat) (hs : Nat → Nat) (h1 h2 : Nat) (a : Nat → Nat)  (x : Int32) (ho : o < 4) (hr_ : r ≤ 4) (hV : Vd a) : MI l D cA yX6_fold wsX6_fold rm_X6_fold [.ref d0, .int x] [(d0, .inr (6, .ref h0 :: .ref k0 :: .ref q0 :: .ref c0 :: .ref t0 :: .ref s0 :: .ref b0 :: fs)), (c1, .inr (3, [.ref c2])), (h0, .inr (4, [.ref h1])), (h1, .inr (3, [.ref h2]))] [(c0, .inr (1, [.ref c1, .int (nI o), .int (nI r)])), (c2, .inl (cA, 1144, .inl (nF hs))), (h2, .inl (cA, 286, .inl (nF a)))] (S := (Nat) × (Nat) × (Nat → Nat) × (Nat → Nat)) (fun rr_ (uu_ : (Nat) × (Nat) × (Nat → Nat) × (Nat → Nat)) => rr_ = (aFold a x).1 ∧ (ActC a hs o r (aFold a x).2 uu_.1 uu_.2.1 uu_.2.2.1 uu_.2.2.2)) (fun (uu_ : (Nat) × (Nat) × (Nat → Nat) × (Nat → Nat)) => [(c0, .inr (1, [.ref c1, .int (nI uu_.1), .int (nI uu_.2.1)])), (c2, .inl (cA, 1144, .inl (nF uu_.2.2.1))), (h2, .inl (cA, 286, .inl (nF uu_.2.2.2)))]) := by
  refine ofWi (cc := cX6_fold) (maxL := 4) (rt := .int) (by decide) rfl (Nat.le_of_ble_eq_true rfl) ?_
  intro p e s m args below meth c Q A ls F hK hR hP hD hA hS hl RET
  obtain ⟨hx, hb, hml, hown, hts⟩ := id F
  have hl : lv_has ls 4 [(0, .ref d0), (1, .int x)] := hl
  refine lv_aload_n hx hb dX6_fold_0 rfl (lv_at hl 0 rfl) ?_
  refine va_get (D := D) (cl := vwCl) (ci := 6) (v := .ref h0) (C := RX6) (T := TX6) (N := 8) hx hb hts inf_X6_fold_X6 hown hK.1 (hR.at hS) 0 rfl rfl 0 (by decide) (hts _ (List.mem_of_getElem? (i := 1) rfl)) (fun _ h9 => h9) rfl dX6_fold_1 ?_
  refine lv_iload_n hx hb dX6_fold_4 rfl (lv_at hl 1 rfl) ?_
  refine call_r (q := (RX4, TX4, 1)) (As := [.int x]) (rest := []) F (c_X4_hasGarland l D cA h0 h1 h2 a x (fun g hg => by have := hV.1 g hg; omega)) (cwV 1 hts gX6_fold_X4_hasGarland rfl rfl rfl ydv_X4_hasGarland ⟨Nat.le_of_ble_eq_true rfl, Nat.le_of_ble_eq_true rfl⟩) hK hR hP hD hA hS [2, 3, 6] rfl rfl 2 4 rfl rfl rfl hl.1 rfl (Nat.le_of_ble_eq_true rfl) dX6_fold_5 ⟨Nat.zero_le _, Nat.zero_le _⟩ (fun H locs hP hS => ?_)
  refine bv_if_ne (tgt := 13) hx hb dX6_fold_8 (by decide) (fun c_8 => ?_) (fun c_8 => ?_)
  · obtain ⟨g, hg, rfl, hg0⟩ := inG_t c_8
    have hcx : cN (nI g) = g := cN_nI (by omega)
    have hl1 := hV.l hg
    have hd1 := hV.d (q := ln a g - 1) hg (by omega)
    have hd2 := mir_lt hd1
    refine lv_aload_n hx hb dX6_fold_13 rfl (lv_at hl 0 rfl) ?_
    refine va_get (D := D) (cl := vwCl) (ci := 6) (v := .ref h0) (C := RX6) (T := TX6) (N := 8) hx hb hts inf_X6_fold_X6 hown hK.1 (hR.at hS) 0 rfl rfl 0 (by decide) (hts _ (List.mem_of_getElem? (i := 1) rfl)) (fun _ h9 => h9) rfl dX6_fold_14 ?_
    refine lv_iload_n hx hb dX6_fold_17 rfl (lv_at hl 1 rfl) ?_
    refine call_r (q := (RX4, TX4, 1)) (As := [.int (nI g)]) (rest := []) F (c_X4_lastDoll l D cA h0 h1 h2 a g (by omega) (by omega) (by omega)) (cwV 1 hts gX6_fold_X4_lastDoll rfl rfl rfl ydv_X4_lastDoll ⟨Nat.le_of_ble_eq_true rfl, Nat.le_of_ble_eq_true rfl⟩) hK hR hP hD hA hS [2, 3, 6] rfl rfl 2 4 rfl rfl rfl hl.1 rfl (Nat.le_of_ble_eq_true rfl) dX6_fold_18 ⟨Nat.zero_le _, Nat.zero_le _⟩ (fun H locs hP hS => ?_)
    refine lv_istore_n (lv' := [(2, .int (nI (dl a g (ln a g - 1)))), (0, .ref d0), (1, .int (nI g))]) hx hb dX6_fold_21 rfl hl (by decide) rfl (fun ls hl => ?_)
    refine lv_aload_n hx hb dX6_fold_22 rfl (lv_at hl 1 rfl) ?_
    refine va_get (D := D) (cl := vwCl) (ci := 6) (v := .ref h0) (C := RX6) (T := TX6) (N := 8) hx hb hts inf_X6_fold_X6 hown hK.1 (hR.at hS) 0 rfl rfl 0 (by decide) (hts _ (List.mem_of_getElem? (i := 1) rfl)) (fun _ h9 => h9) rfl dX6_fold_23 ?_
    refine lv_iload_n hx hb dX6_fold_26 rfl (lv_at hl 0 rfl) ?_
    refine lv_iload_n hx hb dX6_fold_27 rfl (lv_at hl 0 rfl) ?_
    refine call_s (As := [.int (nI (dl a g (ln a g - 1)))]) (rest := [.int (nI (dl a g (ln a g - 1))), .ref h0]) F (c_X6_mirrorOf l D cA (dl a g (ln a g - 1))) (va_cwS 1 hts gX6_fold_X6_mirrorOf rfl rfl rfl yd_X6_mirrorOf ⟨Nat.le_of_ble_eq_true rfl, Nat.le_of_ble_eq_true rfl⟩) hK hR hP hD hA hS rfl hl.1 rfl (Nat.le_of_ble_eq_true rfl) dX6_fold_28 ⟨Nat.zero_le _, Nat.zero_le _⟩ (fun H locs hP hS => ?_)
    refine call_r (q := (RX4, TX4, 1)) (As := [.int (nI (dl a g (ln a g - 1))), .int (nI (mir (dl a g (ln a g - 1))))]) (rest := []) F (c_X4_clash l D cA h0 h1 h2 a (dl a g (ln a g - 1)) (mir (dl a g (ln a g - 1))) (hV.r) (by omega) (by omega) (hV)) (cwV 2 hts gX6_fold_X4_clash rfl rfl rfl ydv_X4_clash ⟨Nat.le_of_ble_eq_true rfl, Nat.le_of_ble_eq_true rfl⟩) hK hR hP hD hA hS [2, 3, 6] rfl rfl 2 4 rfl rfl rfl hl.1 rfl (Nat.le_of_ble_eq_true rfl) dX6_fold_31 ⟨Nat.zero_le _, Nat.zero_le _⟩ (fun H locs hP hS => ?_)
    refine bv_if_eq (tgt := 40) hx hb dX6_fold_34 (by decide) (fun c_34 => ?_) (fun c_34 => ?_)
    · refine lv_iconst (v := nI 2) hx hb dX6_fold_40 (by decide) ?_
      refine lv_aload_n hx hb dX6_fold_41 rfl (lv_at hl 1 rfl) ?_
      refine va_get (D := D) (cl := vwCl) (ci := 6) (v := .ref h0) (C := RX6) (T := TX6) (N := 8) hx hb hts inf_X6_fold_X6 hown hK.1 (hR.at hS) 0 rfl rfl 0 (by decide) (hts _ (List.mem_of_getElem? (i := 1) rfl)) (fun _ h9 => h9) rfl dX6_fold_42 ?_
      refine lv_iload_n hx hb dX6_fold_45 rfl (lv_at hl 2 rfl) ?_
      refine call_r (q := (RX4, TX4, 1)) (As := [.int (nI g)]) (rest := [.int (nI 2)]) F (c_X4_lengthOf l D cA h0 h1 h2 a g (by omega)) (cwV 1 hts gX6_fold_X4_lengthOf rfl rfl rfl ydv_X4_lengthOf ⟨Nat.le_of_ble_eq_true rfl, Nat.le_of_ble_eq_true rfl⟩) hK hR hP hD hA hS [2, 3, 6] rfl rfl 2 4 rfl rfl rfl hl.1 rfl (Nat.le_of_ble_eq_true rfl) dX6_fold_46 ⟨Nat.zero_le _, Nat.zero_le _⟩ (fun H locs hP hS => ?_)
      refine nv_imul hx hb dX6_fold_49 ?_
      refine lv_istore_n (lv' := [(3, .int (nI (2 * (ln a g)))), (2, .int (nI (dl a g (ln a g - 1)))), (0, .ref d0), (1, .int (nI g))]) hx hb dX6_fold_50 rfl hl (by decide) rfl (fun ls hl => ?_)
      refine lv_iload_n hx hb dX6_fold_51 rfl (lv_at hl 0 rfl) ?_
      refine lv_bipush (v := nI 32) hx hb dX6_fold_52 (by decide) ?_
      refine nv_icmp_le (tgt := 60) hx hb dX6_fold_54 (by decide) (by omega) (by decide) (fun c_54 => ?_) (fun c_54 => ?_)
      · refine lv_aload_n hx hb dX6_fold_60 rfl (lv_at hl 2 rfl) ?_
        refine va_get (D := D) (cl := vwCl) (ci := 6) (v := .ref c0) (C := RX6) (T := TX6) (N := 8) hx hb hts inf_X6_fold_X6 hown hK.1 (hR.at hS) 0 rfl rfl 3 (by decide) (hts _ (List.mem_of_getElem? (i := 2) rfl)) (fun _ h9 => h9) rfl dX6_fold_61 ?_
        refine lv_aload_n hx hb dX6_fold_64 rfl (lv_at hl 2 rfl) ?_
        refine va_get (D := D) (cl := vwCl) (ci := 6) (v := .ref h0) (C := RX6) (T := TX6) (N := 8) hx hb hts inf_X6_fold_X6 hown hK.1 (hR.at hS) 0 rfl rfl 0 (by decide) (hts _ (List.mem_of_getElem? (i := 1) rfl)) (fun _ h9 => h9) rfl dX6_fold_65 ?_
        refine call_v (q := (RX1, TX1, 3)) (As := [.ref h0]) (rest := []) F (c_X1_remember l D cA c0 c1 c2 o r hs h0 h1 h2 a (by omega) (by omega)) (cwV 1 hts gX6_fold_X1_remember rfl rfl rfl ydv_X1_remember ⟨Nat.le_of_ble_eq_true rfl, Nat.le_of_ble_eq_true rfl⟩) hK hR hP hD hA hS [1, 2, 3, 4, 5, 6] [0, 1, 2] rfl rfl rfl 4 1 rfl rfl (fun _ => rfl) rfl hl.1 rfl (Nat.le_of_ble_eq_true rfl) dX6_fold_68 ⟨Nat.zero_le _, Nat.zero_le _⟩ (fun u_68 H locs hw hP hD hS => ?_)
        have hP : va_P D vwCl [(c0, .inr (1, [.ref c1, .int (nI (hisO o r)), .int (nI (hisT r + 1))])), (c2, .inl (cA, 1144, .inl (nF (cpyN a hs 0 ((hisO o r + hisT r) % 4 * 286) 286)))), (h2, .inl (cA, 286, .inl (nF a)))] H := hP
        have hD : va_D A [(c0, .inr (1, [.ref c1, .int (nI (hisO o r)), .int (nI (hisT r + 1))])), (c2, .inl (cA, 1144, .inl (nF (cpyN a hs 0 ((hisO o r + hisT r) % 4 * 286) 286)))), (h2, .inl (cA, 286, .inl (nF a)))] := hD
        refine lv_aload_n hx hb dX6_fold_71 rfl (lv_at hl 2 rfl) ?_
        refine va_get (D := D) (cl := vwCl) (ci := 6) (v := .ref h0) (C := RX6) (T := TX6) (N := 8) hx hb hts inf_X6_fold_X6 hown hK.1 (hR.at hS) 0 rfl rfl 0 (by decide) (hts _ (List.mem_of_getElem? (i := 1) rfl)) (fun _ h9 => h9) rfl dX6_fold_72 ?_
        refine lv_iload_n hx hb dX6_fold_75 rfl (lv_at hl 3 rfl) ?_
        refine call_v (q := (RX4, TX4, 1)) (As := [.int (nI g)]) (rest := []) F (c_X4_foldOut l D cA h0 h1 h2 a g (hV) (by omega) (by omega)) (cwV 1 hts gX6_fold_X4_foldOut rfl rfl rfl ydv_X4_foldOut ⟨Nat.le_of_ble_eq_true rfl, Nat.le_of_ble_eq_true rfl⟩) hK hR hP hD hA hS [2, 3, 6] [2] rfl rfl rfl 2 4 rfl rfl (fun _ => rfl) rfl hl.1 rfl (Nat.le_of_ble_eq_true rfl) dX6_fold_76 ⟨Nat.zero_le _, Nat.zero_le _⟩ (fun u_76 H locs hw hP hD hS => ?_)
        have hP : va_P D vwCl [(c0, .inr (1, [.ref c1, .int (nI (hisO o r)), .int (nI (hisT r + 1))])), (c2, .inl (cA, 1144, .inl (nF (cpyN a hs 0 ((hisO o r + hisT r) % 4 * 286) 286)))), (h2, .inl (cA, 286, .inl (nF (updN (foldA a g) (22 + g) (2 * ln a g)))))] H := hP
        have hD : va_D A [(c0, .inr (1, [.ref c1, .int (nI (hisO o r)), .int (nI (hisT r + 1))])), (c2, .inl (cA, 1144, .inl (nF (cpyN a hs 0 ((hisO o r + hisT r) % 4 * 286) 286)))), (h2, .inl (cA, 286, .inl (nF (updN (foldA a g) (22 + g) (2 * ln a g)))))] := hD
        refine lv_iload_n hx hb dX6_fold_79 rfl (lv_at hl 0 rfl) ?_
        have hE : aFold a (nI g) = (nI (2 * (ln a g)), some (updN (foldA a g) (22 + g) (2 * ln a g))) := by first | (simp only [aFold, hcx]; simp [c_8, c_34, c_54]; done) | (simp only [aFold, hcx]; simp [c_8, c_34, c_54]; omega)
        refine tope (y := (aFold a (nI g)).1) (by rw [hE]) ?_
        exact RET _ _ _ _ _ (hisO o r, hisT r + 1, cpyN a hs 0 ((hisO o r + hisT r) % 4 * 286) 286, updN (foldA a g) (22 + g) (2 * ln a g)) dX6_fold_80 rfl ⟨rfl, (by rw [hE]; exact ⟨rfl, rfl, rfl, rfl⟩)⟩ hP hS
      · refine lv_bipush (v := -3) hx hb dX6_fold_57 (by decide) ?_
        have hE : aFold a (nI g) = ((-3), none) := by first | (simp only [aFold, hcx]; simp [c_8, c_34, c_54]; done) | (simp only [aFold, hcx]; simp [c_8, c_34, c_54]; omega)
        refine tope (y := (aFold a (nI g)).1) (by rw [hE]) ?_
        exact RET _ _ _ _ _ (o, r, hs, a) dX6_fold_59 rfl ⟨rfl, (by rw [hE]; exact ⟨rfl, rfl, rfl, rfl⟩)⟩ hP hS
    · refine lv_bipush (v := -4) hx hb dX6_fold_37 (by decide) ?_
      have hE : aFold a (nI g) = ((-4), none) := by first | (simp only [aFold, hcx]; simp [c_8, c_34]; done) | (simp only [aFold, hcx]; simp [c_8, c_34]; omega)
      refine tope (y := (aFold a (nI g)).1) (by rw [hE]) ?_
      exact RET _ _ _ _ _ (o, r, hs, a) dX6_fold_39 rfl ⟨rfl, (by rw [hE]; exact ⟨rfl, rfl, rfl, rfl⟩)⟩ hP hS
  · refine lv_iconst (v := -1) hx hb dX6_fold_11 (by decide) ?_
    have hE : aFold a x = ((-1), none) := by first | (simp only [aFold]; simp [c_8]; done) | (simp only [aFold]; simp [c_8]; omega)
    refine tope (y := (aFold a x).1) (by rw [hE]) ?_
    exact RET _ _ _ _ _ (o, r, hs, a) dX6_fold_12 rfl ⟨rfl, (by rw [hE]; exact ⟨rfl, rfl, rfl, rfl⟩)⟩ hP hS
abbrev rm_X6_takeAway : Room := { frames := 4, cells := 0, slots := 0, locals := 93 }
theorem ydv_X6_takeAway : yX6_takeAway.cls = RX6 ∧ yX6_takeAway.cls ≠ "java/lang/invoke/MethodHandle" ∧ yX6_takeAway.cls ≠ "java/lang/invoke/VarHandle" ∧ (parseMethodDescriptor yX6_takeAway.desc).map (fun d => d.parameters.length) = some 1 := by decide +kernel
theorem inf_X6_takeAway_X6 : ∀ w ∈ wsX60, w ∈ wsX6_takeAway := fun w h => List.mem_cons_of_mem _ (List.mem_append_left _ (List.mem_append_left _ (List.mem_append_left _ (List.mem_append_right _ (h)))))
set_option maxHeartbeats 4000000 in
set_option maxRecDepth 100000 in
theorem c_X6_takeAway (l : Launch) (D : va_G) (cA : ClassId) (d0 h0 k0 q0 c0 t0 s0 b0 : Nat) (fs : List Value) (c1 c2 : Nat) (o r : Nat) (hs : Nat → Nat) (h1 h2 : Nat) (a : Nat → Nat)  (x : Int32) (ho : o < 4) (hr_ : r ≤ 4) (hV : Vd a) : MI l D cA yX6_takeAway wsX6_takeAway rm_X6_takeAway [.ref d0, .int x] [(d0, .inr (6, .ref h0 :: .ref k0 :: .ref q0 :: .ref c0 :: .ref t0 :: .ref s0 :: .ref b0 :: fs)), (c1, .inr (3, [.ref c2])), (h0, .inr (4, [.ref h1])), (h1, .inr (3, [.ref h2]))] [(c0, .inr (1, [.ref c1, .int (nI o), .int (nI r)])), (c2, .inl (cA, 1144, .inl (nF hs))), (h2, .inl (cA, 286, .inl (nF a)))] (S := (Nat) × (Nat) × (Nat → Nat) × (Nat → Nat)) (fun rr_ (uu_ : (Nat) × (Nat) × (Nat → Nat) × (Nat → Nat)) => rr_ = (aTake a x).1 ∧ (ActC a hs o r (aTake a x).2 uu_.1 uu_.2.1 uu_.2.2.1 uu_.2.2.2)) (fun (uu_ : (Nat) × (Nat) × (Nat → Nat) × (Nat → Nat)) => [(c0, .inr (1, [.ref c1, .int (nI uu_.1), .int (nI uu_.2.1)])), (c2, .inl (cA, 1144, .inl (nF uu_.2.2.1))), (h2, .inl (cA, 286, .inl (nF uu_.2.2.2)))]) := by
  refine ofWi (cc := cX6_takeAway) (maxL := 3) (rt := .int) (by decide) rfl (Nat.le_of_ble_eq_true rfl) ?_
  intro p e s m args below meth c Q A ls F hK hR hP hD hA hS hl RET
  obtain ⟨hx, hb, hml, hown, hts⟩ := id F
  have hl : lv_has ls 3 [(0, .ref d0), (1, .int x)] := hl
  refine lv_aload_n hx hb dX6_takeAway_0 rfl (lv_at hl 0 rfl) ?_
  refine va_get (D := D) (cl := vwCl) (ci := 6) (v := .ref h0) (C := RX6) (T := TX6) (N := 8) hx hb hts inf_X6_takeAway_X6 hown hK.1 (hR.at hS) 0 rfl rfl 0 (by decide) (hts _ (List.mem_of_getElem? (i := 1) rfl)) (fun _ h9 => h9) rfl dX6_takeAway_1 ?_
  refine lv_iload_n hx hb dX6_takeAway_4 rfl (lv_at hl 1 rfl) ?_
  refine call_r (q := (RX4, TX4, 1)) (As := [.int x]) (rest := []) F (c_X4_hasGarland l D cA h0 h1 h2 a x (fun g hg => by have := hV.1 g hg; omega)) (cwV 1 hts gX6_takeAway_X4_hasGarland rfl rfl rfl ydv_X4_hasGarland ⟨Nat.le_of_ble_eq_true rfl, Nat.le_of_ble_eq_true rfl⟩) hK hR hP hD hA hS [2, 3, 6] rfl rfl 2 4 rfl rfl rfl hl.1 rfl (Nat.le_of_ble_eq_true rfl) dX6_takeAway_5 ⟨Nat.zero_le _, Nat.zero_le _⟩ (fun H locs hP hS => ?_)
  refine bv_if_ne (tgt := 13) hx hb dX6_takeAway_8 (by decide) (fun c_8 => ?_) (fun c_8 => ?_)
  · obtain ⟨g, hg, rfl, hg0⟩ := inG_t c_8
    have hcx : cN (nI g) = g := cN_nI (by omega)
    refine lv_aload_n hx hb dX6_takeAway_13 rfl (lv_at hl 0 rfl) ?_
    refine va_get (D := D) (cl := vwCl) (ci := 6) (v := .ref h0) (C := RX6) (T := TX6) (N := 8) hx hb hts inf_X6_takeAway_X6 hown hK.1 (hR.at hS) 0 rfl rfl 0 (by decide) (hts _ (List.mem_of_getElem? (i := 1) rfl)) (fun _ h9 => h9) rfl dX6_takeAway_14 ?_
    refine lv_iload_n hx hb dX6_takeAway_17 rfl (lv_at hl 1 rfl) ?_
    refine call_r (q := (RX4, TX4, 1)) (As := [.int (nI g)]) (rest := []) F (c_X4_lengthOf l D cA h0 h1 h2 a g (by omega)) (cwV 1 hts gX6_takeAway_X4_lengthOf rfl rfl rfl ydv_X4_lengthOf ⟨Nat.le_of_ble_eq_true rfl, Nat.le_of_ble_eq_true rfl⟩) hK hR hP hD hA hS [2, 3, 6] rfl rfl 2 4 rfl rfl rfl hl.1 rfl (Nat.le_of_ble_eq_true rfl) dX6_takeAway_18 ⟨Nat.zero_le _, Nat.zero_le _⟩ (fun H locs hP hS => ?_)
    refine lv_istore_n (lv' := [(2, .int (nI (ln a g))), (0, .ref d0), (1, .int (nI g))]) hx hb dX6_takeAway_21 rfl hl (by decide) rfl (fun ls hl => ?_)
    refine lv_aload_n hx hb dX6_takeAway_22 rfl (lv_at hl 1 rfl) ?_
    refine va_get (D := D) (cl := vwCl) (ci := 6) (v := .ref c0) (C := RX6) (T := TX6) (N := 8) hx hb hts inf_X6_takeAway_X6 hown hK.1 (hR.at hS) 0 rfl rfl 3 (by decide) (hts _ (List.mem_of_getElem? (i := 2) rfl)) (fun _ h9 => h9) rfl dX6_takeAway_23 ?_
    refine lv_aload_n hx hb dX6_takeAway_26 rfl (lv_at hl 1 rfl) ?_
    refine va_get (D := D) (cl := vwCl) (ci := 6) (v := .ref h0) (C := RX6) (T := TX6) (N := 8) hx hb hts inf_X6_takeAway_X6 hown hK.1 (hR.at hS) 0 rfl rfl 0 (by decide) (hts _ (List.mem_of_getElem? (i := 1) rfl)) (fun _ h9 => h9) rfl dX6_takeAway_27 ?_
    refine call_v (q := (RX1, TX1, 3)) (As := [.ref h0]) (rest := []) F (c_X1_remember l D cA c0 c1 c2 o r hs h0 h1 h2 a (by omega) (by omega)) (cwV 1 hts gX6_takeAway_X1_remember rfl rfl rfl ydv_X1_remember ⟨Nat.le_of_ble_eq_true rfl, Nat.le_of_ble_eq_true rfl⟩) hK hR hP hD hA hS [1, 2, 3, 4, 5, 6] [0, 1, 2] rfl rfl rfl 4 1 rfl rfl (fun _ => rfl) rfl hl.1 rfl (Nat.le_of_ble_eq_true rfl) dX6_takeAway_30 ⟨Nat.zero_le _, Nat.zero_le _⟩ (fun u_30 H locs hw hP hD hS => ?_)
    have hP : va_P D vwCl [(c0, .inr (1, [.ref c1, .int (nI (hisO o r)), .int (nI (hisT r + 1))])), (c2, .inl (cA, 1144, .inl (nF (cpyN a hs 0 ((hisO o r + hisT r) % 4 * 286) 286)))), (h2, .inl (cA, 286, .inl (nF a)))] H := hP
    have hD : va_D A [(c0, .inr (1, [.ref c1, .int (nI (hisO o r)), .int (nI (hisT r + 1))])), (c2, .inl (cA, 1144, .inl (nF (cpyN a hs 0 ((hisO o r + hisT r) % 4 * 286) 286)))), (h2, .inl (cA, 286, .inl (nF a)))] := hD
    refine lv_aload_n hx hb dX6_takeAway_33 rfl (lv_at hl 1 rfl) ?_
    refine va_get (D := D) (cl := vwCl) (ci := 6) (v := .ref h0) (C := RX6) (T := TX6) (N := 8) hx hb hts inf_X6_takeAway_X6 hown hK.1 (hR.at hS) 0 rfl rfl 0 (by decide) (hts _ (List.mem_of_getElem? (i := 1) rfl)) (fun _ h9 => h9) rfl dX6_takeAway_34 ?_
    refine lv_iload_n hx hb dX6_takeAway_37 rfl (lv_at hl 2 rfl) ?_
    refine lv_iconst (v := nI 0) hx hb dX6_takeAway_38 (by decide) ?_
    refine call_v (q := (RX4, TX4, 1)) (As := [.int (nI g), .int (nI 0)]) (rest := []) F (c_X4_putLength l D cA h0 h1 h2 a g 0 (by omega)) (cwV 2 hts gX6_takeAway_X4_putLength rfl rfl rfl ydv_X4_putLength ⟨Nat.le_of_ble_eq_true rfl, Nat.le_of_ble_eq_true rfl⟩) hK hR hP hD hA hS [2, 3, 6] [2] rfl rfl rfl 2 4 rfl rfl (fun _ => rfl) rfl hl.1 rfl (Nat.le_of_ble_eq_true rfl) dX6_takeAway_39 ⟨Nat.zero_le _, Nat.zero_le _⟩ (fun u_39 H locs hw hP hD hS => ?_)
    have hP : va_P D vwCl [(c0, .inr (1, [.ref c1, .int (nI (hisO o r)), .int (nI (hisT r + 1))])), (c2, .inl (cA, 1144, .inl (nF (cpyN a hs 0 ((hisO o r + hisT r) % 4 * 286) 286)))), (h2, .inl (cA, 286, .inl (nF (updN a (22 + g) 0))))] H := hP
    have hD : va_D A [(c0, .inr (1, [.ref c1, .int (nI (hisO o r)), .int (nI (hisT r + 1))])), (c2, .inl (cA, 1144, .inl (nF (cpyN a hs 0 ((hisO o r + hisT r) % 4 * 286) 286)))), (h2, .inl (cA, 286, .inl (nF (updN a (22 + g) 0))))] := hD
    refine lv_iload_n hx hb dX6_takeAway_42 rfl (lv_at hl 0 rfl) ?_
    have hE : aTake a (nI g) = (nI (ln a g), some (updN a (22 + g) 0)) := by first | (simp only [aTake, hcx]; simp [c_8]; done) | (simp only [aTake, hcx]; simp [c_8]; omega)
    refine tope (y := (aTake a (nI g)).1) (by rw [hE]) ?_
    exact RET _ _ _ _ _ (hisO o r, hisT r + 1, cpyN a hs 0 ((hisO o r + hisT r) % 4 * 286) 286, updN a (22 + g) 0) dX6_takeAway_43 rfl ⟨rfl, (by rw [hE]; exact ⟨rfl, rfl, rfl, rfl⟩)⟩ hP hS
  · refine lv_iconst (v := -1) hx hb dX6_takeAway_11 (by decide) ?_
    have hE : aTake a x = ((-1), none) := by first | (simp only [aTake]; simp [c_8]; done) | (simp only [aTake]; simp [c_8]; omega)
    refine tope (y := (aTake a x).1) (by rw [hE]) ?_
    exact RET _ _ _ _ _ (o, r, hs, a) dX6_takeAway_12 rfl ⟨rfl, (by rw [hE]; exact ⟨rfl, rfl, rfl, rfl⟩)⟩ hP hS
