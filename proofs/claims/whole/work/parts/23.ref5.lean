/-! laid by a program: contracts of X7_setHands, X7_setRule, X7_setKinds, X7_cutDoll, X7_join, X7_cutApart, X7_turn, X7_fold, X7_takeAway -/
abbrev rm_X7_setHands : Room := { frames := 3, cells := 0, slots := 0, locals := 69 }
theorem ydv_X7_setHands : yX7_setHands.cls = RX7 ∧ yX7_setHands.cls ≠ "java/lang/invoke/MethodHandle" ∧ yX7_setHands.cls ≠ "java/lang/invoke/VarHandle" ∧ (parseMethodDescriptor yX7_setHands.desc).map (fun d => d.parameters.length) = some 3 := by decide +kernel
theorem inf_X7_setHands_X7 : ∀ w ∈ wsX70, w ∈ wsX7_setHands := fun w h => List.mem_cons_of_mem _ (List.mem_append_right _ (h))
set_option maxHeartbeats 4000000 in
set_option maxRecDepth 100000 in
theorem c_X7_setHands (l : Launch) (D : va_G) (cA : ClassId) (m0 m1 m2 m3 m4 m5 m6 m7 m8 m9 yl ik tl sp rd : Nat) (a M K yh : Nat → Nat)  (x u v : Int32) (hV : Vd a) (hM : Rl a M) (hyl : yl ≤ 4) : MI l D cA yX7_setHands wsX7_setHands rm_X7_setHands [.ref m0, .int x, .int u, .int v] [] [(m0, .inr (7, [.ref m1, .ref m2, .ref m3, .int (nI yl), .ref m4, .int (nI ik), .ref m5, .ref m6, .int (nI tl), .int (nI sp), .int (nI rd), .ref m7, .ref m8, .ref m9])), (m1, .inl (cA, 286, .inl (nF M))), (m2, .inl (cA, 286, .inl (nF K))), (m3, .inl (cA, 1144, .inl (nF yh)))] (S := (Nat) × (Nat → Nat) × (Nat → Nat) × (Nat → Nat)) (fun rr_ (uu_ : (Nat) × (Nat → Nat) × (Nat → Nat) × (Nat → Nat)) => rr_ = (aHands a x u v).1 ∧ (ActM a M yh yl (aHands a x u v).2 uu_.1 uu_.2.2.2 uu_.2.1)) (fun (uu_ : (Nat) × (Nat → Nat) × (Nat → Nat) × (Nat → Nat)) => [(m0, .inr (7, [.ref m1, .ref m2, .ref m3, .int (nI uu_.1), .ref m4, .int (nI ik), .ref m5, .ref m6, .int (nI tl), .int (nI sp), .int (nI rd), .ref m7, .ref m8, .ref m9])), (m1, .inl (cA, 286, .inl (nF uu_.2.1))), (m2, .inl (cA, 286, .inl (nF uu_.2.2.1))), (m3, .inl (cA, 1144, .inl (nF uu_.2.2.2)))]) := by
  refine ofWi (cc := cX7_setHands) (maxL := 7) (rt := .int) (by decide) rfl (Nat.le_of_ble_eq_true rfl) ?_
  intro p e s m args below meth c Q A ls F hK hR hP hD hA hS hl RET
  obtain ⟨hx, hb, hml, hown, hts⟩ := id F
  have hl : lv_has ls 7 [(0, .ref m0), (1, .int x), (2, .int u), (3, .int v)] := hl
  refine lv_aload_n hx hb dX7_setHands_0 rfl (lv_at hl 0 rfl) ?_
  refine lv_iload_n hx hb dX7_setHands_1 rfl (lv_at hl 1 rfl) ?_
  refine call_r (q := (RX7, TX7, 14)) (As := [.int x]) (rest := []) F (c_X7_isKind l D cA m0 m1 ([.ref m2, .ref m3, .int (nI yl), .ref m4, .int (nI ik), .ref m5, .ref m6, .int (nI tl), .int (nI sp), .int (nI rd), .ref m7, .ref m8, .ref m9]) a M x (hV) (hM)) (cwV 1 hts gX7_setHands_X7_isKind rfl rfl rfl ydv_X7_isKind ⟨Nat.le_of_ble_eq_true rfl, Nat.le_of_ble_eq_true rfl⟩) hK hR hP hD hA hS [0, 1] rfl rfl 0 7 rfl rfl rfl hl.1 rfl (Nat.le_of_ble_eq_true rfl) dX7_setHands_2 ⟨Nat.zero_le _, Nat.zero_le _⟩ (fun H locs hP hS => ?_)
  refine bv_if_ne (tgt := 10) hx hb dX7_setHands_5 (by decide) (fun c_5 => ?_) (fun c_5 => ?_)
  · have hk_ := hV.k
    obtain ⟨k, hk, rfl⟩ := isB_t (by omega) c_5
    have hcx : cN (nI k) = k := cN_nI (by omega)
    refine lv_iload_n hx hb dX7_setHands_10 rfl (lv_at hl 2 rfl) ?_
    refine lv_i2l (v := (u).toInt64) hx hb dX7_setHands_11 rfl ?_
    refine lv_lconst (v := lN 0) hx hb dX7_setHands_12 rfl ?_
    refine lv_ldc2 (v := lN 5) hx hb hown (hts _ (List.mem_of_getElem? (i := 1) rfl)) dX7_setHands_13 ?_
    refine call_s (As := [.long ((u).toInt64), .long (lN 0), .long (lN 5)]) (rest := []) F (c_X7_in l D cA ((u).toInt64) (lN 0) (lN 5)) (va_cwS 3 hts gX7_setHands_X7_in rfl rfl rfl yd_X7_in ⟨Nat.le_of_ble_eq_true rfl, Nat.le_of_ble_eq_true rfl⟩) hK hR hP hD hA hS rfl hl.1 rfl (Nat.le_of_ble_eq_true rfl) dX7_setHands_16 ⟨Nat.zero_le _, Nat.zero_le _⟩ (fun H locs hP hS => ?_)
    refine tope (y := bI (isB u 6)) (congrArg bI (inL_B (n := 5) (by decide))) ?_
    refine bv_if_eq (tgt := 34) hx hb dX7_setHands_19 (by decide) (fun c_19 => ?_) (fun c_19 => ?_)
    · refine lv_bipush (v := -2) hx hb dX7_setHands_34 (by decide) ?_
      have hE : aHands a (nI k) u v = ((-2), none) := by first | (simp only [aHands, hcx]; simp [c_5, c_19]; done) | (simp only [aHands, hcx]; simp [c_5, c_19]; omega)
      refine tope (y := (aHands a (nI k) u v).1) (by rw [hE]) ?_
      exact RET _ _ _ _ _ (yl, M, K, yh) dX7_setHands_36 rfl ⟨rfl, (by rw [hE]; exact ⟨rfl, rfl, hM⟩)⟩ hP hS
    · refine lv_iload_n hx hb dX7_setHands_22 rfl (lv_at hl 3 rfl) ?_
      refine lv_i2l (v := (v).toInt64) hx hb dX7_setHands_23 rfl ?_
      refine lv_lconst (v := lN 0) hx hb dX7_setHands_24 rfl ?_
      refine lv_ldc2 (v := lN 5) hx hb hown (hts _ (List.mem_of_getElem? (i := 1) rfl)) dX7_setHands_25 ?_
      refine call_s (As := [.long ((v).toInt64), .long (lN 0), .long (lN 5)]) (rest := []) F (c_X7_in l D cA ((v).toInt64) (lN 0) (lN 5)) (va_cwS 3 hts gX7_setHands_X7_in rfl rfl rfl yd_X7_in ⟨Nat.le_of_ble_eq_true rfl, Nat.le_of_ble_eq_true rfl⟩) hK hR hP hD hA hS rfl hl.1 rfl (Nat.le_of_ble_eq_true rfl) dX7_setHands_28 ⟨Nat.zero_le _, Nat.zero_le _⟩ (fun H locs hP hS => ?_)
      refine tope (y := bI (isB v 6)) (congrArg bI (inL_B (n := 5) (by decide))) ?_
      refine bv_if_ne (tgt := 37) hx hb dX7_setHands_31 (by decide) (fun c_31 => ?_) (fun c_31 => ?_)
      · obtain ⟨u_, hu, rfl⟩ := isB_t (by decide) c_19
        have hcu : cN (nI u_) = u_ := cN_nI (by omega)
        obtain ⟨v_, hv, rfl⟩ := isB_t (by decide) c_31
        have hcv : cN (nI v_) = v_ := cN_nI (by omega)
        have hb1_ := hV.h (k := k) (by omega)
        have hb2_ := hV.h (k := 10 + k) (by omega)
        rw [show 2 + (10 + k) = 12 + k by omega] at hb2_
        refine lv_aload_n hx hb dX7_setHands_37 rfl (lv_at hl 0 rfl) ?_
        refine call_v (q := (RX7, TX7, 14)) (As := []) (rest := []) F (c_X7_keeps l D cA m0 m1 m2 ([.ref m3, .int (nI yl), .ref m4, .int (nI ik), .ref m5, .ref m6, .int (nI tl), .int (nI sp), .int (nI rd), .ref m7, .ref m8, .ref m9]) M K) (cwV 0 hts gX7_setHands_X7_keeps rfl rfl rfl ydv_X7_keeps ⟨Nat.le_of_ble_eq_true rfl, Nat.le_of_ble_eq_true rfl⟩) hK hR hP hD hA hS [0, 1, 2] [2] rfl rfl rfl 0 7 rfl rfl (fun _ => rfl) rfl hl.1 rfl (Nat.le_of_ble_eq_true rfl) dX7_setHands_38 ⟨Nat.zero_le _, Nat.zero_le _⟩ (fun u_38 H locs hw hP hD hS => ?_)
        obtain ⟨K2_38, rfl⟩ : ∃ z, z = u_38 := ⟨_, rfl⟩
        have hP : va_P D vwCl [(m0, .inr (7, [.ref m1, .ref m2, .ref m3, .int (nI yl), .ref m4, .int (nI ik), .ref m5, .ref m6, .int (nI tl), .int (nI sp), .int (nI rd), .ref m7, .ref m8, .ref m9])), (m1, .inl (cA, 286, .inl (nF M))), (m2, .inl (cA, 286, .inl (nF K2_38))), (m3, .inl (cA, 1144, .inl (nF yh)))] H := hP
        have hD : va_D A [(m0, .inr (7, [.ref m1, .ref m2, .ref m3, .int (nI yl), .ref m4, .int (nI ik), .ref m5, .ref m6, .int (nI tl), .int (nI sp), .int (nI rd), .ref m7, .ref m8, .ref m9])), (m1, .inl (cA, 286, .inl (nF M))), (m2, .inl (cA, 286, .inl (nF K2_38))), (m3, .inl (cA, 1144, .inl (nF yh)))] := hD
        have hw_38 : ∀ j, j < 286 → K2_38 j = M j := hw
        refine lv_iconst (v := nI 2) hx hb dX7_setHands_41 (by decide) ?_
        refine lv_iconst (v := nI 2) hx hb dX7_setHands_42 (by decide) ?_
        refine lv_iload_n hx hb dX7_setHands_43 rfl (lv_at hl 1 rfl) ?_
        refine nv_imul hx hb dX7_setHands_44 ?_
        refine nv_iadd hx hb dX7_setHands_45 ?_
        refine lv_istore (lv' := [(4, .int (nI (2 + (2 * k)))), (0, .ref m0), (1, .int (nI k)), (2, .int (nI u_)), (3, .int (nI v_))]) hx hb dX7_setHands_46 hl (by decide) rfl (fun ls hl => ?_)
        refine lv_aload_n hx hb dX7_setHands_48 rfl (lv_at hl 1 rfl) ?_
        refine va_get (D := D) (cl := vwCl) (ci := 7) (v := .ref m1) (C := RX7) (T := TX7) (N := 14) hx hb hts inf_X7_setHands_X7 hown hK.1 hP 0 rfl rfl 0 (by decide) (hts _ (List.mem_of_getElem? (i := 2) rfl)) (fun _ h9 => h9) rfl dX7_setHands_49 ?_
        refine lv_iload hx hb dX7_setHands_52 (lv_at hl 0 rfl) ?_
        refine nv_iald (a := M) hx hb hK hP 1 rfl (by omega) (by decide) dX7_setHands_54 ?_
        refine tope (y := nI (a (2 + k))) (congrArg nI (hM.a (by omega))) ?_
        refine lv_iload_n hx hb dX7_setHands_55 rfl (lv_at hl 3 rfl) ?_
        refine nv_icmp_ne (tgt := 76) hx hb dX7_setHands_56 (by decide) (by omega) (by omega) (fun c_56 => ?_) (fun c_56 => ?_)
        · refine lv_iconst (v := nI 0) hx hb dX7_setHands_76 (by decide) ?_
          refine lv_istore (lv' := [(5, .int (nI 0)), (4, .int (nI (2 + (2 * k)))), (0, .ref m0), (1, .int (nI k)), (2, .int (nI u_)), (3, .int (nI v_))]) hx hb dX7_setHands_77 hl (by decide) rfl (fun ls hl => ?_)
          refine lv_bipush (v := nI 10) hx hb dX7_setHands_79 (by decide) ?_
          refine lv_aload_n hx hb dX7_setHands_81 rfl (lv_at hl 2 rfl) ?_
          refine va_get (D := D) (cl := vwCl) (ci := 7) (v := .ref m1) (C := RX7) (T := TX7) (N := 14) hx hb hts inf_X7_setHands_X7 hown hK.1 hP 0 rfl rfl 0 (by decide) (hts _ (List.mem_of_getElem? (i := 2) rfl)) (fun _ h9 => h9) rfl dX7_setHands_82 ?_
          refine lv_iload hx hb dX7_setHands_85 (lv_at hl 1 rfl) ?_
          refine nv_iald (a := M) hx hb hK hP 1 rfl (by omega) (by decide) dX7_setHands_87 ?_
          refine tope (y := nI (a (2 + k))) (congrArg nI (hM.a (by omega))) ?_
          refine nv_imul hx hb dX7_setHands_88 ?_
          refine lv_aload_n hx hb dX7_setHands_89 rfl (lv_at hl 2 rfl) ?_
          refine va_get (D := D) (cl := vwCl) (ci := 7) (v := .ref m1) (C := RX7) (T := TX7) (N := 14) hx hb hts inf_X7_setHands_X7 hown hK.1 hP 0 rfl rfl 0 (by decide) (hts _ (List.mem_of_getElem? (i := 2) rfl)) (fun _ h9 => h9) rfl dX7_setHands_90 ?_
          refine lv_iload hx hb dX7_setHands_93 (lv_at hl 1 rfl) ?_
          refine lv_iconst (v := nI 1) hx hb dX7_setHands_95 (by decide) ?_
          refine nv_iadd hx hb dX7_setHands_96 ?_
          refine nv_iald (a := M) hx hb hK hP 1 rfl (by omega) (by decide) dX7_setHands_97 ?_
          refine tope (y := nI (a (12 + k))) (congrArg nI (hM.b (by omega))) ?_
          refine nv_iadd hx hb dX7_setHands_98 ?_
          refine lv_istore (lv' := [(6, .int (nI ((10 * (a (2 + k))) + (a (12 + k))))), (5, .int (nI 0)), (4, .int (nI (2 + (2 * k)))), (0, .ref m0), (1, .int (nI k)), (2, .int (nI u_)), (3, .int (nI v_))]) hx hb dX7_setHands_99 hl (by decide) rfl (fun ls hl => ?_)
          refine lv_aload_n hx hb dX7_setHands_101 rfl (lv_at hl 3 rfl) ?_
          refine va_get (D := D) (cl := vwCl) (ci := 7) (v := .ref m1) (C := RX7) (T := TX7) (N := 14) hx hb hts inf_X7_setHands_X7 hown hK.1 hP 0 rfl rfl 0 (by decide) (hts _ (List.mem_of_getElem? (i := 2) rfl)) (fun _ h9 => h9) rfl dX7_setHands_102 ?_
          refine lv_iload hx hb dX7_setHands_105 (lv_at hl 2 rfl) ?_
          refine lv_iload_n hx hb dX7_setHands_107 rfl (lv_at hl 5 rfl) ?_
          refine nv_iast (a := M) (v := u_) hx hb hK hP hD hS 1 rfl (by omega) (by decide) dX7_setHands_108 (fun H locs hP hD hS => ?_)
          have hP : va_P D vwCl [(m0, .inr (7, [.ref m1, .ref m2, .ref m3, .int (nI yl), .ref m4, .int (nI ik), .ref m5, .ref m6, .int (nI tl), .int (nI sp), .int (nI rd), .ref m7, .ref m8, .ref m9])), (m1, .inl (cA, 286, .inl (nF (updN M (2 + (2 * k)) u_)))), (m2, .inl (cA, 286, .inl (nF K2_38))), (m3, .inl (cA, 1144, .inl (nF yh)))] H := hP
          have hD : va_D A [(m0, .inr (7, [.ref m1, .ref m2, .ref m3, .int (nI yl), .ref m4, .int (nI ik), .ref m5, .ref m6, .int (nI tl), .int (nI sp), .int (nI rd), .ref m7, .ref m8, .ref m9])), (m1, .inl (cA, 286, .inl (nF (updN M (2 + (2 * k)) u_)))), (m2, .inl (cA, 286, .inl (nF K2_38))), (m3, .inl (cA, 1144, .inl (nF yh)))] := hD
          refine lv_aload_n hx hb dX7_setHands_109 rfl (lv_at hl 3 rfl) ?_
          refine va_get (D := D) (cl := vwCl) (ci := 7) (v := .ref m1) (C := RX7) (T := TX7) (N := 14) hx hb hts inf_X7_setHands_X7 hown hK.1 hP 0 rfl rfl 0 (by decide) (hts _ (List.mem_of_getElem? (i := 2) rfl)) (fun _ h9 => h9) rfl dX7_setHands_110 ?_
          refine lv_iload hx hb dX7_setHands_113 (lv_at hl 2 rfl) ?_
          refine lv_iconst (v := nI 1) hx hb dX7_setHands_115 (by decide) ?_
          refine nv_iadd hx hb dX7_setHands_116 ?_
          refine lv_iload_n hx hb dX7_setHands_117 rfl (lv_at hl 6 rfl) ?_
          refine nv_iast (a := (updN M (2 + (2 * k)) u_)) (v := v_) hx hb hK hP hD hS 1 rfl (by omega) (by decide) dX7_setHands_118 (fun H locs hP hD hS => ?_)
          have hP : va_P D vwCl [(m0, .inr (7, [.ref m1, .ref m2, .ref m3, .int (nI yl), .ref m4, .int (nI ik), .ref m5, .ref m6, .int (nI tl), .int (nI sp), .int (nI rd), .ref m7, .ref m8, .ref m9])), (m1, .inl (cA, 286, .inl (nF (updN (updN M (2 + (2 * k)) u_) ((2 + (2 * k)) + 1) v_)))), (m2, .inl (cA, 286, .inl (nF K2_38))), (m3, .inl (cA, 1144, .inl (nF yh)))] H := hP
          have hD : va_D A [(m0, .inr (7, [.ref m1, .ref m2, .ref m3, .int (nI yl), .ref m4, .int (nI ik), .ref m5, .ref m6, .int (nI tl), .int (nI sp), .int (nI rd), .ref m7, .ref m8, .ref m9])), (m1, .inl (cA, 286, .inl (nF (updN (updN M (2 + (2 * k)) u_) ((2 + (2 * k)) + 1) v_)))), (m2, .inl (cA, 286, .inl (nF K2_38))), (m3, .inl (cA, 1144, .inl (nF yh)))] := hD
          refine lv_aload_n hx hb dX7_setHands_119 rfl (lv_at hl 3 rfl) ?_
          refine lv_aload_n hx hb dX7_setHands_120 rfl (lv_at hl 3 rfl) ?_
          refine call_r (q := (RX7, TX7, 14)) (As := []) (rest := [.ref m0]) F (c_X7_anyClash l D cA m0 m1 ([.ref m2, .ref m3, .int (nI yl), .ref m4, .int (nI ik), .ref m5, .ref m6, .int (nI tl), .int (nI sp), .int (nI rd), .ref m7, .ref m8, .ref m9]) (updN (updN a (2 + k) u_) (12 + k) v_) (updN (updN M (2 + (2 * k)) u_) ((2 + (2 * k)) + 1) v_) (Vd_hands hV (by omega) hu hv) (Rl_hands hM hV.1 (by omega))) (cwV 0 hts gX7_setHands_X7_anyClash rfl rfl rfl ydv_X7_anyClash ⟨Nat.le_of_ble_eq_true rfl, Nat.le_of_ble_eq_true rfl⟩) hK hR hP hD hA hS [0, 1] rfl rfl 0 7 rfl rfl rfl hl.1 rfl (Nat.le_of_ble_eq_true rfl) dX7_setHands_121 ⟨Nat.zero_le _, Nat.zero_le _⟩ (fun H locs hP hS => ?_)
          refine bv_if_eq (tgt := 132) hx hb dX7_setHands_124 (by decide) (fun c_124 => ?_) (fun c_124 => ?_)
          · refine lv_iload hx hb dX7_setHands_132 (lv_at hl 1 rfl) ?_
            refine nv_if_eq (tgt := 142) hx hb dX7_setHands_134 (by decide) (by decide) (fun c_134 => ?_) (fun c_134 => absurd c_134 (by decide))
            refine lv_iload hx hb dX7_setHands_142 (lv_at hl 0 rfl) ?_
            refine call_i (q := (RX7, TX7, 14)) (As := [.int (nI ((10 * (a (2 + k))) + (a (12 + k))))]) (rest := []) F (c_X7_ends l D cA m0 m1 m2 m3 m4 m5 m6 m7 m8 m9 yl ik tl sp rd (updN (updN M (2 + (2 * k)) u_) ((2 + (2 * k)) + 1) v_) K2_38 yh (nI ((10 * (a (2 + k))) + (a (12 + k)))) (by omega)) (cwV 1 hts gX7_setHands_X7_ends rfl rfl rfl ydv_X7_ends ⟨Nat.le_of_ble_eq_true rfl, Nat.le_of_ble_eq_true rfl⟩) hK hR hP hD hA hS [2, 0, 1, 3] [0, 1, 3] rfl rfl rfl 0 7 rfl rfl (fun _ => rfl) rfl hl.1 rfl (Nat.le_of_ble_eq_true rfl) dX7_setHands_144 ⟨Nat.zero_le _, Nat.zero_le _⟩ (fun r_144 u_144 H locs hw hP hD hS => ?_)
            obtain ⟨y2_144, M2_144, yh2_144⟩ := u_144
            have hP : va_P D vwCl [(m0, .inr (7, [.ref m1, .ref m2, .ref m3, .int (nI y2_144), .ref m4, .int (nI ik), .ref m5, .ref m6, .int (nI tl), .int (nI sp), .int (nI rd), .ref m7, .ref m8, .ref m9])), (m1, .inl (cA, 286, .inl (nF M2_144))), (m2, .inl (cA, 286, .inl (nF K2_38))), (m3, .inl (cA, 1144, .inl (nF yh2_144)))] H := hP
            have hD : va_D A [(m0, .inr (7, [.ref m1, .ref m2, .ref m3, .int (nI y2_144), .ref m4, .int (nI ik), .ref m5, .ref m6, .int (nI tl), .int (nI sp), .int (nI rd), .ref m7, .ref m8, .ref m9])), (m1, .inl (cA, 286, .inl (nF M2_144))), (m2, .inl (cA, 286, .inl (nF K2_38))), (m3, .inl (cA, 1144, .inl (nF yh2_144)))] := hD
            obtain ⟨hr_144, hw_144⟩ : r_144 = nI ((10 * (a (2 + k))) + (a (12 + k))) ∧ ((0 ≤ (nI ((10 * (a (2 + k))) + (a (12 + k)))) → M2_144 = (updN (updN M (2 + (2 * k)) u_) ((2 + (2 * k)) + 1) v_) ∧ y2_144 = hisT yl + 1 ∧ RecM yh K2_38 yl yh2_144) ∧ (¬ 0 ≤ (nI ((10 * (a (2 + k))) + (a (12 + k)))) → (∀ j, j < 286 → M2_144 j = K2_38 j) ∧ y2_144 = yl ∧ yh2_144 = yh)) := hw
            subst hr_144
            have hE : aHands a (nI k) (nI u_) (nI v_) = (nI ((10 * (a (2 + k))) + (a (12 + k))), some (updN (updN a (2 + k) u_) (12 + k) v_)) := by first | (simp only [aHands, hcx, hcu, hcv]; simp [c_5, c_19, c_31, c_56, c_124, c_134, c_56.symm]; done) | (simp only [aHands, hcx, hcu, hcv]; simp [c_5, c_19, c_31, c_56, c_124, c_134, c_56.symm]; omega)
            refine tope (y := (aHands a (nI k) (nI u_) (nI v_)).1) (by rw [hE]) ?_
            exact RET _ _ _ _ _ (y2_144, M2_144, K2_38, yh2_144) dX7_setHands_147 rfl ⟨rfl, (by rw [hE]; exact ends_yes (Rl_hands hM hV.1 (by omega)) hw_38 (hw_144.1 (nI_pos' (by omega))))⟩ hP hS
          · refine lv_bipush (v := -4) hx hb dX7_setHands_127 (by decide) ?_
            refine lv_goto (tgt := 144) hx hb dX7_setHands_129 (by decide) ?_
            refine call_i (q := (RX7, TX7, 14)) (As := [.int ((-4))]) (rest := []) F (c_X7_ends l D cA m0 m1 m2 m3 m4 m5 m6 m7 m8 m9 yl ik tl sp rd (updN (updN M (2 + (2 * k)) u_) ((2 + (2 * k)) + 1) v_) K2_38 yh ((-4)) (by omega)) (cwV 1 hts gX7_setHands_X7_ends rfl rfl rfl ydv_X7_ends ⟨Nat.le_of_ble_eq_true rfl, Nat.le_of_ble_eq_true rfl⟩) hK hR hP hD hA hS [2, 0, 1, 3] [0, 1, 3] rfl rfl rfl 0 7 rfl rfl (fun _ => rfl) rfl hl.1 rfl (Nat.le_of_ble_eq_true rfl) dX7_setHands_144 ⟨Nat.zero_le _, Nat.zero_le _⟩ (fun r_144 u_144 H locs hw hP hD hS => ?_)
            obtain ⟨y2_144, M2_144, yh2_144⟩ := u_144
            have hP : va_P D vwCl [(m0, .inr (7, [.ref m1, .ref m2, .ref m3, .int (nI y2_144), .ref m4, .int (nI ik), .ref m5, .ref m6, .int (nI tl), .int (nI sp), .int (nI rd), .ref m7, .ref m8, .ref m9])), (m1, .inl (cA, 286, .inl (nF M2_144))), (m2, .inl (cA, 286, .inl (nF K2_38))), (m3, .inl (cA, 1144, .inl (nF yh2_144)))] H := hP
            have hD : va_D A [(m0, .inr (7, [.ref m1, .ref m2, .ref m3, .int (nI y2_144), .ref m4, .int (nI ik), .ref m5, .ref m6, .int (nI tl), .int (nI sp), .int (nI rd), .ref m7, .ref m8, .ref m9])), (m1, .inl (cA, 286, .inl (nF M2_144))), (m2, .inl (cA, 286, .inl (nF K2_38))), (m3, .inl (cA, 1144, .inl (nF yh2_144)))] := hD
            obtain ⟨hr_144, hw_144⟩ : r_144 = -4 ∧ ((0 ≤ ((-4)) → M2_144 = (updN (updN M (2 + (2 * k)) u_) ((2 + (2 * k)) + 1) v_) ∧ y2_144 = hisT yl + 1 ∧ RecM yh K2_38 yl yh2_144) ∧ (¬ 0 ≤ ((-4)) → (∀ j, j < 286 → M2_144 j = K2_38 j) ∧ y2_144 = yl ∧ yh2_144 = yh)) := hw
            subst hr_144
            have hE : aHands a (nI k) (nI u_) (nI v_) = (-4, none) := by first | (simp only [aHands, hcx, hcu, hcv]; simp [c_5, c_19, c_31, c_56, c_124, c_56.symm]; done) | (simp only [aHands, hcx, hcu, hcv]; simp [c_5, c_19, c_31, c_56, c_124, c_56.symm]; omega)
            refine tope (y := (aHands a (nI k) (nI u_) (nI v_)).1) (by rw [hE]) ?_
            exact RET _ _ _ _ _ (y2_144, M2_144, K2_38, yh2_144) dX7_setHands_147 rfl ⟨rfl, (by rw [hE]; exact ends_no hV hM hw_38 (hw_144.2 (by decide)))⟩ hP hS
        · refine lv_aload_n hx hb dX7_setHands_59 rfl (lv_at hl 1 rfl) ?_
          refine va_get (D := D) (cl := vwCl) (ci := 7) (v := .ref m1) (C := RX7) (T := TX7) (N := 14) hx hb hts inf_X7_setHands_X7 hown hK.1 hP 0 rfl rfl 0 (by decide) (hts _ (List.mem_of_getElem? (i := 2) rfl)) (fun _ h9 => h9) rfl dX7_setHands_60 ?_
          refine lv_iload hx hb dX7_setHands_63 (lv_at hl 0 rfl) ?_
          refine lv_iconst (v := nI 1) hx hb dX7_setHands_65 (by decide) ?_
          refine nv_iadd hx hb dX7_setHands_66 ?_
          refine nv_iald (a := M) hx hb hK hP 1 rfl (by omega) (by decide) dX7_setHands_67 ?_
          refine tope (y := nI (a (12 + k))) (congrArg nI (hM.b (by omega))) ?_
          refine lv_iload_n hx hb dX7_setHands_68 rfl (lv_at hl 4 rfl) ?_
          refine nv_icmp_ne (tgt := 76) hx hb dX7_setHands_69 (by decide) (by omega) (by omega) (fun c_69 => ?_) (fun c_69 => ?_)
          · refine lv_iconst (v := nI 0) hx hb dX7_setHands_76 (by decide) ?_
            refine lv_istore (lv' := [(5, .int (nI 0)), (4, .int (nI (2 + (2 * k)))), (0, .ref m0), (1, .int (nI k)), (2, .int (nI u_)), (3, .int (nI v_))]) hx hb dX7_setHands_77 hl (by decide) rfl (fun ls hl => ?_)
            refine lv_bipush (v := nI 10) hx hb dX7_setHands_79 (by decide) ?_
            refine lv_aload_n hx hb dX7_setHands_81 rfl (lv_at hl 2 rfl) ?_
            refine va_get (D := D) (cl := vwCl) (ci := 7) (v := .ref m1) (C := RX7) (T := TX7) (N := 14) hx hb hts inf_X7_setHands_X7 hown hK.1 hP 0 rfl rfl 0 (by decide) (hts _ (List.mem_of_getElem? (i := 2) rfl)) (fun _ h9 => h9) rfl dX7_setHands_82 ?_
            refine lv_iload hx hb dX7_setHands_85 (lv_at hl 1 rfl) ?_
            refine nv_iald (a := M) hx hb hK hP 1 rfl (by omega) (by decide) dX7_setHands_87 ?_
            refine tope (y := nI (a (2 + k))) (congrArg nI (hM.a (by omega))) ?_
            refine nv_imul hx hb dX7_setHands_88 ?_
            refine lv_aload_n hx hb dX7_setHands_89 rfl (lv_at hl 2 rfl) ?_
            refine va_get (D := D) (cl := vwCl) (ci := 7) (v := .ref m1) (C := RX7) (T := TX7) (N := 14) hx hb hts inf_X7_setHands_X7 hown hK.1 hP 0 rfl rfl 0 (by decide) (hts _ (List.mem_of_getElem? (i := 2) rfl)) (fun _ h9 => h9) rfl dX7_setHands_90 ?_
            refine lv_iload hx hb dX7_setHands_93 (lv_at hl 1 rfl) ?_
            refine lv_iconst (v := nI 1) hx hb dX7_setHands_95 (by decide) ?_
            refine nv_iadd hx hb dX7_setHands_96 ?_
            refine nv_iald (a := M) hx hb hK hP 1 rfl (by omega) (by decide) dX7_setHands_97 ?_
            refine tope (y := nI (a (12 + k))) (congrArg nI (hM.b (by omega))) ?_
            refine nv_iadd hx hb dX7_setHands_98 ?_
            refine lv_istore (lv' := [(6, .int (nI ((10 * (a (2 + k))) + (a (12 + k))))), (5, .int (nI 0)), (4, .int (nI (2 + (2 * k)))), (0, .ref m0), (1, .int (nI k)), (2, .int (nI u_)), (3, .int (nI v_))]) hx hb dX7_setHands_99 hl (by decide) rfl (fun ls hl => ?_)
            refine lv_aload_n hx hb dX7_setHands_101 rfl (lv_at hl 3 rfl) ?_
            refine va_get (D := D) (cl := vwCl) (ci := 7) (v := .ref m1) (C := RX7) (T := TX7) (N := 14) hx hb hts inf_X7_setHands_X7 hown hK.1 hP 0 rfl rfl 0 (by decide) (hts _ (List.mem_of_getElem? (i := 2) rfl)) (fun _ h9 => h9) rfl dX7_setHands_102 ?_
            refine lv_iload hx hb dX7_setHands_105 (lv_at hl 2 rfl) ?_
            refine lv_iload_n hx hb dX7_setHands_107 rfl (lv_at hl 5 rfl) ?_
            refine nv_iast (a := M) (v := u_) hx hb hK hP hD hS 1 rfl (by omega) (by decide) dX7_setHands_108 (fun H locs hP hD hS => ?_)
            have hP : va_P D vwCl [(m0, .inr (7, [.ref m1, .ref m2, .ref m3, .int (nI yl), .ref m4, .int (nI ik), .ref m5, .ref m6, .int (nI tl), .int (nI sp), .int (nI rd), .ref m7, .ref m8, .ref m9])), (m1, .inl (cA, 286, .inl (nF (updN M (2 + (2 * k)) u_)))), (m2, .inl (cA, 286, .inl (nF K2_38))), (m3, .inl (cA, 1144, .inl (nF yh)))] H := hP
            have hD : va_D A [(m0, .inr (7, [.ref m1, .ref m2, .ref m3, .int (nI yl), .ref m4, .int (nI ik), .ref m5, .ref m6, .int (nI tl), .int (nI sp), .int (nI rd), .ref m7, .ref m8, .ref m9])), (m1, .inl (cA, 286, .inl (nF (updN M (2 + (2 * k)) u_)))), (m2, .inl (cA, 286, .inl (nF K2_38))), (m3, .inl (cA, 1144, .inl (nF yh)))] := hD
            refine lv_aload_n hx hb dX7_setHands_109 rfl (lv_at hl 3 rfl) ?_
            refine va_get (D := D) (cl := vwCl) (ci := 7) (v := .ref m1) (C := RX7) (T := TX7) (N := 14) hx hb hts inf_X7_setHands_X7 hown hK.1 hP 0 rfl rfl 0 (by decide) (hts _ (List.mem_of_getElem? (i := 2) rfl)) (fun _ h9 => h9) rfl dX7_setHands_110 ?_
            refine lv_iload hx hb dX7_setHands_113 (lv_at hl 2 rfl) ?_
            refine lv_iconst (v := nI 1) hx hb dX7_setHands_115 (by decide) ?_
            refine nv_iadd hx hb dX7_setHands_116 ?_
            refine lv_iload_n hx hb dX7_setHands_117 rfl (lv_at hl 6 rfl) ?_
            refine nv_iast (a := (updN M (2 + (2 * k)) u_)) (v := v_) hx hb hK hP hD hS 1 rfl (by omega) (by decide) dX7_setHands_118 (fun H locs hP hD hS => ?_)
            have hP : va_P D vwCl [(m0, .inr (7, [.ref m1, .ref m2, .ref m3, .int (nI yl), .ref m4, .int (nI ik), .ref m5, .ref m6, .int (nI tl), .int (nI sp), .int (nI rd), .ref m7, .ref m8, .ref m9])), (m1, .inl (cA, 286, .inl (nF (updN (updN M (2 + (2 * k)) u_) ((2 + (2 * k)) + 1) v_)))), (m2, .inl (cA, 286, .inl (nF K2_38))), (m3, .inl (cA, 1144, .inl (nF yh)))] H := hP
            have hD : va_D A [(m0, .inr (7, [.ref m1, .ref m2, .ref m3, .int (nI yl), .ref m4, .int (nI ik), .ref m5, .ref m6, .int (nI tl), .int (nI sp), .int (nI rd), .ref m7, .ref m8, .ref m9])), (m1, .inl (cA, 286, .inl (nF (updN (updN M (2 + (2 * k)) u_) ((2 + (2 * k)) + 1) v_)))), (m2, .inl (cA, 286, .inl (nF K2_38))), (m3, .inl (cA, 1144, .inl (nF yh)))] := hD
            refine lv_aload_n hx hb dX7_setHands_119 rfl (lv_at hl 3 rfl) ?_
            refine lv_aload_n hx hb dX7_setHands_120 rfl (lv_at hl 3 rfl) ?_
            refine call_r (q := (RX7, TX7, 14)) (As := []) (rest := [.ref m0]) F (c_X7_anyClash l D cA m0 m1 ([.ref m2, .ref m3, .int (nI yl), .ref m4, .int (nI ik), .ref m5, .ref m6, .int (nI tl), .int (nI sp), .int (nI rd), .ref m7, .ref m8, .ref m9]) (updN (updN a (2 + k) u_) (12 + k) v_) (updN (updN M (2 + (2 * k)) u_) ((2 + (2 * k)) + 1) v_) (Vd_hands hV (by omega) hu hv) (Rl_hands hM hV.1 (by omega))) (cwV 0 hts gX7_setHands_X7_anyClash rfl rfl rfl ydv_X7_anyClash ⟨Nat.le_of_ble_eq_true rfl, Nat.le_of_ble_eq_true rfl⟩) hK hR hP hD hA hS [0, 1] rfl rfl 0 7 rfl rfl rfl hl.1 rfl (Nat.le_of_ble_eq_true rfl) dX7_setHands_121 ⟨Nat.zero_le _, Nat.zero_le _⟩ (fun H locs hP hS => ?_)
            refine bv_if_eq (tgt := 132) hx hb dX7_setHands_124 (by decide) (fun c_124 => ?_) (fun c_124 => ?_)
            · refine lv_iload hx hb dX7_setHands_132 (lv_at hl 1 rfl) ?_
              refine nv_if_eq (tgt := 142) hx hb dX7_setHands_134 (by decide) (by decide) (fun c_134 => ?_) (fun c_134 => absurd c_134 (by decide))
              refine lv_iload hx hb dX7_setHands_142 (lv_at hl 0 rfl) ?_
              refine call_i (q := (RX7, TX7, 14)) (As := [.int (nI ((10 * (a (2 + k))) + (a (12 + k))))]) (rest := []) F (c_X7_ends l D cA m0 m1 m2 m3 m4 m5 m6 m7 m8 m9 yl ik tl sp rd (updN (updN M (2 + (2 * k)) u_) ((2 + (2 * k)) + 1) v_) K2_38 yh (nI ((10 * (a (2 + k))) + (a (12 + k)))) (by omega)) (cwV 1 hts gX7_setHands_X7_ends rfl rfl rfl ydv_X7_ends ⟨Nat.le_of_ble_eq_true rfl, Nat.le_of_ble_eq_true rfl⟩) hK hR hP hD hA hS [2, 0, 1, 3] [0, 1, 3] rfl rfl rfl 0 7 rfl rfl (fun _ => rfl) rfl hl.1 rfl (Nat.le_of_ble_eq_true rfl) dX7_setHands_144 ⟨Nat.zero_le _, Nat.zero_le _⟩ (fun r_144 u_144 H locs hw hP hD hS => ?_)
              obtain ⟨y2_144, M2_144, yh2_144⟩ := u_144
              have hP : va_P D vwCl [(m0, .inr (7, [.ref m1, .ref m2, .ref m3, .int (nI y2_144), .ref m4, .int (nI ik), .ref m5, .ref m6, .int (nI tl), .int (nI sp), .int (nI rd), .ref m7, .ref m8, .ref m9])), (m1, .inl (cA, 286, .inl (nF M2_144))), (m2, .inl (cA, 286, .inl (nF K2_38))), (m3, .inl (cA, 1144, .inl (nF yh2_144)))] H := hP
              have hD : va_D A [(m0, .inr (7, [.ref m1, .ref m2, .ref m3, .int (nI y2_144), .ref m4, .int (nI ik), .ref m5, .ref m6, .int (nI tl), .int (nI sp), .int (nI rd), .ref m7, .ref m8, .ref m9])), (m1, .inl (cA, 286, .inl (nF M2_144))), (m2, .inl (cA, 286, .inl (nF K2_38))), (m3, .inl (cA, 1144, .inl (nF yh2_144)))] := hD
              obtain ⟨hr_144, hw_144⟩ : r_144 = nI ((10 * (a (2 + k))) + (a (12 + k))) ∧ ((0 ≤ (nI ((10 * (a (2 + k))) + (a (12 + k)))) → M2_144 = (updN (updN M (2 + (2 * k)) u_) ((2 + (2 * k)) + 1) v_) ∧ y2_144 = hisT yl + 1 ∧ RecM yh K2_38 yl yh2_144) ∧ (¬ 0 ≤ (nI ((10 * (a (2 + k))) + (a (12 + k)))) → (∀ j, j < 286 → M2_144 j = K2_38 j) ∧ y2_144 = yl ∧ yh2_144 = yh)) := hw
              subst hr_144
              have hE : aHands a (nI k) (nI u_) (nI v_) = (nI ((10 * (a (2 + k))) + (a (12 + k))), some (updN (updN a (2 + k) u_) (12 + k) v_)) := by first | (simp only [aHands, hcx, hcu, hcv]; simp [c_5, c_19, c_31, eq_true c_56, c_69, c_124, c_134, eq_true c_56.symm, c_69.symm]; done) | (simp only [aHands, hcx, hcu, hcv]; simp [c_5, c_19, c_31, eq_true c_56, c_69, c_124, c_134, eq_true c_56.symm, c_69.symm]; omega)
              refine tope (y := (aHands a (nI k) (nI u_) (nI v_)).1) (by rw [hE]) ?_
              exact RET _ _ _ _ _ (y2_144, M2_144, K2_38, yh2_144) dX7_setHands_147 rfl ⟨rfl, (by rw [hE]; exact ends_yes (Rl_hands hM hV.1 (by omega)) hw_38 (hw_144.1 (nI_pos' (by omega))))⟩ hP hS
            · refine lv_bipush (v := -4) hx hb dX7_setHands_127 (by decide) ?_
              refine lv_goto (tgt := 144) hx hb dX7_setHands_129 (by decide) ?_
              refine call_i (q := (RX7, TX7, 14)) (As := [.int ((-4))]) (rest := []) F (c_X7_ends l D cA m0 m1 m2 m3 m4 m5 m6 m7 m8 m9 yl ik tl sp rd (updN (updN M (2 + (2 * k)) u_) ((2 + (2 * k)) + 1) v_) K2_38 yh ((-4)) (by omega)) (cwV 1 hts gX7_setHands_X7_ends rfl rfl rfl ydv_X7_ends ⟨Nat.le_of_ble_eq_true rfl, Nat.le_of_ble_eq_true rfl⟩) hK hR hP hD hA hS [2, 0, 1, 3] [0, 1, 3] rfl rfl rfl 0 7 rfl rfl (fun _ => rfl) rfl hl.1 rfl (Nat.le_of_ble_eq_true rfl) dX7_setHands_144 ⟨Nat.zero_le _, Nat.zero_le _⟩ (fun r_144 u_144 H locs hw hP hD hS => ?_)
              obtain ⟨y2_144, M2_144, yh2_144⟩ := u_144
              have hP : va_P D vwCl [(m0, .inr (7, [.ref m1, .ref m2, .ref m3, .int (nI y2_144), .ref m4, .int (nI ik), .ref m5, .ref m6, .int (nI tl), .int (nI sp), .int (nI rd), .ref m7, .ref m8, .ref m9])), (m1, .inl (cA, 286, .inl (nF M2_144))), (m2, .inl (cA, 286, .inl (nF K2_38))), (m3, .inl (cA, 1144, .inl (nF yh2_144)))] H := hP
              have hD : va_D A [(m0, .inr (7, [.ref m1, .ref m2, .ref m3, .int (nI y2_144), .ref m4, .int (nI ik), .ref m5, .ref m6, .int (nI tl), .int (nI sp), .int (nI rd), .ref m7, .ref m8, .ref m9])), (m1, .inl (cA, 286, .inl (nF M2_144))), (m2, .inl (cA, 286, .inl (nF K2_38))), (m3, .inl (cA, 1144, .inl (nF yh2_144)))] := hD
              obtain ⟨hr_144, hw_144⟩ : r_144 = -4 ∧ ((0 ≤ ((-4)) → M2_144 = (updN (updN M (2 + (2 * k)) u_) ((2 + (2 * k)) + 1) v_) ∧ y2_144 = hisT yl + 1 ∧ RecM yh K2_38 yl yh2_144) ∧ (¬ 0 ≤ ((-4)) → (∀ j, j < 286 → M2_144 j = K2_38 j) ∧ y2_144 = yl ∧ yh2_144 = yh)) := hw
              subst hr_144
              have hE : aHands a (nI k) (nI u_) (nI v_) = (-4, none) := by first | (simp only [aHands, hcx, hcu, hcv]; simp [c_5, c_19, c_31, eq_true c_56, c_69, c_124, eq_true c_56.symm, c_69.symm]; done) | (simp only [aHands, hcx, hcu, hcv]; simp [c_5, c_19, c_31, eq_true c_56, c_69, c_124, eq_true c_56.symm, c_69.symm]; omega)
              refine tope (y := (aHands a (nI k) (nI u_) (nI v_)).1) (by rw [hE]) ?_
              exact RET _ _ _ _ _ (y2_144, M2_144, K2_38, yh2_144) dX7_setHands_147 rfl ⟨rfl, (by rw [hE]; exact ends_no hV hM hw_38 (hw_144.2 (by decide)))⟩ hP hS
          · refine lv_iconst (v := nI 1) hx hb dX7_setHands_72 (by decide) ?_
            refine lv_goto (tgt := 77) hx hb dX7_setHands_73 (by decide) ?_
            refine lv_istore (lv' := [(5, .int (nI 1)), (4, .int (nI (2 + (2 * k)))), (0, .ref m0), (1, .int (nI k)), (2, .int (nI u_)), (3, .int (nI v_))]) hx hb dX7_setHands_77 hl (by decide) rfl (fun ls hl => ?_)
            refine lv_bipush (v := nI 10) hx hb dX7_setHands_79 (by decide) ?_
            refine lv_aload_n hx hb dX7_setHands_81 rfl (lv_at hl 2 rfl) ?_
            refine va_get (D := D) (cl := vwCl) (ci := 7) (v := .ref m1) (C := RX7) (T := TX7) (N := 14) hx hb hts inf_X7_setHands_X7 hown hK.1 hP 0 rfl rfl 0 (by decide) (hts _ (List.mem_of_getElem? (i := 2) rfl)) (fun _ h9 => h9) rfl dX7_setHands_82 ?_
            refine lv_iload hx hb dX7_setHands_85 (lv_at hl 1 rfl) ?_
            refine nv_iald (a := M) hx hb hK hP 1 rfl (by omega) (by decide) dX7_setHands_87 ?_
            refine tope (y := nI (a (2 + k))) (congrArg nI (hM.a (by omega))) ?_
            refine nv_imul hx hb dX7_setHands_88 ?_
            refine lv_aload_n hx hb dX7_setHands_89 rfl (lv_at hl 2 rfl) ?_
            refine va_get (D := D) (cl := vwCl) (ci := 7) (v := .ref m1) (C := RX7) (T := TX7) (N := 14) hx hb hts inf_X7_setHands_X7 hown hK.1 hP 0 rfl rfl 0 (by decide) (hts _ (List.mem_of_getElem? (i := 2) rfl)) (fun _ h9 => h9) rfl dX7_setHands_90 ?_
            refine lv_iload hx hb dX7_setHands_93 (lv_at hl 1 rfl) ?_
            refine lv_iconst (v := nI 1) hx hb dX7_setHands_95 (by decide) ?_
            refine nv_iadd hx hb dX7_setHands_96 ?_
            refine nv_iald (a := M) hx hb hK hP 1 rfl (by omega) (by decide) dX7_setHands_97 ?_
            refine tope (y := nI (a (12 + k))) (congrArg nI (hM.b (by omega))) ?_
            refine nv_iadd hx hb dX7_setHands_98 ?_
            refine lv_istore (lv' := [(6, .int (nI ((10 * (a (2 + k))) + (a (12 + k))))), (5, .int (nI 1)), (4, .int (nI (2 + (2 * k)))), (0, .ref m0), (1, .int (nI k)), (2, .int (nI u_)), (3, .int (nI v_))]) hx hb dX7_setHands_99 hl (by decide) rfl (fun ls hl => ?_)
            refine lv_aload_n hx hb dX7_setHands_101 rfl (lv_at hl 3 rfl) ?_
            refine va_get (D := D) (cl := vwCl) (ci := 7) (v := .ref m1) (C := RX7) (T := TX7) (N := 14) hx hb hts inf_X7_setHands_X7 hown hK.1 hP 0 rfl rfl 0 (by decide) (hts _ (List.mem_of_getElem? (i := 2) rfl)) (fun _ h9 => h9) rfl dX7_setHands_102 ?_
            refine lv_iload hx hb dX7_setHands_105 (lv_at hl 2 rfl) ?_
            refine lv_iload_n hx hb dX7_setHands_107 rfl (lv_at hl 5 rfl) ?_
            refine nv_iast (a := M) (v := u_) hx hb hK hP hD hS 1 rfl (by omega) (by decide) dX7_setHands_108 (fun H locs hP hD hS => ?_)
            have hP : va_P D vwCl [(m0, .inr (7, [.ref m1, .ref m2, .ref m3, .int (nI yl), .ref m4, .int (nI ik), .ref m5, .ref m6, .int (nI tl), .int (nI sp), .int (nI rd), .ref m7, .ref m8, .ref m9])), (m1, .inl (cA, 286, .inl (nF (updN M (2 + (2 * k)) u_)))), (m2, .inl (cA, 286, .inl (nF K2_38))), (m3, .inl (cA, 1144, .inl (nF yh)))] H := hP
            have hD : va_D A [(m0, .inr (7, [.ref m1, .ref m2, .ref m3, .int (nI yl), .ref m4, .int (nI ik), .ref m5, .ref m6, .int (nI tl), .int (nI sp), .int (nI rd), .ref m7, .ref m8, .ref m9])), (m1, .inl (cA, 286, .inl (nF (updN M (2 + (2 * k)) u_)))), (m2, .inl (cA, 286, .inl (nF K2_38))), (m3, .inl (cA, 1144, .inl (nF yh)))] := hD
            refine lv_aload_n hx hb dX7_setHands_109 rfl (lv_at hl 3 rfl) ?_
            refine va_get (D := D) (cl := vwCl) (ci := 7) (v := .ref m1) (C := RX7) (T := TX7) (N := 14) hx hb hts inf_X7_setHands_X7 hown hK.1 hP 0 rfl rfl 0 (by decide) (hts _ (List.mem_of_getElem? (i := 2) rfl)) (fun _ h9 => h9) rfl dX7_setHands_110 ?_
            refine lv_iload hx hb dX7_setHands_113 (lv_at hl 2 rfl) ?_
            refine lv_iconst (v := nI 1) hx hb dX7_setHands_115 (by decide) ?_
            refine nv_iadd hx hb dX7_setHands_116 ?_
            refine lv_iload_n hx hb dX7_setHands_117 rfl (lv_at hl 6 rfl) ?_
            refine nv_iast (a := (updN M (2 + (2 * k)) u_)) (v := v_) hx hb hK hP hD hS 1 rfl (by omega) (by decide) dX7_setHands_118 (fun H locs hP hD hS => ?_)
            have hP : va_P D vwCl [(m0, .inr (7, [.ref m1, .ref m2, .ref m3, .int (nI yl), .ref m4, .int (nI ik), .ref m5, .ref m6, .int (nI tl), .int (nI sp), .int (nI rd), .ref m7, .ref m8, .ref m9])), (m1, .inl (cA, 286, .inl (nF (updN (updN M (2 + (2 * k)) u_) ((2 + (2 * k)) + 1) v_)))), (m2, .inl (cA, 286, .inl (nF K2_38))), (m3, .inl (cA, 1144, .inl (nF yh)))] H := hP
            have hD : va_D A [(m0, .inr (7, [.ref m1, .ref m2, .ref m3, .int (nI yl), .ref m4, .int (nI ik), .ref m5, .ref m6, .int (nI tl), .int (nI sp), .int (nI rd), .ref m7, .ref m8, .ref m9])), (m1, .inl (cA, 286, .inl (nF (updN (updN M (2 + (2 * k)) u_) ((2 + (2 * k)) + 1) v_)))), (m2, .inl (cA, 286, .inl (nF K2_38))), (m3, .inl (cA, 1144, .inl (nF yh)))] := hD
            refine lv_aload_n hx hb dX7_setHands_119 rfl (lv_at hl 3 rfl) ?_
            refine lv_aload_n hx hb dX7_setHands_120 rfl (lv_at hl 3 rfl) ?_
            refine call_r (q := (RX7, TX7, 14)) (As := []) (rest := [.ref m0]) F (c_X7_anyClash l D cA m0 m1 ([.ref m2, .ref m3, .int (nI yl), .ref m4, .int (nI ik), .ref m5, .ref m6, .int (nI tl), .int (nI sp), .int (nI rd), .ref m7, .ref m8, .ref m9]) (updN (updN a (2 + k) u_) (12 + k) v_) (updN (updN M (2 + (2 * k)) u_) ((2 + (2 * k)) + 1) v_) (Vd_hands hV (by omega) hu hv) (Rl_hands hM hV.1 (by omega))) (cwV 0 hts gX7_setHands_X7_anyClash rfl rfl rfl ydv_X7_anyClash ⟨Nat.le_of_ble_eq_true rfl, Nat.le_of_ble_eq_true rfl⟩) hK hR hP hD hA hS [0, 1] rfl rfl 0 7 rfl rfl rfl hl.1 rfl (Nat.le_of_ble_eq_true rfl) dX7_setHands_121 ⟨Nat.zero_le _, Nat.zero_le _⟩ (fun H locs hP hS => ?_)
            refine bv_if_eq (tgt := 132) hx hb dX7_setHands_124 (by decide) (fun c_124 => ?_) (fun c_124 => ?_)
            · refine lv_iload hx hb dX7_setHands_132 (lv_at hl 1 rfl) ?_
              refine nv_if_eq (tgt := 142) hx hb dX7_setHands_134 (by decide) (by decide) (fun c_134 => absurd c_134 (by decide)) (fun c_134 => ?_)
              refine lv_bipush (v := -5) hx hb dX7_setHands_137 (by decide) ?_
              refine lv_goto (tgt := 144) hx hb dX7_setHands_139 (by decide) ?_
              refine call_i (q := (RX7, TX7, 14)) (As := [.int ((-5))]) (rest := []) F (c_X7_ends l D cA m0 m1 m2 m3 m4 m5 m6 m7 m8 m9 yl ik tl sp rd (updN (updN M (2 + (2 * k)) u_) ((2 + (2 * k)) + 1) v_) K2_38 yh ((-5)) (by omega)) (cwV 1 hts gX7_setHands_X7_ends rfl rfl rfl ydv_X7_ends ⟨Nat.le_of_ble_eq_true rfl, Nat.le_of_ble_eq_true rfl⟩) hK hR hP hD hA hS [2, 0, 1, 3] [0, 1, 3] rfl rfl rfl 0 7 rfl rfl (fun _ => rfl) rfl hl.1 rfl (Nat.le_of_ble_eq_true rfl) dX7_setHands_144 ⟨Nat.zero_le _, Nat.zero_le _⟩ (fun r_144 u_144 H locs hw hP hD hS => ?_)
              obtain ⟨y2_144, M2_144, yh2_144⟩ := u_144
              have hP : va_P D vwCl [(m0, .inr (7, [.ref m1, .ref m2, .ref m3, .int (nI y2_144), .ref m4, .int (nI ik), .ref m5, .ref m6, .int (nI tl), .int (nI sp), .int (nI rd), .ref m7, .ref m8, .ref m9])), (m1, .inl (cA, 286, .inl (nF M2_144))), (m2, .inl (cA, 286, .inl (nF K2_38))), (m3, .inl (cA, 1144, .inl (nF yh2_144)))] H := hP
              have hD : va_D A [(m0, .inr (7, [.ref m1, .ref m2, .ref m3, .int (nI y2_144), .ref m4, .int (nI ik), .ref m5, .ref m6, .int (nI tl), .int (nI sp), .int (nI rd), .ref m7, .ref m8, .ref m9])), (m1, .inl (cA, 286, .inl (nF M2_144))), (m2, .inl (cA, 286, .inl (nF K2_38))), (m3, .inl (cA, 1144, .inl (nF yh2_144)))] := hD
              obtain ⟨hr_144, hw_144⟩ : r_144 = -5 ∧ ((0 ≤ ((-5)) → M2_144 = (updN (updN M (2 + (2 * k)) u_) ((2 + (2 * k)) + 1) v_) ∧ y2_144 = hisT yl + 1 ∧ RecM yh K2_38 yl yh2_144) ∧ (¬ 0 ≤ ((-5)) → (∀ j, j < 286 → M2_144 j = K2_38 j) ∧ y2_144 = yl ∧ yh2_144 = yh)) := hw
              subst hr_144
              have hE : aHands a (nI k) (nI u_) (nI v_) = (-5, none) := by first | (simp only [aHands, hcx, hcu, hcv]; simp [c_5, c_19, c_31, eq_true c_56, eq_true c_69, c_124, c_134, eq_true c_56.symm, eq_true c_69.symm]; done) | (simp only [aHands, hcx, hcu, hcv]; simp [c_5, c_19, c_31, eq_true c_56, eq_true c_69, c_124, c_134, eq_true c_56.symm, eq_true c_69.symm]; omega)
              refine tope (y := (aHands a (nI k) (nI u_) (nI v_)).1) (by rw [hE]) ?_
              exact RET _ _ _ _ _ (y2_144, M2_144, K2_38, yh2_144) dX7_setHands_147 rfl ⟨rfl, (by rw [hE]; exact ends_no hV hM hw_38 (hw_144.2 (by decide)))⟩ hP hS
            · refine lv_bipush (v := -4) hx hb dX7_setHands_127 (by decide) ?_
              refine lv_goto (tgt := 144) hx hb dX7_setHands_129 (by decide) ?_
              refine call_i (q := (RX7, TX7, 14)) (As := [.int ((-4))]) (rest := []) F (c_X7_ends l D cA m0 m1 m2 m3 m4 m5 m6 m7 m8 m9 yl ik tl sp rd (updN (updN M (2 + (2 * k)) u_) ((2 + (2 * k)) + 1) v_) K2_38 yh ((-4)) (by omega)) (cwV 1 hts gX7_setHands_X7_ends rfl rfl rfl ydv_X7_ends ⟨Nat.le_of_ble_eq_true rfl, Nat.le_of_ble_eq_true rfl⟩) hK hR hP hD hA hS [2, 0, 1, 3] [0, 1, 3] rfl rfl rfl 0 7 rfl rfl (fun _ => rfl) rfl hl.1 rfl (Nat.le_of_ble_eq_true rfl) dX7_setHands_144 ⟨Nat.zero_le _, Nat.zero_le _⟩ (fun r_144 u_144 H locs hw hP hD hS => ?_)
              obtain ⟨y2_144, M2_144, yh2_144⟩ := u_144
              have hP : va_P D vwCl [(m0, .inr (7, [.ref m1, .ref m2, .ref m3, .int (nI y2_144), .ref m4, .int (nI ik), .ref m5, .ref m6, .int (nI tl), .int (nI sp), .int (nI rd), .ref m7, .ref m8, .ref m9])), (m1, .inl (cA, 286, .inl (nF M2_144))), (m2, .inl (cA, 286, .inl (nF K2_38))), (m3, .inl (cA, 1144, .inl (nF yh2_144)))] H := hP
              have hD : va_D A [(m0, .inr (7, [.ref m1, .ref m2, .ref m3, .int (nI y2_144), .ref m4, .int (nI ik), .ref m5, .ref m6, .int (nI tl), .int (nI sp), .int (nI rd), .ref m7, .ref m8, .ref m9])), (m1, .inl (cA, 286, .inl (nF M2_144))), (m2, .inl (cA, 286, .inl (nF K2_38))), (m3, .inl (cA, 1144, .inl (nF yh2_144)))] := hD
              obtain ⟨hr_144, hw_144⟩ : r_144 = -4 ∧ ((0 ≤ ((-4)) → M2_144 = (updN (updN M (2 + (2 * k)) u_) ((2 + (2 * k)) + 1) v_) ∧ y2_144 = hisT yl + 1 ∧ RecM yh K2_38 yl yh2_144) ∧ (¬ 0 ≤ ((-4)) → (∀ j, j < 286 → M2_144 j = K2_38 j) ∧ y2_144 = yl ∧ yh2_144 = yh)) := hw
              subst hr_144
              have hE : aHands a (nI k) (nI u_) (nI v_) = (-4, none) := by first | (simp only [aHands, hcx, hcu, hcv]; simp [c_5, c_19, c_31, eq_true c_56, eq_true c_69, c_124, eq_true c_56.symm, eq_true c_69.symm]; done) | (simp only [aHands, hcx, hcu, hcv]; simp [c_5, c_19, c_31, eq_true c_56, eq_true c_69, c_124, eq_true c_56.symm, eq_true c_69.symm]; omega)
              refine tope (y := (aHands a (nI k) (nI u_) (nI v_)).1) (by rw [hE]) ?_
              exact RET _ _ _ _ _ (y2_144, M2_144, K2_38, yh2_144) dX7_setHands_147 rfl ⟨rfl, (by rw [hE]; exact ends_no hV hM hw_38 (hw_144.2 (by decide)))⟩ hP hS
      · refine lv_bipush (v := -2) hx hb dX7_setHands_34 (by decide) ?_
        have hE : aHands a (nI k) u v = ((-2), none) := by first | (simp only [aHands, hcx]; simp [c_5, c_19, c_31]; done) | (simp only [aHands, hcx]; simp [c_5, c_19, c_31]; omega)
        refine tope (y := (aHands a (nI k) u v).1) (by rw [hE]) ?_
        exact RET _ _ _ _ _ (yl, M, K, yh) dX7_setHands_36 rfl ⟨rfl, (by rw [hE]; exact ⟨rfl, rfl, hM⟩)⟩ hP hS
  · refine lv_iconst (v := -1) hx hb dX7_setHands_8 (by decide) ?_
    have hE : aHands a x u v = ((-1), none) := by first | (simp only [aHands]; simp [c_5]; done) | (simp only [aHands]; simp [c_5]; omega)
    refine tope (y := (aHands a x u v).1) (by rw [hE]) ?_
    exact RET _ _ _ _ _ (yl, M, K, yh) dX7_setHands_9 rfl ⟨rfl, (by rw [hE]; exact ⟨rfl, rfl, hM⟩)⟩ hP hS
abbrev rm_X7_setRule : Room := { frames := 3, cells := 0, slots := 0, locals := 69 }
theorem ydv_X7_setRule : yX7_setRule.cls = RX7 ∧ yX7_setRule.cls ≠ "java/lang/invoke/MethodHandle" ∧ yX7_setRule.cls ≠ "java/lang/invoke/VarHandle" ∧ (parseMethodDescriptor yX7_setRule.desc).map (fun d => d.parameters.length) = some 1 := by decide +kernel
theorem inf_X7_setRule_X7 : ∀ w ∈ wsX70, w ∈ wsX7_setRule := fun w h => List.mem_cons_of_mem _ (List.mem_append_right _ (h))
set_option maxHeartbeats 4000000 in
set_option maxRecDepth 100000 in
theorem c_X7_setRule (l : Launch) (D : va_G) (cA : ClassId) (m0 m1 m2 m3 m4 m5 m6 m7 m8 m9 yl ik tl sp rd : Nat) (a M K yh : Nat → Nat)  (x : Int32) (hV : Vd a) (hM : Rl a M) (hyl : yl ≤ 4) : MI l D cA yX7_setRule wsX7_setRule rm_X7_setRule [.ref m0, .int x] [] [(m0, .inr (7, [.ref m1, .ref m2, .ref m3, .int (nI yl), .ref m4, .int (nI ik), .ref m5, .ref m6, .int (nI tl), .int (nI sp), .int (nI rd), .ref m7, .ref m8, .ref m9])), (m1, .inl (cA, 286, .inl (nF M))), (m2, .inl (cA, 286, .inl (nF K))), (m3, .inl (cA, 1144, .inl (nF yh)))] (S := (Nat) × (Nat → Nat) × (Nat → Nat) × (Nat → Nat)) (fun rr_ (uu_ : (Nat) × (Nat → Nat) × (Nat → Nat) × (Nat → Nat)) => rr_ = (aRule a x).1 ∧ (ActM a M yh yl (aRule a x).2 uu_.1 uu_.2.2.2 uu_.2.1)) (fun (uu_ : (Nat) × (Nat → Nat) × (Nat → Nat) × (Nat → Nat)) => [(m0, .inr (7, [.ref m1, .ref m2, .ref m3, .int (nI uu_.1), .ref m4, .int (nI ik), .ref m5, .ref m6, .int (nI tl), .int (nI sp), .int (nI rd), .ref m7, .ref m8, .ref m9])), (m1, .inl (cA, 286, .inl (nF uu_.2.1))), (m2, .inl (cA, 286, .inl (nF uu_.2.2.1))), (m3, .inl (cA, 1144, .inl (nF uu_.2.2.2)))]) := by
  refine ofWi (cc := cX7_setRule) (maxL := 3) (rt := .int) (by decide) rfl (Nat.le_of_ble_eq_true rfl) ?_
  intro p e s m args below meth c Q A ls F hK hR hP hD hA hS hl RET
  obtain ⟨hx, hb, hml, hown, hts⟩ := id F
  have hl : lv_has ls 3 [(0, .ref m0), (1, .int x)] := hl
  refine lv_iload_n hx hb dX7_setRule_0 rfl (lv_at hl 1 rfl) ?_
  refine lv_i2l (v := (x).toInt64) hx hb dX7_setRule_1 rfl ?_
  refine lv_lconst (v := lN 0) hx hb dX7_setRule_2 rfl ?_
  refine lv_ldc2 (v := lN 2) hx hb hown (hts _ (List.mem_of_getElem? (i := 1) rfl)) dX7_setRule_3 ?_
  refine call_s (As := [.long ((x).toInt64), .long (lN 0), .long (lN 2)]) (rest := []) F (c_X7_in l D cA ((x).toInt64) (lN 0) (lN 2)) (va_cwS 3 hts gX7_setRule_X7_in rfl rfl rfl yd_X7_in ⟨Nat.le_of_ble_eq_true rfl, Nat.le_of_ble_eq_true rfl⟩) hK hR hP hD hA hS rfl hl.1 rfl (Nat.le_of_ble_eq_true rfl) dX7_setRule_6 ⟨Nat.zero_le _, Nat.zero_le _⟩ (fun H locs hP hS => ?_)
  refine tope (y := bI (isB x 3)) (congrArg bI (inL_B (n := 2) (by decide))) ?_
  refine bv_if_ne (tgt := 15) hx hb dX7_setRule_9 (by decide) (fun c_9 => ?_) (fun c_9 => ?_)
  · have hr2_ := hV.r
    obtain ⟨k, hk, rfl⟩ := isB_t (by decide) c_9
    have hcx : cN (nI k) = k := cN_nI (by omega)
    refine lv_aload_n hx hb dX7_setRule_15 rfl (lv_at hl 0 rfl) ?_
    refine call_v (q := (RX7, TX7, 14)) (As := []) (rest := []) F (c_X7_keeps l D cA m0 m1 m2 ([.ref m3, .int (nI yl), .ref m4, .int (nI ik), .ref m5, .ref m6, .int (nI tl), .int (nI sp), .int (nI rd), .ref m7, .ref m8, .ref m9]) M K) (cwV 0 hts gX7_setRule_X7_keeps rfl rfl rfl ydv_X7_keeps ⟨Nat.le_of_ble_eq_true rfl, Nat.le_of_ble_eq_true rfl⟩) hK hR hP hD hA hS [0, 1, 2] [2] rfl rfl rfl 0 7 rfl rfl (fun _ => rfl) rfl hl.1 rfl (Nat.le_of_ble_eq_true rfl) dX7_setRule_16 ⟨Nat.zero_le _, Nat.zero_le _⟩ (fun u_16 H locs hw hP hD hS => ?_)
    obtain ⟨K2_16, rfl⟩ : ∃ z, z = u_16 := ⟨_, rfl⟩
    have hP : va_P D vwCl [(m0, .inr (7, [.ref m1, .ref m2, .ref m3, .int (nI yl), .ref m4, .int (nI ik), .ref m5, .ref m6, .int (nI tl), .int (nI sp), .int (nI rd), .ref m7, .ref m8, .ref m9])), (m1, .inl (cA, 286, .inl (nF M))), (m2, .inl (cA, 286, .inl (nF K2_16))), (m3, .inl (cA, 1144, .inl (nF yh)))] H := hP
    have hD : va_D A [(m0, .inr (7, [.ref m1, .ref m2, .ref m3, .int (nI yl), .ref m4, .int (nI ik), .ref m5, .ref m6, .int (nI tl), .int (nI sp), .int (nI rd), .ref m7, .ref m8, .ref m9])), (m1, .inl (cA, 286, .inl (nF M))), (m2, .inl (cA, 286, .inl (nF K2_16))), (m3, .inl (cA, 1144, .inl (nF yh)))] := hD
    have hw_16 : ∀ j, j < 286 → K2_16 j = M j := hw
    refine lv_aload_n hx hb dX7_setRule_19 rfl (lv_at hl 0 rfl) ?_
    refine va_get (D := D) (cl := vwCl) (ci := 7) (v := .ref m1) (C := RX7) (T := TX7) (N := 14) hx hb hts inf_X7_setRule_X7 hown hK.1 hP 0 rfl rfl 0 (by decide) (hts _ (List.mem_of_getElem? (i := 2) rfl)) (fun _ h9 => h9) rfl dX7_setRule_20 ?_
    refine lv_iconst (v := nI 0) hx hb dX7_setRule_23 (by decide) ?_
    refine nv_iald (a := M) hx hb hK hP 1 rfl (by omega) (by decide) dX7_setRule_24 ?_
    refine tope (y := nI (a 0)) (congrArg nI (hM.1)) ?_
    refine lv_istore_n (lv' := [(2, .int (nI (a 0))), (0, .ref m0), (1, .int (nI k))]) hx hb dX7_setRule_25 rfl hl (by decide) rfl (fun ls hl => ?_)
    refine lv_aload_n hx hb dX7_setRule_26 rfl (lv_at hl 1 rfl) ?_
    refine va_get (D := D) (cl := vwCl) (ci := 7) (v := .ref m1) (C := RX7) (T := TX7) (N := 14) hx hb hts inf_X7_setRule_X7 hown hK.1 hP 0 rfl rfl 0 (by decide) (hts _ (List.mem_of_getElem? (i := 2) rfl)) (fun _ h9 => h9) rfl dX7_setRule_27 ?_
    refine lv_iconst (v := nI 0) hx hb dX7_setRule_30 (by decide) ?_
    refine lv_iload_n hx hb dX7_setRule_31 rfl (lv_at hl 2 rfl) ?_
    refine nv_iast (a := M) (v := k) hx hb hK hP hD hS 1 rfl (by omega) (by decide) dX7_setRule_32 (fun H locs hP hD hS => ?_)
    have hP : va_P D vwCl [(m0, .inr (7, [.ref m1, .ref m2, .ref m3, .int (nI yl), .ref m4, .int (nI ik), .ref m5, .ref m6, .int (nI tl), .int (nI sp), .int (nI rd), .ref m7, .ref m8, .ref m9])), (m1, .inl (cA, 286, .inl (nF (updN M 0 k)))), (m2, .inl (cA, 286, .inl (nF K2_16))), (m3, .inl (cA, 1144, .inl (nF yh)))] H := hP
    have hD : va_D A [(m0, .inr (7, [.ref m1, .ref m2, .ref m3, .int (nI yl), .ref m4, .int (nI ik), .ref m5, .ref m6, .int (nI tl), .int (nI sp), .int (nI rd), .ref m7, .ref m8, .ref m9])), (m1, .inl (cA, 286, .inl (nF (updN M 0 k)))), (m2, .inl (cA, 286, .inl (nF K2_16))), (m3, .inl (cA, 1144, .inl (nF yh)))] := hD
    refine lv_aload_n hx hb dX7_setRule_33 rfl (lv_at hl 1 rfl) ?_
    refine lv_aload_n hx hb dX7_setRule_34 rfl (lv_at hl 1 rfl) ?_
    refine call_r (q := (RX7, TX7, 14)) (As := []) (rest := [.ref m0]) F (c_X7_anyClash l D cA m0 m1 ([.ref m2, .ref m3, .int (nI yl), .ref m4, .int (nI ik), .ref m5, .ref m6, .int (nI tl), .int (nI sp), .int (nI rd), .ref m7, .ref m8, .ref m9]) (updN a 0 k) (updN M 0 k) (Vd_rule hV (by omega)) (Rl_low hM (by decide))) (cwV 0 hts gX7_setRule_X7_anyClash rfl rfl rfl ydv_X7_anyClash ⟨Nat.le_of_ble_eq_true rfl, Nat.le_of_ble_eq_true rfl⟩) hK hR hP hD hA hS [0, 1] rfl rfl 0 7 rfl rfl rfl hl.1 rfl (Nat.le_of_ble_eq_true rfl) dX7_setRule_35 ⟨Nat.zero_le _, Nat.zero_le _⟩ (fun H locs hP hS => ?_)
    refine bv_if_eq (tgt := 46) hx hb dX7_setRule_38 (by decide) (fun c_38 => ?_) (fun c_38 => ?_)
    · refine lv_iload_n hx hb dX7_setRule_46 rfl (lv_at hl 0 rfl) ?_
      refine lv_iload_n hx hb dX7_setRule_47 rfl (lv_at hl 2 rfl) ?_
      refine nv_icmp_ne (tgt := 56) hx hb dX7_setRule_48 (by decide) (by omega) (by omega) (fun c_48 => ?_) (fun c_48 => ?_)
      · refine lv_iload_n hx hb dX7_setRule_56 rfl (lv_at hl 0 rfl) ?_
        refine call_i (q := (RX7, TX7, 14)) (As := [.int (nI (a 0))]) (rest := []) F (c_X7_ends l D cA m0 m1 m2 m3 m4 m5 m6 m7 m8 m9 yl ik tl sp rd (updN M 0 k) K2_16 yh (nI (a 0)) (by omega)) (cwV 1 hts gX7_setRule_X7_ends rfl rfl rfl ydv_X7_ends ⟨Nat.le_of_ble_eq_true rfl, Nat.le_of_ble_eq_true rfl⟩) hK hR hP hD hA hS [2, 0, 1, 3] [0, 1, 3] rfl rfl rfl 0 7 rfl rfl (fun _ => rfl) rfl hl.1 rfl (Nat.le_of_ble_eq_true rfl) dX7_setRule_57 ⟨Nat.zero_le _, Nat.zero_le _⟩ (fun r_57 u_57 H locs hw hP hD hS => ?_)
        obtain ⟨y2_57, M2_57, yh2_57⟩ := u_57
        have hP : va_P D vwCl [(m0, .inr (7, [.ref m1, .ref m2, .ref m3, .int (nI y2_57), .ref m4, .int (nI ik), .ref m5, .ref m6, .int (nI tl), .int (nI sp), .int (nI rd), .ref m7, .ref m8, .ref m9])), (m1, .inl (cA, 286, .inl (nF M2_57))), (m2, .inl (cA, 286, .inl (nF K2_16))), (m3, .inl (cA, 1144, .inl (nF yh2_57)))] H := hP
        have hD : va_D A [(m0, .inr (7, [.ref m1, .ref m2, .ref m3, .int (nI y2_57), .ref m4, .int (nI ik), .ref m5, .ref m6, .int (nI tl), .int (nI sp), .int (nI rd), .ref m7, .ref m8, .ref m9])), (m1, .inl (cA, 286, .inl (nF M2_57))), (m2, .inl (cA, 286, .inl (nF K2_16))), (m3, .inl (cA, 1144, .inl (nF yh2_57)))] := hD
        obtain ⟨hr_57, hw_57⟩ : r_57 = nI (a 0) ∧ ((0 ≤ (nI (a 0)) → M2_57 = (updN M 0 k) ∧ y2_57 = hisT yl + 1 ∧ RecM yh K2_16 yl yh2_57) ∧ (¬ 0 ≤ (nI (a 0)) → (∀ j, j < 286 → M2_57 j = K2_16 j) ∧ y2_57 = yl ∧ yh2_57 = yh)) := hw
        subst hr_57
        have hE : aRule a (nI k) = (nI (a 0), some (updN a 0 k)) := by first | (simp only [aRule, hcx]; simp [c_9, c_38, c_48, c_48.symm]; done) | (simp only [aRule, hcx]; simp [c_9, c_38, c_48, c_48.symm]; omega)
        refine tope (y := (aRule a (nI k)).1) (by rw [hE]) ?_
        exact RET _ _ _ _ _ (y2_57, M2_57, K2_16, yh2_57) dX7_setRule_60 rfl ⟨rfl, (by rw [hE]; exact ends_yes (Rl_low hM (by decide)) hw_16 (hw_57.1 (nI_pos' (by omega))))⟩ hP hS
      · refine lv_bipush (v := -5) hx hb dX7_setRule_51 (by decide) ?_
        refine lv_goto (tgt := 57) hx hb dX7_setRule_53 (by decide) ?_
        refine call_i (q := (RX7, TX7, 14)) (As := [.int ((-5))]) (rest := []) F (c_X7_ends l D cA m0 m1 m2 m3 m4 m5 m6 m7 m8 m9 yl ik tl sp rd (updN M 0 k) K2_16 yh ((-5)) (by omega)) (cwV 1 hts gX7_setRule_X7_ends rfl rfl rfl ydv_X7_ends ⟨Nat.le_of_ble_eq_true rfl, Nat.le_of_ble_eq_true rfl⟩) hK hR hP hD hA hS [2, 0, 1, 3] [0, 1, 3] rfl rfl rfl 0 7 rfl rfl (fun _ => rfl) rfl hl.1 rfl (Nat.le_of_ble_eq_true rfl) dX7_setRule_57 ⟨Nat.zero_le _, Nat.zero_le _⟩ (fun r_57 u_57 H locs hw hP hD hS => ?_)
        obtain ⟨y2_57, M2_57, yh2_57⟩ := u_57
        have hP : va_P D vwCl [(m0, .inr (7, [.ref m1, .ref m2, .ref m3, .int (nI y2_57), .ref m4, .int (nI ik), .ref m5, .ref m6, .int (nI tl), .int (nI sp), .int (nI rd), .ref m7, .ref m8, .ref m9])), (m1, .inl (cA, 286, .inl (nF M2_57))), (m2, .inl (cA, 286, .inl (nF K2_16))), (m3, .inl (cA, 1144, .inl (nF yh2_57)))] H := hP
        have hD : va_D A [(m0, .inr (7, [.ref m1, .ref m2, .ref m3, .int (nI y2_57), .ref m4, .int (nI ik), .ref m5, .ref m6, .int (nI tl), .int (nI sp), .int (nI rd), .ref m7, .ref m8, .ref m9])), (m1, .inl (cA, 286, .inl (nF M2_57))), (m2, .inl (cA, 286, .inl (nF K2_16))), (m3, .inl (cA, 1144, .inl (nF yh2_57)))] := hD
        obtain ⟨hr_57, hw_57⟩ : r_57 = -5 ∧ ((0 ≤ ((-5)) → M2_57 = (updN M 0 k) ∧ y2_57 = hisT yl + 1 ∧ RecM yh K2_16 yl yh2_57) ∧ (¬ 0 ≤ ((-5)) → (∀ j, j < 286 → M2_57 j = K2_16 j) ∧ y2_57 = yl ∧ yh2_57 = yh)) := hw
        subst hr_57
        have hE : aRule a (nI k) = (-5, none) := by first | (simp only [aRule, hcx]; simp [c_9, c_38, eq_true c_48, eq_true c_48.symm]; done) | (simp only [aRule, hcx]; simp [c_9, c_38, eq_true c_48, eq_true c_48.symm]; omega)
        refine tope (y := (aRule a (nI k)).1) (by rw [hE]) ?_
        exact RET _ _ _ _ _ (y2_57, M2_57, K2_16, yh2_57) dX7_setRule_60 rfl ⟨rfl, (by rw [hE]; exact ends_no hV hM hw_16 (hw_57.2 (by decide)))⟩ hP hS
    · refine lv_bipush (v := -4) hx hb dX7_setRule_41 (by decide) ?_
      refine lv_goto (tgt := 57) hx hb dX7_setRule_43 (by decide) ?_
      refine call_i (q := (RX7, TX7, 14)) (As := [.int ((-4))]) (rest := []) F (c_X7_ends l D cA m0 m1 m2 m3 m4 m5 m6 m7 m8 m9 yl ik tl sp rd (updN M 0 k) K2_16 yh ((-4)) (by omega)) (cwV 1 hts gX7_setRule_X7_ends rfl rfl rfl ydv_X7_ends ⟨Nat.le_of_ble_eq_true rfl, Nat.le_of_ble_eq_true rfl⟩) hK hR hP hD hA hS [2, 0, 1, 3] [0, 1, 3] rfl rfl rfl 0 7 rfl rfl (fun _ => rfl) rfl hl.1 rfl (Nat.le_of_ble_eq_true rfl) dX7_setRule_57 ⟨Nat.zero_le _, Nat.zero_le _⟩ (fun r_57 u_57 H locs hw hP hD hS => ?_)
      obtain ⟨y2_57, M2_57, yh2_57⟩ := u_57
      have hP : va_P D vwCl [(m0, .inr (7, [.ref m1, .ref m2, .ref m3, .int (nI y2_57), .ref m4, .int (nI ik), .ref m5, .ref m6, .int (nI tl), .int (nI sp), .int (nI rd), .ref m7, .ref m8, .ref m9])), (m1, .inl (cA, 286, .inl (nF M2_57))), (m2, .inl (cA, 286, .inl (nF K2_16))), (m3, .inl (cA, 1144, .inl (nF yh2_57)))] H := hP
      have hD : va_D A [(m0, .inr (7, [.ref m1, .ref m2, .ref m3, .int (nI y2_57), .ref m4, .int (nI ik), .ref m5, .ref m6, .int (nI tl), .int (nI sp), .int (nI rd), .ref m7, .ref m8, .ref m9])), (m1, .inl (cA, 286, .inl (nF M2_57))), (m2, .inl (cA, 286, .inl (nF K2_16))), (m3, .inl (cA, 1144, .inl (nF yh2_57)))] := hD
      obtain ⟨hr_57, hw_57⟩ : r_57 = -4 ∧ ((0 ≤ ((-4)) → M2_57 = (updN M 0 k) ∧ y2_57 = hisT yl + 1 ∧ RecM yh K2_16 yl yh2_57) ∧ (¬ 0 ≤ ((-4)) → (∀ j, j < 286 → M2_57 j = K2_16 j) ∧ y2_57 = yl ∧ yh2_57 = yh)) := hw
      subst hr_57
      have hE : aRule a (nI k) = (-4, none) := by first | (simp only [aRule, hcx]; simp [c_9, c_38]; done) | (simp only [aRule, hcx]; simp [c_9, c_38]; omega)
      refine tope (y := (aRule a (nI k)).1) (by rw [hE]) ?_
      exact RET _ _ _ _ _ (y2_57, M2_57, K2_16, yh2_57) dX7_setRule_60 rfl ⟨rfl, (by rw [hE]; exact ends_no hV hM hw_16 (hw_57.2 (by decide)))⟩ hP hS
  · refine lv_bipush (v := -2) hx hb dX7_setRule_12 (by decide) ?_
    have hE : aRule a x = ((-2), none) := by first | (simp only [aRule]; simp [c_9]; done) | (simp only [aRule]; simp [c_9]; omega)
    refine tope (y := (aRule a x).1) (by rw [hE]) ?_
    exact RET _ _ _ _ _ (yl, M, K, yh) dX7_setRule_14 rfl ⟨rfl, (by rw [hE]; exact ⟨rfl, rfl, hM⟩)⟩ hP hS
abbrev rm_X7_setKinds : Room := { frames := 2, cells := 0, slots := 0, locals := 45 }
theorem ydv_X7_setKinds : yX7_setKinds.cls = RX7 ∧ yX7_setKinds.cls ≠ "java/lang/invoke/MethodHandle" ∧ yX7_setKinds.cls ≠ "java/lang/invoke/VarHandle" ∧ (parseMethodDescriptor yX7_setKinds.desc).map (fun d => d.parameters.length) = some 1 := by decide +kernel
theorem inf_X7_setKinds_X7 : ∀ w ∈ wsX70, w ∈ wsX7_setKinds := fun w h => List.mem_cons_of_mem _ (List.mem_append_right _ (h))
set_option maxHeartbeats 4000000 in
set_option maxRecDepth 100000 in
theorem c_X7_setKinds (l : Launch) (D : va_G) (cA : ClassId) (m0 m1 m2 m3 m4 m5 m6 m7 m8 m9 yl ik tl sp rd : Nat) (a M K yh : Nat → Nat)  (x : Int32) (hV : Vd a) (hM : Rl a M) (hyl : yl ≤ 4) : MI l D cA yX7_setKinds wsX7_setKinds rm_X7_setKinds [.ref m0, .int x] [] [(m0, .inr (7, [.ref m1, .ref m2, .ref m3, .int (nI yl), .ref m4, .int (nI ik), .ref m5, .ref m6, .int (nI tl), .int (nI sp), .int (nI rd), .ref m7, .ref m8, .ref m9])), (m1, .inl (cA, 286, .inl (nF M))), (m2, .inl (cA, 286, .inl (nF K))), (m3, .inl (cA, 1144, .inl (nF yh)))] (S := (Nat) × (Nat → Nat) × (Nat → Nat) × (Nat → Nat)) (fun rr_ (uu_ : (Nat) × (Nat → Nat) × (Nat → Nat) × (Nat → Nat)) => rr_ = (aKinds a x).1 ∧ (ActM a M yh yl (aKinds a x).2 uu_.1 uu_.2.2.2 uu_.2.1)) (fun (uu_ : (Nat) × (Nat → Nat) × (Nat → Nat) × (Nat → Nat)) => [(m0, .inr (7, [.ref m1, .ref m2, .ref m3, .int (nI uu_.1), .ref m4, .int (nI ik), .ref m5, .ref m6, .int (nI tl), .int (nI sp), .int (nI rd), .ref m7, .ref m8, .ref m9])), (m1, .inl (cA, 286, .inl (nF uu_.2.1))), (m2, .inl (cA, 286, .inl (nF uu_.2.2.1))), (m3, .inl (cA, 1144, .inl (nF uu_.2.2.2)))]) := by
  refine ofWi (cc := cX7_setKinds) (maxL := 3) (rt := .int) (by decide) rfl (Nat.le_of_ble_eq_true rfl) ?_
  intro p e s m args below meth c Q A ls F hK hR hP hD hA hS hl RET
  obtain ⟨hx, hb, hml, hown, hts⟩ := id F
  have hl : lv_has ls 3 [(0, .ref m0), (1, .int x)] := hl
  refine lv_iload_n hx hb dX7_setKinds_0 rfl (lv_at hl 1 rfl) ?_
  refine lv_i2l (v := (x).toInt64) hx hb dX7_setKinds_1 rfl ?_
  refine lv_lconst (v := lN 1) hx hb dX7_setKinds_2 rfl ?_
  refine lv_ldc2 (v := lN 10) hx hb hown (hts _ (List.mem_of_getElem? (i := 1) rfl)) dX7_setKinds_3 ?_
  refine call_s (As := [.long ((x).toInt64), .long (lN 1), .long (lN 10)]) (rest := []) F (c_X7_in l D cA ((x).toInt64) (lN 1) (lN 10)) (va_cwS 3 hts gX7_setKinds_X7_in rfl rfl rfl yd_X7_in ⟨Nat.le_of_ble_eq_true rfl, Nat.le_of_ble_eq_true rfl⟩) hK hR hP hD hA hS rfl hl.1 rfl (Nat.le_of_ble_eq_true rfl) dX7_setKinds_6 ⟨Nat.zero_le _, Nat.zero_le _⟩ (fun H locs hP hS => ?_)
  refine tope (y := bI (inR x 1 10)) (congrArg bI (inL_R (by decide) (by decide))) ?_
  refine bv_if_ne (tgt := 15) hx hb dX7_setKinds_9 (by decide) (fun c_9 => ?_) (fun c_9 => ?_)
  · obtain ⟨k, hk1, hk2, rfl⟩ := inR_t (by decide) c_9
    have hcx : cN (nI k) = k := cN_nI (by omega)
    have hk_ := hV.k
    have hh_ := hiK_le hV
    refine lv_aload_n hx hb dX7_setKinds_15 rfl (lv_at hl 0 rfl) ?_
    refine call_r (q := (RX7, TX7, 14)) (As := []) (rest := []) F (c_X7_greatestKind l D cA m0 m1 ([.ref m2, .ref m3, .int (nI yl), .ref m4, .int (nI ik), .ref m5, .ref m6, .int (nI tl), .int (nI sp), .int (nI rd), .ref m7, .ref m8, .ref m9]) a M (hV) (hM)) (cwV 0 hts gX7_setKinds_X7_greatestKind rfl rfl rfl ydv_X7_greatestKind ⟨Nat.le_of_ble_eq_true rfl, Nat.le_of_ble_eq_true rfl⟩) hK hR hP hD hA hS [0, 1] rfl rfl 0 7 rfl rfl rfl hl.1 rfl (Nat.le_of_ble_eq_true rfl) dX7_setKinds_16 ⟨Nat.zero_le _, Nat.zero_le _⟩ (fun H locs hP hS => ?_)
    refine lv_iload_n hx hb dX7_setKinds_19 rfl (lv_at hl 1 rfl) ?_
    refine nv_icmp_lt (tgt := 26) hx hb dX7_setKinds_20 (by decide) (by omega) (by omega) (fun c_20 => ?_) (fun c_20 => ?_)
    · refine lv_aload_n hx hb dX7_setKinds_26 rfl (lv_at hl 0 rfl) ?_
      refine call_v (q := (RX7, TX7, 14)) (As := []) (rest := []) F (c_X7_keeps l D cA m0 m1 m2 ([.ref m3, .int (nI yl), .ref m4, .int (nI ik), .ref m5, .ref m6, .int (nI tl), .int (nI sp), .int (nI rd), .ref m7, .ref m8, .ref m9]) M K) (cwV 0 hts gX7_setKinds_X7_keeps rfl rfl rfl ydv_X7_keeps ⟨Nat.le_of_ble_eq_true rfl, Nat.le_of_ble_eq_true rfl⟩) hK hR hP hD hA hS [0, 1, 2] [2] rfl rfl rfl 0 7 rfl rfl (fun _ => rfl) rfl hl.1 rfl (Nat.le_of_ble_eq_true rfl) dX7_setKinds_27 ⟨Nat.zero_le _, Nat.zero_le _⟩ (fun u_27 H locs hw hP hD hS => ?_)
      obtain ⟨K2_27, rfl⟩ : ∃ z, z = u_27 := ⟨_, rfl⟩
      have hP : va_P D vwCl [(m0, .inr (7, [.ref m1, .ref m2, .ref m3, .int (nI yl), .ref m4, .int (nI ik), .ref m5, .ref m6, .int (nI tl), .int (nI sp), .int (nI rd), .ref m7, .ref m8, .ref m9])), (m1, .inl (cA, 286, .inl (nF M))), (m2, .inl (cA, 286, .inl (nF K2_27))), (m3, .inl (cA, 1144, .inl (nF yh)))] H := hP
      have hD : va_D A [(m0, .inr (7, [.ref m1, .ref m2, .ref m3, .int (nI yl), .ref m4, .int (nI ik), .ref m5, .ref m6, .int (nI tl), .int (nI sp), .int (nI rd), .ref m7, .ref m8, .ref m9])), (m1, .inl (cA, 286, .inl (nF M))), (m2, .inl (cA, 286, .inl (nF K2_27))), (m3, .inl (cA, 1144, .inl (nF yh)))] := hD
      have hw_27 : ∀ j, j < 286 → K2_27 j = M j := hw
      refine lv_aload_n hx hb dX7_setKinds_30 rfl (lv_at hl 0 rfl) ?_
      refine va_get (D := D) (cl := vwCl) (ci := 7) (v := .ref m1) (C := RX7) (T := TX7) (N := 14) hx hb hts inf_X7_setKinds_X7 hown hK.1 hP 0 rfl rfl 0 (by decide) (hts _ (List.mem_of_getElem? (i := 2) rfl)) (fun _ h9 => h9) rfl dX7_setKinds_31 ?_
      refine lv_iconst (v := nI 1) hx hb dX7_setKinds_34 (by decide) ?_
      refine nv_iald (a := M) hx hb hK hP 1 rfl (by omega) (by decide) dX7_setKinds_35 ?_
      refine tope (y := nI (a 1)) (congrArg nI (hM.2.1)) ?_
      refine lv_istore_n (lv' := [(2, .int (nI (a 1))), (0, .ref m0), (1, .int (nI k))]) hx hb dX7_setKinds_36 rfl hl (by decide) rfl (fun ls hl => ?_)
      refine lv_aload_n hx hb dX7_setKinds_37 rfl (lv_at hl 1 rfl) ?_
      refine va_get (D := D) (cl := vwCl) (ci := 7) (v := .ref m1) (C := RX7) (T := TX7) (N := 14) hx hb hts inf_X7_setKinds_X7 hown hK.1 hP 0 rfl rfl 0 (by decide) (hts _ (List.mem_of_getElem? (i := 2) rfl)) (fun _ h9 => h9) rfl dX7_setKinds_38 ?_
      refine lv_iconst (v := nI 1) hx hb dX7_setKinds_41 (by decide) ?_
      refine lv_iload_n hx hb dX7_setKinds_42 rfl (lv_at hl 2 rfl) ?_
      refine nv_iast (a := M) (v := k) hx hb hK hP hD hS 1 rfl (by omega) (by decide) dX7_setKinds_43 (fun H locs hP hD hS => ?_)
      have hP : va_P D vwCl [(m0, .inr (7, [.ref m1, .ref m2, .ref m3, .int (nI yl), .ref m4, .int (nI ik), .ref m5, .ref m6, .int (nI tl), .int (nI sp), .int (nI rd), .ref m7, .ref m8, .ref m9])), (m1, .inl (cA, 286, .inl (nF (updN M 1 k)))), (m2, .inl (cA, 286, .inl (nF K2_27))), (m3, .inl (cA, 1144, .inl (nF yh)))] H := hP
      have hD : va_D A [(m0, .inr (7, [.ref m1, .ref m2, .ref m3, .int (nI yl), .ref m4, .int (nI ik), .ref m5, .ref m6, .int (nI tl), .int (nI sp), .int (nI rd), .ref m7, .ref m8, .ref m9])), (m1, .inl (cA, 286, .inl (nF (updN M 1 k)))), (m2, .inl (cA, 286, .inl (nF K2_27))), (m3, .inl (cA, 1144, .inl (nF yh)))] := hD
      refine lv_aload_n hx hb dX7_setKinds_44 rfl (lv_at hl 1 rfl) ?_
      refine lv_iload_n hx hb dX7_setKinds_45 rfl (lv_at hl 0 rfl) ?_
      refine lv_iload_n hx hb dX7_setKinds_46 rfl (lv_at hl 2 rfl) ?_
      refine nv_icmp_ne (tgt := 55) hx hb dX7_setKinds_47 (by decide) (by omega) (by omega) (fun c_47 => ?_) (fun c_47 => ?_)
      · refine lv_iload_n hx hb dX7_setKinds_55 rfl (lv_at hl 0 rfl) ?_
        refine call_i (q := (RX7, TX7, 14)) (As := [.int (nI (a 1))]) (rest := []) F (c_X7_ends l D cA m0 m1 m2 m3 m4 m5 m6 m7 m8 m9 yl ik tl sp rd (updN M 1 k) K2_27 yh (nI (a 1)) (by omega)) (cwV 1 hts gX7_setKinds_X7_ends rfl rfl rfl ydv_X7_ends ⟨Nat.le_of_ble_eq_true rfl, Nat.le_of_ble_eq_true rfl⟩) hK hR hP hD hA hS [2, 0, 1, 3] [0, 1, 3] rfl rfl rfl 0 7 rfl rfl (fun _ => rfl) rfl hl.1 rfl (Nat.le_of_ble_eq_true rfl) dX7_setKinds_56 ⟨Nat.zero_le _, Nat.zero_le _⟩ (fun r_56 u_56 H locs hw hP hD hS => ?_)
        obtain ⟨y2_56, M2_56, yh2_56⟩ := u_56
        have hP : va_P D vwCl [(m0, .inr (7, [.ref m1, .ref m2, .ref m3, .int (nI y2_56), .ref m4, .int (nI ik), .ref m5, .ref m6, .int (nI tl), .int (nI sp), .int (nI rd), .ref m7, .ref m8, .ref m9])), (m1, .inl (cA, 286, .inl (nF M2_56))), (m2, .inl (cA, 286, .inl (nF K2_27))), (m3, .inl (cA, 1144, .inl (nF yh2_56)))] H := hP
        have hD : va_D A [(m0, .inr (7, [.ref m1, .ref m2, .ref m3, .int (nI y2_56), .ref m4, .int (nI ik), .ref m5, .ref m6, .int (nI tl), .int (nI sp), .int (nI rd), .ref m7, .ref m8, .ref m9])), (m1, .inl (cA, 286, .inl (nF M2_56))), (m2, .inl (cA, 286, .inl (nF K2_27))), (m3, .inl (cA, 1144, .inl (nF yh2_56)))] := hD
        obtain ⟨hr_56, hw_56⟩ : r_56 = nI (a 1) ∧ ((0 ≤ (nI (a 1)) → M2_56 = (updN M 1 k) ∧ y2_56 = hisT yl + 1 ∧ RecM yh K2_27 yl yh2_56) ∧ (¬ 0 ≤ (nI (a 1)) → (∀ j, j < 286 → M2_56 j = K2_27 j) ∧ y2_56 = yl ∧ yh2_56 = yh)) := hw
        subst hr_56
        have hE : aKinds a (nI k) = (nI (a 1), some (updN a 1 k)) := by first | (simp only [aKinds, hcx]; simp [c_9, c_20, c_47, c_47.symm]; done) | (simp only [aKinds, hcx]; simp [c_9, c_20, c_47, c_47.symm]; omega)
        refine tope (y := (aKinds a (nI k)).1) (by rw [hE]) ?_
        exact RET _ _ _ _ _ (y2_56, M2_56, K2_27, yh2_56) dX7_setKinds_59 rfl ⟨rfl, (by rw [hE]; exact ends_yes (Rl_low hM (by decide)) hw_27 (hw_56.1 (nI_pos' (by omega))))⟩ hP hS
      · refine lv_bipush (v := -5) hx hb dX7_setKinds_50 (by decide) ?_
        refine lv_goto (tgt := 56) hx hb dX7_setKinds_52 (by decide) ?_
        refine call_i (q := (RX7, TX7, 14)) (As := [.int ((-5))]) (rest := []) F (c_X7_ends l D cA m0 m1 m2 m3 m4 m5 m6 m7 m8 m9 yl ik tl sp rd (updN M 1 k) K2_27 yh ((-5)) (by omega)) (cwV 1 hts gX7_setKinds_X7_ends rfl rfl rfl ydv_X7_ends ⟨Nat.le_of_ble_eq_true rfl, Nat.le_of_ble_eq_true rfl⟩) hK hR hP hD hA hS [2, 0, 1, 3] [0, 1, 3] rfl rfl rfl 0 7 rfl rfl (fun _ => rfl) rfl hl.1 rfl (Nat.le_of_ble_eq_true rfl) dX7_setKinds_56 ⟨Nat.zero_le _, Nat.zero_le _⟩ (fun r_56 u_56 H locs hw hP hD hS => ?_)
        obtain ⟨y2_56, M2_56, yh2_56⟩ := u_56
        have hP : va_P D vwCl [(m0, .inr (7, [.ref m1, .ref m2, .ref m3, .int (nI y2_56), .ref m4, .int (nI ik), .ref m5, .ref m6, .int (nI tl), .int (nI sp), .int (nI rd), .ref m7, .ref m8, .ref m9])), (m1, .inl (cA, 286, .inl (nF M2_56))), (m2, .inl (cA, 286, .inl (nF K2_27))), (m3, .inl (cA, 1144, .inl (nF yh2_56)))] H := hP
        have hD : va_D A [(m0, .inr (7, [.ref m1, .ref m2, .ref m3, .int (nI y2_56), .ref m4, .int (nI ik), .ref m5, .ref m6, .int (nI tl), .int (nI sp), .int (nI rd), .ref m7, .ref m8, .ref m9])), (m1, .inl (cA, 286, .inl (nF M2_56))), (m2, .inl (cA, 286, .inl (nF K2_27))), (m3, .inl (cA, 1144, .inl (nF yh2_56)))] := hD
        obtain ⟨hr_56, hw_56⟩ : r_56 = -5 ∧ ((0 ≤ ((-5)) → M2_56 = (updN M 1 k) ∧ y2_56 = hisT yl + 1 ∧ RecM yh K2_27 yl yh2_56) ∧ (¬ 0 ≤ ((-5)) → (∀ j, j < 286 → M2_56 j = K2_27 j) ∧ y2_56 = yl ∧ yh2_56 = yh)) := hw
        subst hr_56
        have hE : aKinds a (nI k) = (-5, none) := by first | (simp only [aKinds, hcx]; simp [c_9, c_20, eq_true c_47, eq_true c_47.symm]; done) | (simp only [aKinds, hcx]; simp [c_9, c_20, eq_true c_47, eq_true c_47.symm]; omega)
        refine tope (y := (aKinds a (nI k)).1) (by rw [hE]) ?_
        exact RET _ _ _ _ _ (y2_56, M2_56, K2_27, yh2_56) dX7_setKinds_59 rfl ⟨rfl, (by rw [hE]; exact ends_no hV hM hw_27 (hw_56.2 (by decide)))⟩ hP hS
    · refine lv_bipush (v := -4) hx hb dX7_setKinds_23 (by decide) ?_
      have hE : aKinds a (nI k) = ((-4), none) := by first | (simp only [aKinds, hcx]; simp [c_9, c_20]; done) | (simp only [aKinds, hcx]; simp [c_9, c_20]; omega)
      refine tope (y := (aKinds a (nI k)).1) (by rw [hE]) ?_
      exact RET _ _ _ _ _ (yl, M, K, yh) dX7_setKinds_25 rfl ⟨rfl, (by rw [hE]; exact ⟨rfl, rfl, hM⟩)⟩ hP hS
  · refine lv_bipush (v := -2) hx hb dX7_setKinds_12 (by decide) ?_
    have hE : aKinds a x = ((-2), none) := by first | (simp only [aKinds]; simp [c_9]; done) | (simp only [aKinds]; simp [c_9]; omega)
    refine tope (y := (aKinds a x).1) (by rw [hE]) ?_
    exact RET _ _ _ _ _ (yl, M, K, yh) dX7_setKinds_14 rfl ⟨rfl, (by rw [hE]; exact ⟨rfl, rfl, hM⟩)⟩ hP hS
abbrev rm_X7_cutDoll : Room := { frames := 2, cells := 0, slots := 0, locals := 46 }
theorem ydv_X7_cutDoll : yX7_cutDoll.cls = RX7 ∧ yX7_cutDoll.cls ≠ "java/lang/invoke/MethodHandle" ∧ yX7_cutDoll.cls ≠ "java/lang/invoke/VarHandle" ∧ (parseMethodDescriptor yX7_cutDoll.desc).map (fun d => d.parameters.length) = some 2 := by decide +kernel
theorem inf_X7_cutDoll_X7 : ∀ w ∈ wsX70, w ∈ wsX7_cutDoll := fun w h => List.mem_cons_of_mem _ (List.mem_append_right _ (h))
set_option maxHeartbeats 4000000 in
set_option maxRecDepth 100000 in
theorem c_X7_cutDoll (l : Launch) (D : va_G) (cA : ClassId) (m0 m1 m2 m3 m4 m5 m6 m7 m8 m9 yl ik tl sp rd : Nat) (a M K yh : Nat → Nat)  (x : Int32) (b : Bool) (hV : Vd a) (hM : Rl a M) (hyl : yl ≤ 4) : MI l D cA yX7_cutDoll wsX7_cutDoll rm_X7_cutDoll [.ref m0, .int x, .int (bI b)] [] [(m0, .inr (7, [.ref m1, .ref m2, .ref m3, .int (nI yl), .ref m4, .int (nI ik), .ref m5, .ref m6, .int (nI tl), .int (nI sp), .int (nI rd), .ref m7, .ref m8, .ref m9])), (m1, .inl (cA, 286, .inl (nF M))), (m2, .inl (cA, 286, .inl (nF K))), (m3, .inl (cA, 1144, .inl (nF yh)))] (S := (Nat) × (Nat → Nat) × (Nat → Nat) × (Nat → Nat)) (fun rr_ (uu_ : (Nat) × (Nat → Nat) × (Nat → Nat) × (Nat → Nat)) => rr_ = (aCut a x b).1 ∧ (ActM a M yh yl (aCut a x b).2 uu_.1 uu_.2.2.2 uu_.2.1)) (fun (uu_ : (Nat) × (Nat → Nat) × (Nat → Nat) × (Nat → Nat)) => [(m0, .inr (7, [.ref m1, .ref m2, .ref m3, .int (nI uu_.1), .ref m4, .int (nI ik), .ref m5, .ref m6, .int (nI tl), .int (nI sp), .int (nI rd), .ref m7, .ref m8, .ref m9])), (m1, .inl (cA, 286, .inl (nF uu_.2.1))), (m2, .inl (cA, 286, .inl (nF uu_.2.2.1))), (m3, .inl (cA, 1144, .inl (nF uu_.2.2.2)))]) := by
  refine ofWi (cc := cX7_cutDoll) (maxL := 4) (rt := .int) (by decide) rfl (Nat.le_of_ble_eq_true rfl) ?_
  intro p e s m args below meth c Q A ls F hK hR hP hD hA hS hl RET
  obtain ⟨hx, hb, hml, hown, hts⟩ := id F
  have hl : lv_has ls 4 [(0, .ref m0), (1, .int x), (2, .int (bI b))] := hl
  refine lv_aload_n hx hb dX7_cutDoll_0 rfl (lv_at hl 0 rfl) ?_
  refine lv_iload_n hx hb dX7_cutDoll_1 rfl (lv_at hl 1 rfl) ?_
  refine call_r (q := (RX7, TX7, 14)) (As := [.int x]) (rest := []) F (c_X7_isKind l D cA m0 m1 ([.ref m2, .ref m3, .int (nI yl), .ref m4, .int (nI ik), .ref m5, .ref m6, .int (nI tl), .int (nI sp), .int (nI rd), .ref m7, .ref m8, .ref m9]) a M x (hV) (hM)) (cwV 1 hts gX7_cutDoll_X7_isKind rfl rfl rfl ydv_X7_isKind ⟨Nat.le_of_ble_eq_true rfl, Nat.le_of_ble_eq_true rfl⟩) hK hR hP hD hA hS [0, 1] rfl rfl 0 7 rfl rfl rfl hl.1 rfl (Nat.le_of_ble_eq_true rfl) dX7_cutDoll_2 ⟨Nat.zero_le _, Nat.zero_le _⟩ (fun H locs hP hS => ?_)
  refine bv_if_ne (tgt := 10) hx hb dX7_cutDoll_5 (by decide) (fun c_5 => ?_) (fun c_5 => ?_)
  · have hk_ := hV.k
    obtain ⟨k, hk, rfl⟩ := isB_t (by omega) c_5
    have hcx : cN (nI k) = k := cN_nI (by omega)
    refine lv_aload_n hx hb dX7_cutDoll_10 rfl (lv_at hl 0 rfl) ?_
    refine call_r (q := (RX7, TX7, 14)) (As := []) (rest := []) F (c_X7_freeNumber l D cA m0 m1 ([.ref m2, .ref m3, .int (nI yl), .ref m4, .int (nI ik), .ref m5, .ref m6, .int (nI tl), .int (nI sp), .int (nI rd), .ref m7, .ref m8, .ref m9]) a M (hV) (hM)) (cwV 0 hts gX7_cutDoll_X7_freeNumber rfl rfl rfl ydv_X7_freeNumber ⟨Nat.le_of_ble_eq_true rfl, Nat.le_of_ble_eq_true rfl⟩) hK hR hP hD hA hS [0, 1] rfl rfl 0 7 rfl rfl rfl hl.1 rfl (Nat.le_of_ble_eq_true rfl) dX7_cutDoll_11 ⟨Nat.zero_le _, Nat.zero_le _⟩ (fun H locs hP hS => ?_)
    rcases fr_c a with hf8 | hf8
    · refine tope (y := -5) (frM_8 hf8) ?_
      refine lv_istore_n (lv' := [(3, .int ((-5))), (0, .ref m0), (1, .int (nI k)), (2, .int (bI b))]) hx hb dX7_cutDoll_14 rfl hl (by decide) rfl (fun ls hl => ?_)
      refine lv_iload_n hx hb dX7_cutDoll_15 rfl (lv_at hl 0 rfl) ?_
      refine lv_bipush (v := -5) hx hb dX7_cutDoll_16 (by decide) ?_
      refine lv_icmp_ne (tgt := 24) hx hb dX7_cutDoll_18 (by decide) (fun c_18 => absurd c_18 ((fun h => h rfl))) (fun c_18 => ?_)
      refine lv_bipush (v := -3) hx hb dX7_cutDoll_21 (by decide) ?_
      have hE : aCut a (nI k) b = ((-3), none) := by first | (simp only [aCut, hcx]; simp [c_5, c_18, hf8]; done) | (simp only [aCut, hcx]; simp [c_5, c_18, hf8]; omega)
      refine tope (y := (aCut a (nI k) b).1) (by rw [hE]) ?_
      exact RET _ _ _ _ _ (yl, M, K, yh) dX7_cutDoll_23 rfl ⟨rfl, (by rw [hE]; exact ⟨rfl, rfl, hM⟩)⟩ hP hS
    · refine tope (y := nI (fr a)) (frM_n hf8) ?_
      refine lv_istore_n (lv' := [(3, .int (nI (fr a))), (0, .ref m0), (1, .int (nI k)), (2, .int (bI b))]) hx hb dX7_cutDoll_14 rfl hl (by decide) rfl (fun ls hl => ?_)
      refine lv_iload_n hx hb dX7_cutDoll_15 rfl (lv_at hl 0 rfl) ?_
      refine lv_bipush (v := -5) hx hb dX7_cutDoll_16 (by decide) ?_
      refine lv_icmp_ne (tgt := 24) hx hb dX7_cutDoll_18 (by decide) (fun c_18 => ?_) (fun c_18 => absurd c_18 ((nI_m5 (by omega))))
      refine lv_aload_n hx hb dX7_cutDoll_24 rfl (lv_at hl 1 rfl) ?_
      refine call_v (q := (RX7, TX7, 14)) (As := []) (rest := []) F (c_X7_keeps l D cA m0 m1 m2 ([.ref m3, .int (nI yl), .ref m4, .int (nI ik), .ref m5, .ref m6, .int (nI tl), .int (nI sp), .int (nI rd), .ref m7, .ref m8, .ref m9]) M K) (cwV 0 hts gX7_cutDoll_X7_keeps rfl rfl rfl ydv_X7_keeps ⟨Nat.le_of_ble_eq_true rfl, Nat.le_of_ble_eq_true rfl⟩) hK hR hP hD hA hS [0, 1, 2] [2] rfl rfl rfl 0 7 rfl rfl (fun _ => rfl) rfl hl.1 rfl (Nat.le_of_ble_eq_true rfl) dX7_cutDoll_25 ⟨Nat.zero_le _, Nat.zero_le _⟩ (fun u_25 H locs hw hP hD hS => ?_)
      obtain ⟨K2_25, rfl⟩ : ∃ z, z = u_25 := ⟨_, rfl⟩
      have hP : va_P D vwCl [(m0, .inr (7, [.ref m1, .ref m2, .ref m3, .int (nI yl), .ref m4, .int (nI ik), .ref m5, .ref m6, .int (nI tl), .int (nI sp), .int (nI rd), .ref m7, .ref m8, .ref m9])), (m1, .inl (cA, 286, .inl (nF M))), (m2, .inl (cA, 286, .inl (nF K2_25))), (m3, .inl (cA, 1144, .inl (nF yh)))] H := hP
      have hD : va_D A [(m0, .inr (7, [.ref m1, .ref m2, .ref m3, .int (nI yl), .ref m4, .int (nI ik), .ref m5, .ref m6, .int (nI tl), .int (nI sp), .int (nI rd), .ref m7, .ref m8, .ref m9])), (m1, .inl (cA, 286, .inl (nF M))), (m2, .inl (cA, 286, .inl (nF K2_25))), (m3, .inl (cA, 1144, .inl (nF yh)))] := hD
      have hw_25 : ∀ j, j < 286 → K2_25 j = M j := hw
      refine lv_aload_n hx hb dX7_cutDoll_28 rfl (lv_at hl 1 rfl) ?_
      refine va_get (D := D) (cl := vwCl) (ci := 7) (v := .ref m1) (C := RX7) (T := TX7) (N := 14) hx hb hts inf_X7_cutDoll_X7 hown hK.1 hP 0 rfl rfl 0 (by decide) (hts _ (List.mem_of_getElem? (i := 1) rfl)) (fun _ h9 => h9) rfl dX7_cutDoll_29 ?_
      refine lv_bipush (v := nI 22) hx hb dX7_cutDoll_32 (by decide) ?_
      refine lv_iload_n hx hb dX7_cutDoll_34 rfl (lv_at hl 0 rfl) ?_
      refine nv_iadd hx hb dX7_cutDoll_35 ?_
      refine lv_iconst (v := nI 1) hx hb dX7_cutDoll_36 (by decide) ?_
      refine nv_iast (a := M) (v := 1) hx hb hK hP hD hS 1 rfl (by omega) (by decide) dX7_cutDoll_37 (fun H locs hP hD hS => ?_)
      have hP : va_P D vwCl [(m0, .inr (7, [.ref m1, .ref m2, .ref m3, .int (nI yl), .ref m4, .int (nI ik), .ref m5, .ref m6, .int (nI tl), .int (nI sp), .int (nI rd), .ref m7, .ref m8, .ref m9])), (m1, .inl (cA, 286, .inl (nF (updN M (22 + (fr a)) 1)))), (m2, .inl (cA, 286, .inl (nF K2_25))), (m3, .inl (cA, 1144, .inl (nF yh)))] H := hP
      have hD : va_D A [(m0, .inr (7, [.ref m1, .ref m2, .ref m3, .int (nI yl), .ref m4, .int (nI ik), .ref m5, .ref m6, .int (nI tl), .int (nI sp), .int (nI rd), .ref m7, .ref m8, .ref m9])), (m1, .inl (cA, 286, .inl (nF (updN M (22 + (fr a)) 1)))), (m2, .inl (cA, 286, .inl (nF K2_25))), (m3, .inl (cA, 1144, .inl (nF yh)))] := hD
      refine lv_aload_n hx hb dX7_cutDoll_38 rfl (lv_at hl 1 rfl) ?_
      refine lv_iload_n hx hb dX7_cutDoll_39 rfl (lv_at hl 0 rfl) ?_
      refine lv_iconst (v := nI 0) hx hb dX7_cutDoll_40 (by decide) ?_
      refine lv_iconst (v := nI 2) hx hb dX7_cutDoll_41 (by decide) ?_
      refine lv_iload_n hx hb dX7_cutDoll_42 rfl (lv_at hl 2 rfl) ?_
      refine nv_imul hx hb dX7_cutDoll_43 ?_
      refine lv_iload_n hx hb dX7_cutDoll_44 rfl (lv_at hl 3 rfl) ?_
      refine bv_if_eq (tgt := 52) hx hb dX7_cutDoll_45 (by decide) (fun c_45 => ?_) (fun c_45 => ?_)
      · refine lv_iconst (v := nI 0) hx hb dX7_cutDoll_52 (by decide) ?_
        refine nv_iadd hx hb dX7_cutDoll_53 ?_
        refine call_v (q := (RX7, TX7, 14)) (As := [.int (nI (fr a)), .int (nI 0), .int (nI ((2 * k) + 0))]) (rest := []) F (c_X7_lays l D cA m0 m1 ([.ref m2, .ref m3, .int (nI yl), .ref m4, .int (nI ik), .ref m5, .ref m6, .int (nI tl), .int (nI sp), .int (nI rd), .ref m7, .ref m8, .ref m9]) (updN M (22 + (fr a)) 1) (fr a) 0 ((2 * k) + 0) (by omega) (by omega)) (cwV 3 hts gX7_cutDoll_X7_lays rfl rfl rfl ydv_X7_lays ⟨Nat.le_of_ble_eq_true rfl, Nat.le_of_ble_eq_true rfl⟩) hK hR hP hD hA hS [0, 1] [1] rfl rfl rfl 0 7 rfl rfl (fun _ => rfl) rfl hl.1 rfl (Nat.le_of_ble_eq_true rfl) dX7_cutDoll_54 ⟨Nat.zero_le _, Nat.zero_le _⟩ (fun u_54 H locs hw hP hD hS => ?_)
        have hP : va_P D vwCl [(m0, .inr (7, [.ref m1, .ref m2, .ref m3, .int (nI yl), .ref m4, .int (nI ik), .ref m5, .ref m6, .int (nI tl), .int (nI sp), .int (nI rd), .ref m7, .ref m8, .ref m9])), (m1, .inl (cA, 286, .inl (nF (updN (updN M (22 + (fr a)) 1) (30 + 32 * (fr a) + 0) ((2 * k) + 0))))), (m2, .inl (cA, 286, .inl (nF K2_25))), (m3, .inl (cA, 1144, .inl (nF yh)))] H := hP
        have hD : va_D A [(m0, .inr (7, [.ref m1, .ref m2, .ref m3, .int (nI yl), .ref m4, .int (nI ik), .ref m5, .ref m6, .int (nI tl), .int (nI sp), .int (nI rd), .ref m7, .ref m8, .ref m9])), (m1, .inl (cA, 286, .inl (nF (updN (updN M (22 + (fr a)) 1) (30 + 32 * (fr a) + 0) ((2 * k) + 0))))), (m2, .inl (cA, 286, .inl (nF K2_25))), (m3, .inl (cA, 1144, .inl (nF yh)))] := hD
        refine lv_aload_n hx hb dX7_cutDoll_57 rfl (lv_at hl 1 rfl) ?_
        refine lv_iload_n hx hb dX7_cutDoll_58 rfl (lv_at hl 0 rfl) ?_
        refine call_i (q := (RX7, TX7, 14)) (As := [.int (nI (fr a))]) (rest := []) F (c_X7_ends l D cA m0 m1 m2 m3 m4 m5 m6 m7 m8 m9 yl ik tl sp rd (updN (updN M (22 + (fr a)) 1) (30 + 32 * (fr a) + 0) ((2 * k) + 0)) K2_25 yh (nI (fr a)) (by omega)) (cwV 1 hts gX7_cutDoll_X7_ends rfl rfl rfl ydv_X7_ends ⟨Nat.le_of_ble_eq_true rfl, Nat.le_of_ble_eq_true rfl⟩) hK hR hP hD hA hS [2, 0, 1, 3] [0, 1, 3] rfl rfl rfl 0 7 rfl rfl (fun _ => rfl) rfl hl.1 rfl (Nat.le_of_ble_eq_true rfl) dX7_cutDoll_59 ⟨Nat.zero_le _, Nat.zero_le _⟩ (fun r_59 u_59 H locs hw hP hD hS => ?_)
        obtain ⟨y2_59, M2_59, yh2_59⟩ := u_59
        have hP : va_P D vwCl [(m0, .inr (7, [.ref m1, .ref m2, .ref m3, .int (nI y2_59), .ref m4, .int (nI ik), .ref m5, .ref m6, .int (nI tl), .int (nI sp), .int (nI rd), .ref m7, .ref m8, .ref m9])), (m1, .inl (cA, 286, .inl (nF M2_59))), (m2, .inl (cA, 286, .inl (nF K2_25))), (m3, .inl (cA, 1144, .inl (nF yh2_59)))] H := hP
        have hD : va_D A [(m0, .inr (7, [.ref m1, .ref m2, .ref m3, .int (nI y2_59), .ref m4, .int (nI ik), .ref m5, .ref m6, .int (nI tl), .int (nI sp), .int (nI rd), .ref m7, .ref m8, .ref m9])), (m1, .inl (cA, 286, .inl (nF M2_59))), (m2, .inl (cA, 286, .inl (nF K2_25))), (m3, .inl (cA, 1144, .inl (nF yh2_59)))] := hD
        obtain ⟨hr_59, hw_59⟩ : r_59 = nI (fr a) ∧ ((0 ≤ (nI (fr a)) → M2_59 = (updN (updN M (22 + (fr a)) 1) (30 + 32 * (fr a) + 0) ((2 * k) + 0)) ∧ y2_59 = hisT yl + 1 ∧ RecM yh K2_25 yl yh2_59) ∧ (¬ 0 ≤ (nI (fr a)) → (∀ j, j < 286 → M2_59 j = K2_25 j) ∧ y2_59 = yl ∧ yh2_59 = yh)) := hw
        subst hr_59
        have hE : aCut a (nI k) b = (nI (fr a), some (updN (updN a (30 + fr a * 32 + 0) (2 * k + b2n b)) (22 + fr a) 1)) := by first | (simp only [aCut, hcx]; simp [c_5, c_18, c_45, Nat.ne_of_lt hf8]; done) | (simp only [aCut, hcx]; simp [c_5, c_18, c_45, Nat.ne_of_lt hf8]; omega)
        refine tope (y := (aCut a (nI k) b).1) (by rw [hE]) ?_
        exact RET _ _ _ _ _ (y2_59, M2_59, K2_25, yh2_59) dX7_cutDoll_62 rfl ⟨rfl, (by rw [hE]; exact ends_yes (by rw [c_45]; exact Rl_cut hM hV.1 hf8) hw_25 (hw_59.1 (nI_pos' (by omega))))⟩ hP hS
      · refine lv_iconst (v := nI 1) hx hb dX7_cutDoll_48 (by decide) ?_
        refine lv_goto (tgt := 53) hx hb dX7_cutDoll_49 (by decide) ?_
        refine nv_iadd hx hb dX7_cutDoll_53 ?_
        refine call_v (q := (RX7, TX7, 14)) (As := [.int (nI (fr a)), .int (nI 0), .int (nI ((2 * k) + 1))]) (rest := []) F (c_X7_lays l D cA m0 m1 ([.ref m2, .ref m3, .int (nI yl), .ref m4, .int (nI ik), .ref m5, .ref m6, .int (nI tl), .int (nI sp), .int (nI rd), .ref m7, .ref m8, .ref m9]) (updN M (22 + (fr a)) 1) (fr a) 0 ((2 * k) + 1) (by omega) (by omega)) (cwV 3 hts gX7_cutDoll_X7_lays rfl rfl rfl ydv_X7_lays ⟨Nat.le_of_ble_eq_true rfl, Nat.le_of_ble_eq_true rfl⟩) hK hR hP hD hA hS [0, 1] [1] rfl rfl rfl 0 7 rfl rfl (fun _ => rfl) rfl hl.1 rfl (Nat.le_of_ble_eq_true rfl) dX7_cutDoll_54 ⟨Nat.zero_le _, Nat.zero_le _⟩ (fun u_54 H locs hw hP hD hS => ?_)
        have hP : va_P D vwCl [(m0, .inr (7, [.ref m1, .ref m2, .ref m3, .int (nI yl), .ref m4, .int (nI ik), .ref m5, .ref m6, .int (nI tl), .int (nI sp), .int (nI rd), .ref m7, .ref m8, .ref m9])), (m1, .inl (cA, 286, .inl (nF (updN (updN M (22 + (fr a)) 1) (30 + 32 * (fr a) + 0) ((2 * k) + 1))))), (m2, .inl (cA, 286, .inl (nF K2_25))), (m3, .inl (cA, 1144, .inl (nF yh)))] H := hP
        have hD : va_D A [(m0, .inr (7, [.ref m1, .ref m2, .ref m3, .int (nI yl), .ref m4, .int (nI ik), .ref m5, .ref m6, .int (nI tl), .int (nI sp), .int (nI rd), .ref m7, .ref m8, .ref m9])), (m1, .inl (cA, 286, .inl (nF (updN (updN M (22 + (fr a)) 1) (30 + 32 * (fr a) + 0) ((2 * k) + 1))))), (m2, .inl (cA, 286, .inl (nF K2_25))), (m3, .inl (cA, 1144, .inl (nF yh)))] := hD
        refine lv_aload_n hx hb dX7_cutDoll_57 rfl (lv_at hl 1 rfl) ?_
        refine lv_iload_n hx hb dX7_cutDoll_58 rfl (lv_at hl 0 rfl) ?_
        refine call_i (q := (RX7, TX7, 14)) (As := [.int (nI (fr a))]) (rest := []) F (c_X7_ends l D cA m0 m1 m2 m3 m4 m5 m6 m7 m8 m9 yl ik tl sp rd (updN (updN M (22 + (fr a)) 1) (30 + 32 * (fr a) + 0) ((2 * k) + 1)) K2_25 yh (nI (fr a)) (by omega)) (cwV 1 hts gX7_cutDoll_X7_ends rfl rfl rfl ydv_X7_ends ⟨Nat.le_of_ble_eq_true rfl, Nat.le_of_ble_eq_true rfl⟩) hK hR hP hD hA hS [2, 0, 1, 3] [0, 1, 3] rfl rfl rfl 0 7 rfl rfl (fun _ => rfl) rfl hl.1 rfl (Nat.le_of_ble_eq_true rfl) dX7_cutDoll_59 ⟨Nat.zero_le _, Nat.zero_le _⟩ (fun r_59 u_59 H locs hw hP hD hS => ?_)
        obtain ⟨y2_59, M2_59, yh2_59⟩ := u_59
        have hP : va_P D vwCl [(m0, .inr (7, [.ref m1, .ref m2, .ref m3, .int (nI y2_59), .ref m4, .int (nI ik), .ref m5, .ref m6, .int (nI tl), .int (nI sp), .int (nI rd), .ref m7, .ref m8, .ref m9])), (m1, .inl (cA, 286, .inl (nF M2_59))), (m2, .inl (cA, 286, .inl (nF K2_25))), (m3, .inl (cA, 1144, .inl (nF yh2_59)))] H := hP
        have hD : va_D A [(m0, .inr (7, [.ref m1, .ref m2, .ref m3, .int (nI y2_59), .ref m4, .int (nI ik), .ref m5, .ref m6, .int (nI tl), .int (nI sp), .int (nI rd), .ref m7, .ref m8, .ref m9])), (m1, .inl (cA, 286, .inl (nF M2_59))), (m2, .inl (cA, 286, .inl (nF K2_25))), (m3, .inl (cA, 1144, .inl (nF yh2_59)))] := hD
        obtain ⟨hr_59, hw_59⟩ : r_59 = nI (fr a) ∧ ((0 ≤ (nI (fr a)) → M2_59 = (updN (updN M (22 + (fr a)) 1) (30 + 32 * (fr a) + 0) ((2 * k) + 1)) ∧ y2_59 = hisT yl + 1 ∧ RecM yh K2_25 yl yh2_59) ∧ (¬ 0 ≤ (nI (fr a)) → (∀ j, j < 286 → M2_59 j = K2_25 j) ∧ y2_59 = yl ∧ yh2_59 = yh)) := hw
        subst hr_59
        have hE : aCut a (nI k) b = (nI (fr a), some (updN (updN a (30 + fr a * 32 + 0) (2 * k + b2n b)) (22 + fr a) 1)) := by first | (simp only [aCut, hcx]; simp [c_5, c_18, c_45, Nat.ne_of_lt hf8]; done) | (simp only [aCut, hcx]; simp [c_5, c_18, c_45, Nat.ne_of_lt hf8]; omega)
        refine tope (y := (aCut a (nI k) b).1) (by rw [hE]) ?_
        exact RET _ _ _ _ _ (y2_59, M2_59, K2_25, yh2_59) dX7_cutDoll_62 rfl ⟨rfl, (by rw [hE]; exact ends_yes (by rw [c_45]; exact Rl_cut hM hV.1 hf8) hw_25 (hw_59.1 (nI_pos' (by omega))))⟩ hP hS
  · refine lv_iconst (v := -1) hx hb dX7_cutDoll_8 (by decide) ?_
    have hE : aCut a x b = ((-1), none) := by first | (simp only [aCut]; simp [c_5]; done) | (simp only [aCut]; simp [c_5]; omega)
    refine tope (y := (aCut a x b).1) (by rw [hE]) ?_
    exact RET _ _ _ _ _ (yl, M, K, yh) dX7_cutDoll_9 rfl ⟨rfl, (by rw [hE]; exact ⟨rfl, rfl, hM⟩)⟩ hP hS
abbrev rm_X7_join : Room := { frames := 2, cells := 0, slots := 0, locals := 46 }
theorem ydv_X7_join : yX7_join.cls = RX7 ∧ yX7_join.cls ≠ "java/lang/invoke/MethodHandle" ∧ yX7_join.cls ≠ "java/lang/invoke/VarHandle" ∧ (parseMethodDescriptor yX7_join.desc).map (fun d => d.parameters.length) = some 2 := by decide +kernel
theorem inf_X7_join_X7 : ∀ w ∈ wsX70, w ∈ wsX7_join := fun w h => List.mem_cons_of_mem _ (List.mem_append_right _ (h))
set_option maxHeartbeats 4000000 in
set_option maxRecDepth 100000 in
theorem c_X7_join (l : Launch) (D : va_G) (cA : ClassId) (m0 m1 m2 m3 m4 m5 m6 m7 m8 m9 yl ik tl sp rd : Nat) (a M K yh : Nat → Nat)  (x y : Int32) (hV : Vd a) (hM : Rl a M) (hyl : yl ≤ 4) : MI l D cA yX7_join wsX7_join rm_X7_join [.ref m0, .int x, .int y] [] [(m0, .inr (7, [.ref m1, .ref m2, .ref m3, .int (nI yl), .ref m4, .int (nI ik), .ref m5, .ref m6, .int (nI tl), .int (nI sp), .int (nI rd), .ref m7, .ref m8, .ref m9])), (m1, .inl (cA, 286, .inl (nF M))), (m2, .inl (cA, 286, .inl (nF K))), (m3, .inl (cA, 1144, .inl (nF yh)))] (S := (Nat) × (Nat → Nat) × (Nat → Nat) × (Nat → Nat)) (fun rr_ (uu_ : (Nat) × (Nat → Nat) × (Nat → Nat) × (Nat → Nat)) => rr_ = (aJoin a x y).1 ∧ (ActM a M yh yl (aJoin a x y).2 uu_.1 uu_.2.2.2 uu_.2.1)) (fun (uu_ : (Nat) × (Nat → Nat) × (Nat → Nat) × (Nat → Nat)) => [(m0, .inr (7, [.ref m1, .ref m2, .ref m3, .int (nI uu_.1), .ref m4, .int (nI ik), .ref m5, .ref m6, .int (nI tl), .int (nI sp), .int (nI rd), .ref m7, .ref m8, .ref m9])), (m1, .inl (cA, 286, .inl (nF uu_.2.1))), (m2, .inl (cA, 286, .inl (nF uu_.2.2.1))), (m3, .inl (cA, 1144, .inl (nF uu_.2.2.2)))]) := by
  refine ofWi (cc := cX7_join) (maxL := 4) (rt := .int) (by decide) rfl (Nat.le_of_ble_eq_true rfl) ?_
  intro p e s m args below meth c Q A ls F hK hR hP hD hA hS hl RET
  obtain ⟨hx, hb, hml, hown, hts⟩ := id F
  have hl : lv_has ls 4 [(0, .ref m0), (1, .int x), (2, .int y)] := hl
  refine lv_aload_n hx hb dX7_join_0 rfl (lv_at hl 0 rfl) ?_
  refine lv_iload_n hx hb dX7_join_1 rfl (lv_at hl 1 rfl) ?_
  refine call_r (q := (RX7, TX7, 14)) (As := [.int x]) (rest := []) F (c_X7_isGarland l D cA m0 m1 ([.ref m2, .ref m3, .int (nI yl), .ref m4, .int (nI ik), .ref m5, .ref m6, .int (nI tl), .int (nI sp), .int (nI rd), .ref m7, .ref m8, .ref m9]) a M x (hV) (hM)) (cwV 1 hts gX7_join_X7_isGarland rfl rfl rfl ydv_X7_isGarland ⟨Nat.le_of_ble_eq_true rfl, Nat.le_of_ble_eq_true rfl⟩) hK hR hP hD hA hS [0, 1] rfl rfl 0 7 rfl rfl rfl hl.1 rfl (Nat.le_of_ble_eq_true rfl) dX7_join_2 ⟨Nat.zero_le _, Nat.zero_le _⟩ (fun H locs hP hS => ?_)
  refine bv_if_eq (tgt := 16) hx hb dX7_join_5 (by decide) (fun c_5 => ?_) (fun c_5 => ?_)
  · refine lv_iconst (v := -1) hx hb dX7_join_16 (by decide) ?_
    have hE : aJoin a x y = ((-1), none) := by first | (simp only [aJoin]; simp [c_5]; done) | (simp only [aJoin]; simp [c_5]; omega)
    refine tope (y := (aJoin a x y).1) (by rw [hE]) ?_
    exact RET _ _ _ _ _ (yl, M, K, yh) dX7_join_17 rfl ⟨rfl, (by rw [hE]; exact ⟨rfl, rfl, hM⟩)⟩ hP hS
  · obtain ⟨g, hg, rfl, hg0⟩ := inG_t c_5
    have hcx : cN (nI g) = g := cN_nI (by omega)
    refine lv_aload_n hx hb dX7_join_8 rfl (lv_at hl 0 rfl) ?_
    refine lv_iload_n hx hb dX7_join_9 rfl (lv_at hl 2 rfl) ?_
    refine call_r (q := (RX7, TX7, 14)) (As := [.int y]) (rest := []) F (c_X7_isGarland l D cA m0 m1 ([.ref m2, .ref m3, .int (nI yl), .ref m4, .int (nI ik), .ref m5, .ref m6, .int (nI tl), .int (nI sp), .int (nI rd), .ref m7, .ref m8, .ref m9]) a M y (hV) (hM)) (cwV 1 hts gX7_join_X7_isGarland rfl rfl rfl ydv_X7_isGarland ⟨Nat.le_of_ble_eq_true rfl, Nat.le_of_ble_eq_true rfl⟩) hK hR hP hD hA hS [0, 1] rfl rfl 0 7 rfl rfl rfl hl.1 rfl (Nat.le_of_ble_eq_true rfl) dX7_join_10 ⟨Nat.zero_le _, Nat.zero_le _⟩ (fun H locs hP hS => ?_)
    refine bv_if_ne (tgt := 18) hx hb dX7_join_13 (by decide) (fun c_13 => ?_) (fun c_13 => ?_)
    · obtain ⟨o_, ho_, rfl, ho0⟩ := inG_t c_13
      have hcy : cN (nI o_) = o_ := cN_nI (by omega)
      have hl1 := hV.l hg
      have hl2 := hV.l ho_
      have hd1 := hV.d (q := ln a g - 1) hg (by omega)
      have hd2 := hV.d (q := 0) ho_ (by omega)
      refine lv_iload_n hx hb dX7_join_18 rfl (lv_at hl 1 rfl) ?_
      refine lv_iload_n hx hb dX7_join_19 rfl (lv_at hl 2 rfl) ?_
      refine nv_icmp_ne (tgt := 26) hx hb dX7_join_20 (by decide) (by omega) (by omega) (fun c_20 => ?_) (fun c_20 => ?_)
      · refine lv_aload_n hx hb dX7_join_26 rfl (lv_at hl 0 rfl) ?_
        refine lv_aload_n hx hb dX7_join_27 rfl (lv_at hl 0 rfl) ?_
        refine lv_iload_n hx hb dX7_join_28 rfl (lv_at hl 1 rfl) ?_
        refine call_r (q := (RX7, TX7, 14)) (As := [.int (nI g)]) (rest := [.ref m0]) F (c_X7_last l D cA m0 m1 ([.ref m2, .ref m3, .int (nI yl), .ref m4, .int (nI ik), .ref m5, .ref m6, .int (nI tl), .int (nI sp), .int (nI rd), .ref m7, .ref m8, .ref m9]) a M g (hV) (hM) (by omega) (by omega)) (cwV 1 hts gX7_join_X7_last rfl rfl rfl ydv_X7_last ⟨Nat.le_of_ble_eq_true rfl, Nat.le_of_ble_eq_true rfl⟩) hK hR hP hD hA hS [0, 1] rfl rfl 0 7 rfl rfl rfl hl.1 rfl (Nat.le_of_ble_eq_true rfl) dX7_join_29 ⟨Nat.zero_le _, Nat.zero_le _⟩ (fun H locs hP hS => ?_)
        refine lv_aload_n hx hb dX7_join_32 rfl (lv_at hl 0 rfl) ?_
        refine lv_iload_n hx hb dX7_join_33 rfl (lv_at hl 2 rfl) ?_
        refine lv_iconst (v := nI 0) hx hb dX7_join_34 (by decide) ?_
        refine call_r (q := (RX7, TX7, 14)) (As := [.int (nI o_), .int (nI 0)]) (rest := [.int (nI (dl a g (ln a g - 1))), .ref m0]) F (c_X7_dollAt l D cA m0 m1 ([.ref m2, .ref m3, .int (nI yl), .ref m4, .int (nI ik), .ref m5, .ref m6, .int (nI tl), .int (nI sp), .int (nI rd), .ref m7, .ref m8, .ref m9]) a M o_ 0 (hV) (hM) (by omega) (by omega)) (cwV 2 hts gX7_join_X7_dollAt rfl rfl rfl ydv_X7_dollAt ⟨Nat.le_of_ble_eq_true rfl, Nat.le_of_ble_eq_true rfl⟩) hK hR hP hD hA hS [0, 1] rfl rfl 0 7 rfl rfl rfl hl.1 rfl (Nat.le_of_ble_eq_true rfl) dX7_join_35 ⟨Nat.zero_le _, Nat.zero_le _⟩ (fun H locs hP hS => ?_)
        refine call_r (q := (RX7, TX7, 14)) (As := [.int (nI (dl a g (ln a g - 1))), .int (nI (dl a o_ 0))]) (rest := []) F (c_X7_clash l D cA m0 m1 ([.ref m2, .ref m3, .int (nI yl), .ref m4, .int (nI ik), .ref m5, .ref m6, .int (nI tl), .int (nI sp), .int (nI rd), .ref m7, .ref m8, .ref m9]) a M (dl a g (ln a g - 1)) (dl a o_ 0) (hV) (hM) (by omega) (by omega)) (cwV 2 hts gX7_join_X7_clash rfl rfl rfl ydv_X7_clash ⟨Nat.le_of_ble_eq_true rfl, Nat.le_of_ble_eq_true rfl⟩) hK hR hP hD hA hS [0, 1] rfl rfl 0 7 rfl rfl rfl hl.1 rfl (Nat.le_of_ble_eq_true rfl) dX7_join_38 ⟨Nat.zero_le _, Nat.zero_le _⟩ (fun H locs hP hS => ?_)
        refine bv_if_eq (tgt := 47) hx hb dX7_join_41 (by decide) (fun c_41 => ?_) (fun c_41 => ?_)
        · refine lv_aload_n hx hb dX7_join_47 rfl (lv_at hl 0 rfl) ?_
          refine va_get (D := D) (cl := vwCl) (ci := 7) (v := .ref m1) (C := RX7) (T := TX7) (N := 14) hx hb hts inf_X7_join_X7 hown hK.1 hP 0 rfl rfl 0 (by decide) (hts _ (List.mem_of_getElem? (i := 1) rfl)) (fun _ h9 => h9) rfl dX7_join_48 ?_
          refine lv_bipush (v := nI 22) hx hb dX7_join_51 (by decide) ?_
          refine lv_iload_n hx hb dX7_join_53 rfl (lv_at hl 1 rfl) ?_
          refine nv_iadd hx hb dX7_join_54 ?_
          refine nv_iald (a := M) hx hb hK hP 1 rfl (by omega) (by decide) dX7_join_55 ?_
          refine tope (y := nI (ln a g)) (congrArg nI (hM.l (by omega))) ?_
          refine lv_aload_n hx hb dX7_join_56 rfl (lv_at hl 0 rfl) ?_
          refine va_get (D := D) (cl := vwCl) (ci := 7) (v := .ref m1) (C := RX7) (T := TX7) (N := 14) hx hb hts inf_X7_join_X7 hown hK.1 hP 0 rfl rfl 0 (by decide) (hts _ (List.mem_of_getElem? (i := 1) rfl)) (fun _ h9 => h9) rfl dX7_join_57 ?_
          refine lv_bipush (v := nI 22) hx hb dX7_join_60 (by decide) ?_
          refine lv_iload_n hx hb dX7_join_62 rfl (lv_at hl 2 rfl) ?_
          refine nv_iadd hx hb dX7_join_63 ?_
          refine nv_iald (a := M) hx hb hK hP 1 rfl (by omega) (by decide) dX7_join_64 ?_
          refine tope (y := nI (ln a o_)) (congrArg nI (hM.l (by omega))) ?_
          refine nv_iadd hx hb dX7_join_65 ?_
          refine lv_bipush (v := nI 32) hx hb dX7_join_66 (by decide) ?_
          refine nv_icmp_le (tgt := 74) hx hb dX7_join_68 (by decide) (by omega) (by decide) (fun c_68 => ?_) (fun c_68 => ?_)
          · refine lv_aload_n hx hb dX7_join_74 rfl (lv_at hl 0 rfl) ?_
            refine call_v (q := (RX7, TX7, 14)) (As := []) (rest := []) F (c_X7_keeps l D cA m0 m1 m2 ([.ref m3, .int (nI yl), .ref m4, .int (nI ik), .ref m5, .ref m6, .int (nI tl), .int (nI sp), .int (nI rd), .ref m7, .ref m8, .ref m9]) M K) (cwV 0 hts gX7_join_X7_keeps rfl rfl rfl ydv_X7_keeps ⟨Nat.le_of_ble_eq_true rfl, Nat.le_of_ble_eq_true rfl⟩) hK hR hP hD hA hS [0, 1, 2] [2] rfl rfl rfl 0 7 rfl rfl (fun _ => rfl) rfl hl.1 rfl (Nat.le_of_ble_eq_true rfl) dX7_join_75 ⟨Nat.zero_le _, Nat.zero_le _⟩ (fun u_75 H locs hw hP hD hS => ?_)
            obtain ⟨K2_75, rfl⟩ : ∃ z, z = u_75 := ⟨_, rfl⟩
            have hP : va_P D vwCl [(m0, .inr (7, [.ref m1, .ref m2, .ref m3, .int (nI yl), .ref m4, .int (nI ik), .ref m5, .ref m6, .int (nI tl), .int (nI sp), .int (nI rd), .ref m7, .ref m8, .ref m9])), (m1, .inl (cA, 286, .inl (nF M))), (m2, .inl (cA, 286, .inl (nF K2_75))), (m3, .inl (cA, 1144, .inl (nF yh)))] H := hP
            have hD : va_D A [(m0, .inr (7, [.ref m1, .ref m2, .ref m3, .int (nI yl), .ref m4, .int (nI ik), .ref m5, .ref m6, .int (nI tl), .int (nI sp), .int (nI rd), .ref m7, .ref m8, .ref m9])), (m1, .inl (cA, 286, .inl (nF M))), (m2, .inl (cA, 286, .inl (nF K2_75))), (m3, .inl (cA, 1144, .inl (nF yh)))] := hD
            have hw_75 : ∀ j, j < 286 → K2_75 j = M j := hw
            refine lv_iconst (v := nI 0) hx hb dX7_join_78 (by decide) ?_
            refine lv_istore_n (lv' := [(3, .int (nI 0)), (0, .ref m0), (1, .int (nI g)), (2, .int (nI o_))]) hx hb dX7_join_79 rfl hl (by decide) rfl (fun ls hl => ?_)
            have LP_80 : ∀ (k_80 : Nat) (i : Nat) (M3 : Nat → Nat) (H : Heap) (locs : List Loc) (ls : Array Slot), ln a o_ - i = k_80 → (i ≤ ln a o_) → (∀ j, M3 j = if 30 + 32 * g + ln a g ≤ j ∧ j < 30 + 32 * g + ln a g + i then dl a o_ (j - (30 + 32 * g + ln a g)) else M j) → va_P D vwCl [(m0, .inr (7, [.ref m1, .ref m2, .ref m3, .int (nI yl), .ref m4, .int (nI ik), .ref m5, .ref m6, .int (nI tl), .int (nI sp), .int (nI rd), .ref m7, .ref m8, .ref m9])), (m1, .inl (cA, 286, .inl (nF M3))), (m2, .inl (cA, 286, .inl (nF K2_75))), (m3, .inl (cA, 1144, .inl (nF yh)))] H → va_D A [(m0, .inr (7, [.ref m1, .ref m2, .ref m3, .int (nI yl), .ref m4, .int (nI ik), .ref m5, .ref m6, .int (nI tl), .int (nI sp), .int (nI rd), .ref m7, .ref m8, .ref m9])), (m1, .inl (cA, 286, .inl (nF M3))), (m2, .inl (cA, 286, .inl (nF K2_75))), (m3, .inl (cA, 1144, .inl (nF yh)))] → va_S A s.heap H locs → lv_has ls 4 [(0, .ref m0), (1, .int (nI g)), (2, .int (nI o_)), (3, .int (nI i))] → W p l e rm_X7_join s m args below meth c H locs 0 0 Q (F0 m 80 ls []) := by
              refine sind (fun k_80 ih_80 => ?_)
              intro i M3 H locs ls hk_80 hi hm3_ hP hD hS hl
              refine lv_iload_n hx hb dX7_join_80 rfl (lv_at hl 3 rfl) ?_
              refine lv_aload_n hx hb dX7_join_81 rfl (lv_at hl 0 rfl) ?_
              refine va_get (D := D) (cl := vwCl) (ci := 7) (v := .ref m1) (C := RX7) (T := TX7) (N := 14) hx hb hts inf_X7_join_X7 hown hK.1 hP 0 rfl rfl 0 (by decide) (hts _ (List.mem_of_getElem? (i := 1) rfl)) (fun _ h9 => h9) rfl dX7_join_82 ?_
              refine lv_bipush (v := nI 22) hx hb dX7_join_85 (by decide) ?_
              refine lv_iload_n hx hb dX7_join_87 rfl (lv_at hl 2 rfl) ?_
              refine nv_iadd hx hb dX7_join_88 ?_
              refine nv_iald (a := M3) hx hb hK hP 1 rfl (by omega) (by decide) dX7_join_89 ?_
              refine tope (y := nI (ln a o_)) (congrArg nI (by rw [hm3_, if_neg (by omega)]; exact hM.l ho_)) ?_
              refine nv_icmp_ge (tgt := 121) hx hb dX7_join_90 (by decide) (by omega) (by omega) (fun c_90 => ?_) (fun c_90 => ?_)
              · refine lv_aload_n hx hb dX7_join_121 rfl (lv_at hl 0 rfl) ?_
                refine va_get (D := D) (cl := vwCl) (ci := 7) (v := .ref m1) (C := RX7) (T := TX7) (N := 14) hx hb hts inf_X7_join_X7 hown hK.1 hP 0 rfl rfl 0 (by decide) (hts _ (List.mem_of_getElem? (i := 1) rfl)) (fun _ h9 => h9) rfl dX7_join_122 ?_
                refine lv_bipush (v := nI 22) hx hb dX7_join_125 (by decide) ?_
                refine lv_iload_n hx hb dX7_join_127 rfl (lv_at hl 1 rfl) ?_
                refine nv_iadd hx hb dX7_join_128 ?_
                refine lv_dup2_11 hx hb dX7_join_129 rfl rfl ?_
                refine nv_iald (a := M3) hx hb hK hP 1 rfl (by omega) (by decide) dX7_join_130 ?_
                refine tope (y := nI (ln a g)) (congrArg nI (by rw [hm3_, if_neg (by omega)]; exact hM.l hg)) ?_
                refine lv_aload_n hx hb dX7_join_131 rfl (lv_at hl 0 rfl) ?_
                refine va_get (D := D) (cl := vwCl) (ci := 7) (v := .ref m1) (C := RX7) (T := TX7) (N := 14) hx hb hts inf_X7_join_X7 hown hK.1 hP 0 rfl rfl 0 (by decide) (hts _ (List.mem_of_getElem? (i := 1) rfl)) (fun _ h9 => h9) rfl dX7_join_132 ?_
                refine lv_bipush (v := nI 22) hx hb dX7_join_135 (by decide) ?_
                refine lv_iload_n hx hb dX7_join_137 rfl (lv_at hl 2 rfl) ?_
                refine nv_iadd hx hb dX7_join_138 ?_
                refine nv_iald (a := M3) hx hb hK hP 1 rfl (by omega) (by decide) dX7_join_139 ?_
                refine tope (y := nI (ln a o_)) (congrArg nI (by rw [hm3_, if_neg (by omega)]; exact hM.l ho_)) ?_
                refine nv_iadd hx hb dX7_join_140 ?_
                refine nv_iast (a := M3) (v := ((ln a g) + (ln a o_))) hx hb hK hP hD hS 1 rfl (by omega) (by decide) dX7_join_141 (fun H locs hP hD hS => ?_)
                have hP : va_P D vwCl [(m0, .inr (7, [.ref m1, .ref m2, .ref m3, .int (nI yl), .ref m4, .int (nI ik), .ref m5, .ref m6, .int (nI tl), .int (nI sp), .int (nI rd), .ref m7, .ref m8, .ref m9])), (m1, .inl (cA, 286, .inl (nF (updN M3 (22 + g) ((ln a g) + (ln a o_)))))), (m2, .inl (cA, 286, .inl (nF K2_75))), (m3, .inl (cA, 1144, .inl (nF yh)))] H := hP
                have hD : va_D A [(m0, .inr (7, [.ref m1, .ref m2, .ref m3, .int (nI yl), .ref m4, .int (nI ik), .ref m5, .ref m6, .int (nI tl), .int (nI sp), .int (nI rd), .ref m7, .ref m8, .ref m9])), (m1, .inl (cA, 286, .inl (nF (updN M3 (22 + g) ((ln a g) + (ln a o_)))))), (m2, .inl (cA, 286, .inl (nF K2_75))), (m3, .inl (cA, 1144, .inl (nF yh)))] := hD
                refine lv_aload_n hx hb dX7_join_142 rfl (lv_at hl 0 rfl) ?_
                refine lv_iload_n hx hb dX7_join_143 rfl (lv_at hl 2 rfl) ?_
                refine call_v (q := (RX7, TX7, 14)) (As := [.int (nI o_)]) (rest := []) F (c_X7_takes l D cA m0 m1 ([.ref m2, .ref m3, .int (nI yl), .ref m4, .int (nI ik), .ref m5, .ref m6, .int (nI tl), .int (nI sp), .int (nI rd), .ref m7, .ref m8, .ref m9]) (updN M3 (22 + g) ((ln a g) + (ln a o_))) o_ (by omega)) (cwV 1 hts gX7_join_X7_takes rfl rfl rfl ydv_X7_takes ⟨Nat.le_of_ble_eq_true rfl, Nat.le_of_ble_eq_true rfl⟩) hK hR hP hD hA hS [0, 1] [1] rfl rfl rfl 0 7 rfl rfl (fun _ => rfl) rfl hl.1 rfl (Nat.le_of_ble_eq_true rfl) dX7_join_144 ⟨Nat.zero_le _, Nat.zero_le _⟩ (fun u_144 H locs hw hP hD hS => ?_)
                obtain ⟨M2_144, rfl⟩ : ∃ z, z = u_144 := ⟨_, rfl⟩
                have hP : va_P D vwCl [(m0, .inr (7, [.ref m1, .ref m2, .ref m3, .int (nI yl), .ref m4, .int (nI ik), .ref m5, .ref m6, .int (nI tl), .int (nI sp), .int (nI rd), .ref m7, .ref m8, .ref m9])), (m1, .inl (cA, 286, .inl (nF M2_144))), (m2, .inl (cA, 286, .inl (nF K2_75))), (m3, .inl (cA, 1144, .inl (nF yh)))] H := hP
                have hD : va_D A [(m0, .inr (7, [.ref m1, .ref m2, .ref m3, .int (nI yl), .ref m4, .int (nI ik), .ref m5, .ref m6, .int (nI tl), .int (nI sp), .int (nI rd), .ref m7, .ref m8, .ref m9])), (m1, .inl (cA, 286, .inl (nF M2_144))), (m2, .inl (cA, 286, .inl (nF K2_75))), (m3, .inl (cA, 1144, .inl (nF yh)))] := hD
                have hw_144 : ∀ j, M2_144 j = if j = 22 + o_ ∨ (30 + 32 * o_ ≤ j ∧ j < 30 + 32 * o_ + 32) then 0 else (updN M3 (22 + g) ((ln a g) + (ln a o_))) j := hw
                refine lv_aload_n hx hb dX7_join_147 rfl (lv_at hl 0 rfl) ?_
                refine lv_aload_n hx hb dX7_join_148 rfl (lv_at hl 0 rfl) ?_
                refine va_get (D := D) (cl := vwCl) (ci := 7) (v := .ref m1) (C := RX7) (T := TX7) (N := 14) hx hb hts inf_X7_join_X7 hown hK.1 hP 0 rfl rfl 0 (by decide) (hts _ (List.mem_of_getElem? (i := 1) rfl)) (fun _ h9 => h9) rfl dX7_join_149 ?_
                refine lv_bipush (v := nI 22) hx hb dX7_join_152 (by decide) ?_
                refine lv_iload_n hx hb dX7_join_154 rfl (lv_at hl 1 rfl) ?_
                refine nv_iadd hx hb dX7_join_155 ?_
                refine nv_iald (a := M2_144) hx hb hK hP 1 rfl (by omega) (by decide) dX7_join_156 ?_
                refine tope (y := nI (ln a g + ln a o_)) (congrArg nI (by rw [hw_144, if_neg (by omega), updN_s])) ?_
                refine call_i (q := (RX7, TX7, 14)) (As := [.int (nI (ln a g + ln a o_))]) (rest := []) F (c_X7_ends l D cA m0 m1 m2 m3 m4 m5 m6 m7 m8 m9 yl ik tl sp rd M2_144 K2_75 yh (nI (ln a g + ln a o_)) (by omega)) (cwV 1 hts gX7_join_X7_ends rfl rfl rfl ydv_X7_ends ⟨Nat.le_of_ble_eq_true rfl, Nat.le_of_ble_eq_true rfl⟩) hK hR hP hD hA hS [2, 0, 1, 3] [0, 1, 3] rfl rfl rfl 0 7 rfl rfl (fun _ => rfl) rfl hl.1 rfl (Nat.le_of_ble_eq_true rfl) dX7_join_157 ⟨Nat.zero_le _, Nat.zero_le _⟩ (fun r_157 u_157 H locs hw hP hD hS => ?_)
                obtain ⟨y2_157, M2_157, yh2_157⟩ := u_157
                have hP : va_P D vwCl [(m0, .inr (7, [.ref m1, .ref m2, .ref m3, .int (nI y2_157), .ref m4, .int (nI ik), .ref m5, .ref m6, .int (nI tl), .int (nI sp), .int (nI rd), .ref m7, .ref m8, .ref m9])), (m1, .inl (cA, 286, .inl (nF M2_157))), (m2, .inl (cA, 286, .inl (nF K2_75))), (m3, .inl (cA, 1144, .inl (nF yh2_157)))] H := hP
                have hD : va_D A [(m0, .inr (7, [.ref m1, .ref m2, .ref m3, .int (nI y2_157), .ref m4, .int (nI ik), .ref m5, .ref m6, .int (nI tl), .int (nI sp), .int (nI rd), .ref m7, .ref m8, .ref m9])), (m1, .inl (cA, 286, .inl (nF M2_157))), (m2, .inl (cA, 286, .inl (nF K2_75))), (m3, .inl (cA, 1144, .inl (nF yh2_157)))] := hD
                obtain ⟨hr_157, hw_157⟩ : r_157 = nI (ln a g + ln a o_) ∧ ((0 ≤ (nI (ln a g + ln a o_)) → M2_157 = M2_144 ∧ y2_157 = hisT yl + 1 ∧ RecM yh K2_75 yl yh2_157) ∧ (¬ 0 ≤ (nI (ln a g + ln a o_)) → (∀ j, j < 286 → M2_157 j = K2_75 j) ∧ y2_157 = yl ∧ yh2_157 = yh)) := hw
                subst hr_157
                have hE : aJoin a (nI g) (nI o_) = (nI (ln a g + ln a o_), some (updN (updN (cpyN a a (30 + o_ * 32 + 0) (30 + g * 32 + ln a g) (ln a g + ln a o_ - ln a g)) (22 + g) (ln a g + ln a o_)) (22 + o_) 0)) := by first | (simp only [aJoin, hcx, hcy]; simp [c_5, c_13, c_20, c_41, c_68, c_90]; done) | (simp only [aJoin, hcx, hcy]; simp [c_5, c_13, c_20, c_41, c_68, c_90]; omega)
                refine tope (y := (aJoin a (nI g) (nI o_)).1) (by rw [hE]) ?_
                exact RET _ _ _ _ _ (y2_157, M2_157, K2_75, yh2_157) dX7_join_160 rfl ⟨rfl, (by rw [hE]; exact ends_yes (Rl_join hM hV.1 hg ho_ c_20 c_68 (fun j => by have hi_ : i = ln a o_ := (by omega); rw [hw_144 j]; by_cases e1_ : j = 22 + o_ ∨ (30 + 32 * o_ ≤ j ∧ j < 30 + 32 * o_ + 32); (rw [if_pos e1_, if_pos e1_]); (rw [if_neg e1_, if_neg e1_]; simp only [updN]; by_cases e2_ : j = 22 + g; (rw [if_pos e2_, if_pos e2_]); (rw [if_neg e2_, if_neg e2_, hm3_, hi_])))) hw_75 (hw_157.1 (nI_pos' (by omega))))⟩ hP hS
              · refine lv_aload_n hx hb dX7_join_93 rfl (lv_at hl 0 rfl) ?_
                refine lv_iload_n hx hb dX7_join_94 rfl (lv_at hl 1 rfl) ?_
                refine lv_aload_n hx hb dX7_join_95 rfl (lv_at hl 0 rfl) ?_
                refine va_get (D := D) (cl := vwCl) (ci := 7) (v := .ref m1) (C := RX7) (T := TX7) (N := 14) hx hb hts inf_X7_join_X7 hown hK.1 hP 0 rfl rfl 0 (by decide) (hts _ (List.mem_of_getElem? (i := 1) rfl)) (fun _ h9 => h9) rfl dX7_join_96 ?_
                refine lv_bipush (v := nI 22) hx hb dX7_join_99 (by decide) ?_
                refine lv_iload_n hx hb dX7_join_101 rfl (lv_at hl 1 rfl) ?_
                refine nv_iadd hx hb dX7_join_102 ?_
                refine nv_iald (a := M3) hx hb hK hP 1 rfl (by omega) (by decide) dX7_join_103 ?_
                refine tope (y := nI (ln a g)) (congrArg nI (by rw [hm3_, if_neg (by omega)]; exact hM.l hg)) ?_
                refine lv_iload_n hx hb dX7_join_104 rfl (lv_at hl 3 rfl) ?_
                refine nv_iadd hx hb dX7_join_105 ?_
                refine lv_aload_n hx hb dX7_join_106 rfl (lv_at hl 0 rfl) ?_
                refine lv_iload_n hx hb dX7_join_107 rfl (lv_at hl 2 rfl) ?_
                refine lv_iload_n hx hb dX7_join_108 rfl (lv_at hl 3 rfl) ?_
                refine call_r (q := (RX7, TX7, 14)) (As := [.int (nI o_), .int (nI i)]) (rest := [.int (nI ((ln a g) + i)), .int (nI g), .ref m0]) F (c_X7_dollAtR l D cA m0 m1 ([.ref m2, .ref m3, .int (nI yl), .ref m4, .int (nI ik), .ref m5, .ref m6, .int (nI tl), .int (nI sp), .int (nI rd), .ref m7, .ref m8, .ref m9]) M3 o_ i (by omega) (by omega)) (cwV 2 hts gX7_join_X7_dollAt rfl rfl rfl ydv_X7_dollAt ⟨Nat.le_of_ble_eq_true rfl, Nat.le_of_ble_eq_true rfl⟩) hK hR hP hD hA hS [0, 1] rfl rfl 0 7 rfl rfl rfl hl.1 rfl (Nat.le_of_ble_eq_true rfl) dX7_join_109 ⟨Nat.zero_le _, Nat.zero_le _⟩ (fun H locs hP hS => ?_)
                refine tope (y := nI (dl a o_ i)) (congrArg nI (by rw [hm3_, if_neg (by omega)]; exact hM.d ho_ c_90)) ?_
                refine call_v (q := (RX7, TX7, 14)) (As := [.int (nI g), .int (nI ((ln a g) + i)), .int (nI (dl a o_ i))]) (rest := []) F (c_X7_lays l D cA m0 m1 ([.ref m2, .ref m3, .int (nI yl), .ref m4, .int (nI ik), .ref m5, .ref m6, .int (nI tl), .int (nI sp), .int (nI rd), .ref m7, .ref m8, .ref m9]) M3 g ((ln a g) + i) (dl a o_ i) (by omega) (by omega)) (cwV 3 hts gX7_join_X7_lays rfl rfl rfl ydv_X7_lays ⟨Nat.le_of_ble_eq_true rfl, Nat.le_of_ble_eq_true rfl⟩) hK hR hP hD hA hS [0, 1] [1] rfl rfl rfl 0 7 rfl rfl (fun _ => rfl) rfl hl.1 rfl (Nat.le_of_ble_eq_true rfl) dX7_join_112 ⟨Nat.zero_le _, Nat.zero_le _⟩ (fun u_112 H locs hw hP hD hS => ?_)
                have hP : va_P D vwCl [(m0, .inr (7, [.ref m1, .ref m2, .ref m3, .int (nI yl), .ref m4, .int (nI ik), .ref m5, .ref m6, .int (nI tl), .int (nI sp), .int (nI rd), .ref m7, .ref m8, .ref m9])), (m1, .inl (cA, 286, .inl (nF (updN M3 (30 + 32 * g + ((ln a g) + i)) (dl a o_ i))))), (m2, .inl (cA, 286, .inl (nF K2_75))), (m3, .inl (cA, 1144, .inl (nF yh)))] H := hP
                have hD : va_D A [(m0, .inr (7, [.ref m1, .ref m2, .ref m3, .int (nI yl), .ref m4, .int (nI ik), .ref m5, .ref m6, .int (nI tl), .int (nI sp), .int (nI rd), .ref m7, .ref m8, .ref m9])), (m1, .inl (cA, 286, .inl (nF (updN M3 (30 + 32 * g + ((ln a g) + i)) (dl a o_ i))))), (m2, .inl (cA, 286, .inl (nF K2_75))), (m3, .inl (cA, 1144, .inl (nF yh)))] := hD
                refine lv_iinc (v := nI (i + 1)) (lv' := [(3, .int (nI (i + 1))), (0, .ref m0), (1, .int (nI g)), (2, .int (nI o_))]) hx hb dX7_join_115 hl (k := 3) rfl (nI_add _ _) (by decide) rfl (fun ls hl => ?_)
                refine lv_goto (tgt := 80) hx hb dX7_join_118 (by decide) ?_
                exact ih_80 _ (by omega) (i + 1) (updN M3 (30 + 32 * g + ((ln a g) + i)) (dl a o_ i)) _ _ _ rfl (by omega) (fun j => by simp only [updN]; by_cases e_ : j = 30 + 32 * g + (ln a g + i); (rw [if_pos e_, if_pos (by omega), show j - (30 + 32 * g + ln a g) = i by omega]); (rw [if_neg e_, hm3_]; by_cases e2_ : 30 + 32 * g + ln a g ≤ j ∧ j < 30 + 32 * g + ln a g + i; (rw [if_pos e2_, if_pos (by omega)]); (rw [if_neg e2_, if_neg (by omega)]))) hP hD hS (lv_sub hl [1, 2, 3, 0] rfl)
            exact LP_80 _ 0 M _ _ _ rfl (by omega) (fun j => by rw [if_neg (by omega)]) hP hD hS (lv_sub hl [1, 2, 3, 0] rfl)
          · refine lv_bipush (v := -3) hx hb dX7_join_71 (by decide) ?_
            have hE : aJoin a (nI g) (nI o_) = ((-3), none) := by first | (simp only [aJoin, hcx, hcy]; simp [c_5, c_13, c_20, c_41, c_68]; done) | (simp only [aJoin, hcx, hcy]; simp [c_5, c_13, c_20, c_41, c_68]; omega)
            refine tope (y := (aJoin a (nI g) (nI o_)).1) (by rw [hE]) ?_
            exact RET _ _ _ _ _ (yl, M, K, yh) dX7_join_73 rfl ⟨rfl, (by rw [hE]; exact ⟨rfl, rfl, hM⟩)⟩ hP hS
        · refine lv_bipush (v := -4) hx hb dX7_join_44 (by decide) ?_
          have hE : aJoin a (nI g) (nI o_) = ((-4), none) := by first | (simp only [aJoin, hcx, hcy]; simp [c_5, c_13, c_20, c_41]; done) | (simp only [aJoin, hcx, hcy]; simp [c_5, c_13, c_20, c_41]; omega)
          refine tope (y := (aJoin a (nI g) (nI o_)).1) (by rw [hE]) ?_
          exact RET _ _ _ _ _ (yl, M, K, yh) dX7_join_46 rfl ⟨rfl, (by rw [hE]; exact ⟨rfl, rfl, hM⟩)⟩ hP hS
      · refine lv_bipush (v := -2) hx hb dX7_join_23 (by decide) ?_
        have hE : aJoin a (nI g) (nI o_) = ((-2), none) := by first | (simp only [aJoin, hcx, hcy]; simp [c_5, c_13, eq_true c_20]; done) | (simp only [aJoin, hcx, hcy]; simp [c_5, c_13, eq_true c_20]; omega)
        refine tope (y := (aJoin a (nI g) (nI o_)).1) (by rw [hE]) ?_
        exact RET _ _ _ _ _ (yl, M, K, yh) dX7_join_25 rfl ⟨rfl, (by rw [hE]; exact ⟨rfl, rfl, hM⟩)⟩ hP hS
    · refine lv_iconst (v := -1) hx hb dX7_join_16 (by decide) ?_
      have hE : aJoin a (nI g) y = ((-1), none) := by first | (simp only [aJoin, hcx]; simp [c_5, c_13]; done) | (simp only [aJoin, hcx]; simp [c_5, c_13]; omega)
      refine tope (y := (aJoin a (nI g) y).1) (by rw [hE]) ?_
      exact RET _ _ _ _ _ (yl, M, K, yh) dX7_join_17 rfl ⟨rfl, (by rw [hE]; exact ⟨rfl, rfl, hM⟩)⟩ hP hS
abbrev rm_X7_cutApart : Room := { frames := 2, cells := 0, slots := 0, locals := 46 }
theorem ydv_X7_cutApart : yX7_cutApart.cls = RX7 ∧ yX7_cutApart.cls ≠ "java/lang/invoke/MethodHandle" ∧ yX7_cutApart.cls ≠ "java/lang/invoke/VarHandle" ∧ (parseMethodDescriptor yX7_cutApart.desc).map (fun d => d.parameters.length) = some 2 := by decide +kernel
theorem inf_X7_cutApart_X7 : ∀ w ∈ wsX70, w ∈ wsX7_cutApart := fun w h => List.mem_cons_of_mem _ (List.mem_append_right _ (h))
set_option maxHeartbeats 4000000 in
set_option maxRecDepth 100000 in
theorem c_X7_cutApart (l : Launch) (D : va_G) (cA : ClassId) (m0 m1 m2 m3 m4 m5 m6 m7 m8 m9 yl ik tl sp rd : Nat) (a M K yh : Nat → Nat)  (x y : Int32) (hV : Vd a) (hM : Rl a M) (hyl : yl ≤ 4) : MI l D cA yX7_cutApart wsX7_cutApart rm_X7_cutApart [.ref m0, .int x, .int y] [] [(m0, .inr (7, [.ref m1, .ref m2, .ref m3, .int (nI yl), .ref m4, .int (nI ik), .ref m5, .ref m6, .int (nI tl), .int (nI sp), .int (nI rd), .ref m7, .ref m8, .ref m9])), (m1, .inl (cA, 286, .inl (nF M))), (m2, .inl (cA, 286, .inl (nF K))), (m3, .inl (cA, 1144, .inl (nF yh)))] (S := (Nat) × (Nat → Nat) × (Nat → Nat) × (Nat → Nat)) (fun rr_ (uu_ : (Nat) × (Nat → Nat) × (Nat → Nat) × (Nat → Nat)) => rr_ = (aApart a x y).1 ∧ (ActM a M yh yl (aApart a x y).2 uu_.1 uu_.2.2.2 uu_.2.1)) (fun (uu_ : (Nat) × (Nat → Nat) × (Nat → Nat) × (Nat → Nat)) => [(m0, .inr (7, [.ref m1, .ref m2, .ref m3, .int (nI uu_.1), .ref m4, .int (nI ik), .ref m5, .ref m6, .int (nI tl), .int (nI sp), .int (nI rd), .ref m7, .ref m8, .ref m9])), (m1, .inl (cA, 286, .inl (nF uu_.2.1))), (m2, .inl (cA, 286, .inl (nF uu_.2.2.1))), (m3, .inl (cA, 1144, .inl (nF uu_.2.2.2)))]) := by
  refine ofWi (cc := cX7_cutApart) (maxL := 5) (rt := .int) (by decide) rfl (Nat.le_of_ble_eq_true rfl) ?_
  intro p e s m args below meth c Q A ls F hK hR hP hD hA hS hl RET
  obtain ⟨hx, hb, hml, hown, hts⟩ := id F
  have hl : lv_has ls 5 [(0, .ref m0), (1, .int x), (2, .int y)] := hl
  refine lv_aload_n hx hb dX7_cutApart_0 rfl (lv_at hl 0 rfl) ?_
  refine lv_iload_n hx hb dX7_cutApart_1 rfl (lv_at hl 1 rfl) ?_
  refine call_r (q := (RX7, TX7, 14)) (As := [.int x]) (rest := []) F (c_X7_isGarland l D cA m0 m1 ([.ref m2, .ref m3, .int (nI yl), .ref m4, .int (nI ik), .ref m5, .ref m6, .int (nI tl), .int (nI sp), .int (nI rd), .ref m7, .ref m8, .ref m9]) a M x (hV) (hM)) (cwV 1 hts gX7_cutApart_X7_isGarland rfl rfl rfl ydv_X7_isGarland ⟨Nat.le_of_ble_eq_true rfl, Nat.le_of_ble_eq_true rfl⟩) hK hR hP hD hA hS [0, 1] rfl rfl 0 7 rfl rfl rfl hl.1 rfl (Nat.le_of_ble_eq_true rfl) dX7_cutApart_2 ⟨Nat.zero_le _, Nat.zero_le _⟩ (fun H locs hP hS => ?_)
  refine bv_if_ne (tgt := 10) hx hb dX7_cutApart_5 (by decide) (fun c_5 => ?_) (fun c_5 => ?_)
  · obtain ⟨g, hg, rfl, hg0⟩ := inG_t c_5
    have hcx : cN (nI g) = g := cN_nI (by omega)
    have hl1 := hV.l hg
    refine lv_iload_n hx hb dX7_cutApart_10 rfl (lv_at hl 2 rfl) ?_
    refine lv_i2l (v := (y).toInt64) hx hb dX7_cutApart_11 rfl ?_
    refine lv_lconst (v := lN 1) hx hb dX7_cutApart_12 rfl ?_
    refine lv_aload_n hx hb dX7_cutApart_13 rfl (lv_at hl 0 rfl) ?_
    refine va_get (D := D) (cl := vwCl) (ci := 7) (v := .ref m1) (C := RX7) (T := TX7) (N := 14) hx hb hts inf_X7_cutApart_X7 hown hK.1 hP 0 rfl rfl 0 (by decide) (hts _ (List.mem_of_getElem? (i := 1) rfl)) (fun _ h9 => h9) rfl dX7_cutApart_14 ?_
    refine lv_bipush (v := nI 22) hx hb dX7_cutApart_17 (by decide) ?_
    refine lv_iload_n hx hb dX7_cutApart_19 rfl (lv_at hl 1 rfl) ?_
    refine nv_iadd hx hb dX7_cutApart_20 ?_
    refine nv_iald (a := M) hx hb hK hP 1 rfl (by omega) (by decide) dX7_cutApart_21 ?_
    refine tope (y := nI (ln a g)) (congrArg nI (hM.l (by omega))) ?_
    refine lv_i2l (v := lN (ln a g)) hx hb dX7_cutApart_22 (nI_l (by omega)) ?_
    refine lv_lconst (v := lN 1) hx hb dX7_cutApart_23 rfl ?_
    refine lv_lsub hx hb dX7_cutApart_24 ?_
    rw [show lN (ln a g) - lN 1 = lN (ln a g - 1) from lN_sub (by omega)]
    refine call_s (As := [.long ((y).toInt64), .long (lN 1), .long (lN (ln a g - 1))]) (rest := []) F (c_X7_in l D cA ((y).toInt64) (lN 1) (lN (ln a g - 1))) (va_cwS 3 hts gX7_cutApart_X7_in rfl rfl rfl yd_X7_in ⟨Nat.le_of_ble_eq_true rfl, Nat.le_of_ble_eq_true rfl⟩) hK hR hP hD hA hS rfl hl.1 rfl (Nat.le_of_ble_eq_true rfl) dX7_cutApart_25 ⟨Nat.zero_le _, Nat.zero_le _⟩ (fun H locs hP hS => ?_)
    refine tope (y := bI (inR y 1 (ln a g - 1))) (congrArg bI (inL_R (by decide) (by omega))) ?_
    refine bv_if_ne (tgt := 34) hx hb dX7_cutApart_28 (by decide) (fun c_28 => ?_) (fun c_28 => ?_)
    · obtain ⟨q, hq1, hq2, rfl⟩ := inR_t (by omega) c_28
      have hcy : cN (nI q) = q := cN_nI (by omega)
      refine lv_aload_n hx hb dX7_cutApart_34 rfl (lv_at hl 0 rfl) ?_
      refine call_r (q := (RX7, TX7, 14)) (As := []) (rest := []) F (c_X7_freeNumber l D cA m0 m1 ([.ref m2, .ref m3, .int (nI yl), .ref m4, .int (nI ik), .ref m5, .ref m6, .int (nI tl), .int (nI sp), .int (nI rd), .ref m7, .ref m8, .ref m9]) a M (hV) (hM)) (cwV 0 hts gX7_cutApart_X7_freeNumber rfl rfl rfl ydv_X7_freeNumber ⟨Nat.le_of_ble_eq_true rfl, Nat.le_of_ble_eq_true rfl⟩) hK hR hP hD hA hS [0, 1] rfl rfl 0 7 rfl rfl rfl hl.1 rfl (Nat.le_of_ble_eq_true rfl) dX7_cutApart_35 ⟨Nat.zero_le _, Nat.zero_le _⟩ (fun H locs hP hS => ?_)
      rcases fr_c a with hf8 | hf8
      · refine tope (y := -5) (frM_8 hf8) ?_
        refine lv_istore_n (lv' := [(3, .int ((-5))), (0, .ref m0), (1, .int (nI g)), (2, .int (nI q))]) hx hb dX7_cutApart_38 rfl hl (by decide) rfl (fun ls hl => ?_)
        refine lv_iload_n hx hb dX7_cutApart_39 rfl (lv_at hl 0 rfl) ?_
        refine lv_bipush (v := -5) hx hb dX7_cutApart_40 (by decide) ?_
        refine lv_icmp_ne (tgt := 48) hx hb dX7_cutApart_42 (by decide) (fun c_42 => absurd c_42 ((fun h => h rfl))) (fun c_42 => ?_)
        refine lv_bipush (v := -3) hx hb dX7_cutApart_45 (by decide) ?_
        have hE : aApart a (nI g) (nI q) = ((-3), none) := by first | (simp only [aApart, hcx, hcy]; simp [c_5, c_28, c_42, hf8]; done) | (simp only [aApart, hcx, hcy]; simp [c_5, c_28, c_42, hf8]; omega)
        refine tope (y := (aApart a (nI g) (nI q)).1) (by rw [hE]) ?_
        exact RET _ _ _ _ _ (yl, M, K, yh) dX7_cutApart_47 rfl ⟨rfl, (by rw [hE]; exact ⟨rfl, rfl, hM⟩)⟩ hP hS
      · refine tope (y := nI (fr a)) (frM_n hf8) ?_
        refine lv_istore_n (lv' := [(3, .int (nI (fr a))), (0, .ref m0), (1, .int (nI g)), (2, .int (nI q))]) hx hb dX7_cutApart_38 rfl hl (by decide) rfl (fun ls hl => ?_)
        refine lv_iload_n hx hb dX7_cutApart_39 rfl (lv_at hl 0 rfl) ?_
        refine lv_bipush (v := -5) hx hb dX7_cutApart_40 (by decide) ?_
        refine lv_icmp_ne (tgt := 48) hx hb dX7_cutApart_42 (by decide) (fun c_42 => ?_) (fun c_42 => absurd c_42 ((nI_m5 (by omega))))
        have hgf_ : g ≠ fr a := fun e_ => by have := fr_ln hf8; rw [← e_] at this; omega
        refine lv_aload_n hx hb dX7_cutApart_48 rfl (lv_at hl 1 rfl) ?_
        refine call_v (q := (RX7, TX7, 14)) (As := []) (rest := []) F (c_X7_keeps l D cA m0 m1 m2 ([.ref m3, .int (nI yl), .ref m4, .int (nI ik), .ref m5, .ref m6, .int (nI tl), .int (nI sp), .int (nI rd), .ref m7, .ref m8, .ref m9]) M K) (cwV 0 hts gX7_cutApart_X7_keeps rfl rfl rfl ydv_X7_keeps ⟨Nat.le_of_ble_eq_true rfl, Nat.le_of_ble_eq_true rfl⟩) hK hR hP hD hA hS [0, 1, 2] [2] rfl rfl rfl 0 7 rfl rfl (fun _ => rfl) rfl hl.1 rfl (Nat.le_of_ble_eq_true rfl) dX7_cutApart_49 ⟨Nat.zero_le _, Nat.zero_le _⟩ (fun u_49 H locs hw hP hD hS => ?_)
        obtain ⟨K2_49, rfl⟩ : ∃ z, z = u_49 := ⟨_, rfl⟩
        have hP : va_P D vwCl [(m0, .inr (7, [.ref m1, .ref m2, .ref m3, .int (nI yl), .ref m4, .int (nI ik), .ref m5, .ref m6, .int (nI tl), .int (nI sp), .int (nI rd), .ref m7, .ref m8, .ref m9])), (m1, .inl (cA, 286, .inl (nF M))), (m2, .inl (cA, 286, .inl (nF K2_49))), (m3, .inl (cA, 1144, .inl (nF yh)))] H := hP
        have hD : va_D A [(m0, .inr (7, [.ref m1, .ref m2, .ref m3, .int (nI yl), .ref m4, .int (nI ik), .ref m5, .ref m6, .int (nI tl), .int (nI sp), .int (nI rd), .ref m7, .ref m8, .ref m9])), (m1, .inl (cA, 286, .inl (nF M))), (m2, .inl (cA, 286, .inl (nF K2_49))), (m3, .inl (cA, 1144, .inl (nF yh)))] := hD
        have hw_49 : ∀ j, j < 286 → K2_49 j = M j := hw
        refine lv_iload_n hx hb dX7_cutApart_52 rfl (lv_at hl 3 rfl) ?_
        refine lv_istore (lv' := [(4, .int (nI q)), (3, .int (nI (fr a))), (0, .ref m0), (1, .int (nI g)), (2, .int (nI q))]) hx hb dX7_cutApart_53 hl (by decide) rfl (fun ls hl => ?_)
        have LP_55 : ∀ (k_55 : Nat) (i : Nat) (M3 : Nat → Nat) (H : Heap) (locs : List Loc) (ls : Array Slot), ln a g - (q + i) = k_55 → (q + i ≤ ln a g) → (∀ j, M3 j = if 30 + 32 * g + q ≤ j ∧ j < 30 + 32 * g + q + i then 0 else if 30 + 32 * fr a ≤ j ∧ j < 30 + 32 * fr a + i then dl a g (j - (30 + 32 * fr a) + q) else M j) → va_P D vwCl [(m0, .inr (7, [.ref m1, .ref m2, .ref m3, .int (nI yl), .ref m4, .int (nI ik), .ref m5, .ref m6, .int (nI tl), .int (nI sp), .int (nI rd), .ref m7, .ref m8, .ref m9])), (m1, .inl (cA, 286, .inl (nF M3))), (m2, .inl (cA, 286, .inl (nF K2_49))), (m3, .inl (cA, 1144, .inl (nF yh)))] H → va_D A [(m0, .inr (7, [.ref m1, .ref m2, .ref m3, .int (nI yl), .ref m4, .int (nI ik), .ref m5, .ref m6, .int (nI tl), .int (nI sp), .int (nI rd), .ref m7, .ref m8, .ref m9])), (m1, .inl (cA, 286, .inl (nF M3))), (m2, .inl (cA, 286, .inl (nF K2_49))), (m3, .inl (cA, 1144, .inl (nF yh)))] → va_S A s.heap H locs → lv_has ls 5 [(0, .ref m0), (1, .int (nI g)), (2, .int (nI q)), (3, .int (nI (fr a))), (4, .int (nI (q + i)))] → W p l e rm_X7_cutApart s m args below meth c H locs 0 0 Q (F0 m 55 ls []) := by
          refine sind (fun k_55 ih_55 => ?_)
          intro i M3 H locs ls hk_55 hi hm3_ hP hD hS hl
          refine lv_iload hx hb dX7_cutApart_55 (lv_at hl 4 rfl) ?_
          refine lv_aload_n hx hb dX7_cutApart_57 rfl (lv_at hl 0 rfl) ?_
          refine va_get (D := D) (cl := vwCl) (ci := 7) (v := .ref m1) (C := RX7) (T := TX7) (N := 14) hx hb hts inf_X7_cutApart_X7 hown hK.1 hP 0 rfl rfl 0 (by decide) (hts _ (List.mem_of_getElem? (i := 1) rfl)) (fun _ h9 => h9) rfl dX7_cutApart_58 ?_
          refine lv_bipush (v := nI 22) hx hb dX7_cutApart_61 (by decide) ?_
          refine lv_iload_n hx hb dX7_cutApart_63 rfl (lv_at hl 1 rfl) ?_
          refine nv_iadd hx hb dX7_cutApart_64 ?_
          refine nv_iald (a := M3) hx hb hK hP 1 rfl (by omega) (by decide) dX7_cutApart_65 ?_
          refine tope (y := nI (ln a g)) (congrArg nI (by rw [hm3_, if_neg (by omega), if_neg (by omega)]; exact hM.l hg)) ?_
          refine nv_icmp_ge (tgt := 99) hx hb dX7_cutApart_66 (by decide) (by omega) (by omega) (fun c_66 => ?_) (fun c_66 => ?_)
          · refine lv_aload_n hx hb dX7_cutApart_99 rfl (lv_at hl 0 rfl) ?_
            refine va_get (D := D) (cl := vwCl) (ci := 7) (v := .ref m1) (C := RX7) (T := TX7) (N := 14) hx hb hts inf_X7_cutApart_X7 hown hK.1 hP 0 rfl rfl 0 (by decide) (hts _ (List.mem_of_getElem? (i := 1) rfl)) (fun _ h9 => h9) rfl dX7_cutApart_100 ?_
            refine lv_bipush (v := nI 22) hx hb dX7_cutApart_103 (by decide) ?_
            refine lv_iload_n hx hb dX7_cutApart_105 rfl (lv_at hl 3 rfl) ?_
            refine nv_iadd hx hb dX7_cutApart_106 ?_
            refine lv_aload_n hx hb dX7_cutApart_107 rfl (lv_at hl 0 rfl) ?_
            refine va_get (D := D) (cl := vwCl) (ci := 7) (v := .ref m1) (C := RX7) (T := TX7) (N := 14) hx hb hts inf_X7_cutApart_X7 hown hK.1 hP 0 rfl rfl 0 (by decide) (hts _ (List.mem_of_getElem? (i := 1) rfl)) (fun _ h9 => h9) rfl dX7_cutApart_108 ?_
            refine lv_bipush (v := nI 22) hx hb dX7_cutApart_111 (by decide) ?_
            refine lv_iload_n hx hb dX7_cutApart_113 rfl (lv_at hl 1 rfl) ?_
            refine nv_iadd hx hb dX7_cutApart_114 ?_
            refine nv_iald (a := M3) hx hb hK hP 1 rfl (by omega) (by decide) dX7_cutApart_115 ?_
            refine tope (y := nI (ln a g)) (congrArg nI (by rw [hm3_, if_neg (by omega), if_neg (by omega)]; exact hM.l hg)) ?_
            refine lv_iload_n hx hb dX7_cutApart_116 rfl (lv_at hl 2 rfl) ?_
            refine nv_isub hx hb dX7_cutApart_117 (by omega) ?_
            refine nv_iast (a := M3) (v := ((ln a g) - q)) hx hb hK hP hD hS 1 rfl (by omega) (by decide) dX7_cutApart_118 (fun H locs hP hD hS => ?_)
            have hP : va_P D vwCl [(m0, .inr (7, [.ref m1, .ref m2, .ref m3, .int (nI yl), .ref m4, .int (nI ik), .ref m5, .ref m6, .int (nI tl), .int (nI sp), .int (nI rd), .ref m7, .ref m8, .ref m9])), (m1, .inl (cA, 286, .inl (nF (updN M3 (22 + (fr a)) ((ln a g) - q))))), (m2, .inl (cA, 286, .inl (nF K2_49))), (m3, .inl (cA, 1144, .inl (nF yh)))] H := hP
            have hD : va_D A [(m0, .inr (7, [.ref m1, .ref m2, .ref m3, .int (nI yl), .ref m4, .int (nI ik), .ref m5, .ref m6, .int (nI tl), .int (nI sp), .int (nI rd), .ref m7, .ref m8, .ref m9])), (m1, .inl (cA, 286, .inl (nF (updN M3 (22 + (fr a)) ((ln a g) - q))))), (m2, .inl (cA, 286, .inl (nF K2_49))), (m3, .inl (cA, 1144, .inl (nF yh)))] := hD
            refine lv_aload_n hx hb dX7_cutApart_119 rfl (lv_at hl 0 rfl) ?_
            refine va_get (D := D) (cl := vwCl) (ci := 7) (v := .ref m1) (C := RX7) (T := TX7) (N := 14) hx hb hts inf_X7_cutApart_X7 hown hK.1 hP 0 rfl rfl 0 (by decide) (hts _ (List.mem_of_getElem? (i := 1) rfl)) (fun _ h9 => h9) rfl dX7_cutApart_120 ?_
            refine lv_bipush (v := nI 22) hx hb dX7_cutApart_123 (by decide) ?_
            refine lv_iload_n hx hb dX7_cutApart_125 rfl (lv_at hl 1 rfl) ?_
            refine nv_iadd hx hb dX7_cutApart_126 ?_
            refine lv_iload_n hx hb dX7_cutApart_127 rfl (lv_at hl 2 rfl) ?_
            refine nv_iast (a := (updN M3 (22 + (fr a)) ((ln a g) - q))) (v := q) hx hb hK hP hD hS 1 rfl (by omega) (by decide) dX7_cutApart_128 (fun H locs hP hD hS => ?_)
            have hP : va_P D vwCl [(m0, .inr (7, [.ref m1, .ref m2, .ref m3, .int (nI yl), .ref m4, .int (nI ik), .ref m5, .ref m6, .int (nI tl), .int (nI sp), .int (nI rd), .ref m7, .ref m8, .ref m9])), (m1, .inl (cA, 286, .inl (nF (updN (updN M3 (22 + (fr a)) ((ln a g) - q)) (22 + g) q)))), (m2, .inl (cA, 286, .inl (nF K2_49))), (m3, .inl (cA, 1144, .inl (nF yh)))] H := hP
            have hD : va_D A [(m0, .inr (7, [.ref m1, .ref m2, .ref m3, .int (nI yl), .ref m4, .int (nI ik), .ref m5, .ref m6, .int (nI tl), .int (nI sp), .int (nI rd), .ref m7, .ref m8, .ref m9])), (m1, .inl (cA, 286, .inl (nF (updN (updN M3 (22 + (fr a)) ((ln a g) - q)) (22 + g) q)))), (m2, .inl (cA, 286, .inl (nF K2_49))), (m3, .inl (cA, 1144, .inl (nF yh)))] := hD
            refine lv_aload_n hx hb dX7_cutApart_129 rfl (lv_at hl 0 rfl) ?_
            refine lv_iload_n hx hb dX7_cutApart_130 rfl (lv_at hl 3 rfl) ?_
            refine call_i (q := (RX7, TX7, 14)) (As := [.int (nI (fr a))]) (rest := []) F (c_X7_ends l D cA m0 m1 m2 m3 m4 m5 m6 m7 m8 m9 yl ik tl sp rd (updN (updN M3 (22 + (fr a)) ((ln a g) - q)) (22 + g) q) K2_49 yh (nI (fr a)) (by omega)) (cwV 1 hts gX7_cutApart_X7_ends rfl rfl rfl ydv_X7_ends ⟨Nat.le_of_ble_eq_true rfl, Nat.le_of_ble_eq_true rfl⟩) hK hR hP hD hA hS [2, 0, 1, 3] [0, 1, 3] rfl rfl rfl 0 7 rfl rfl (fun _ => rfl) rfl hl.1 rfl (Nat.le_of_ble_eq_true rfl) dX7_cutApart_131 ⟨Nat.zero_le _, Nat.zero_le _⟩ (fun r_131 u_131 H locs hw hP hD hS => ?_)
            obtain ⟨y2_131, M2_131, yh2_131⟩ := u_131
            have hP : va_P D vwCl [(m0, .inr (7, [.ref m1, .ref m2, .ref m3, .int (nI y2_131), .ref m4, .int (nI ik), .ref m5, .ref m6, .int (nI tl), .int (nI sp), .int (nI rd), .ref m7, .ref m8, .ref m9])), (m1, .inl (cA, 286, .inl (nF M2_131))), (m2, .inl (cA, 286, .inl (nF K2_49))), (m3, .inl (cA, 1144, .inl (nF yh2_131)))] H := hP
            have hD : va_D A [(m0, .inr (7, [.ref m1, .ref m2, .ref m3, .int (nI y2_131), .ref m4, .int (nI ik), .ref m5, .ref m6, .int (nI tl), .int (nI sp), .int (nI rd), .ref m7, .ref m8, .ref m9])), (m1, .inl (cA, 286, .inl (nF M2_131))), (m2, .inl (cA, 286, .inl (nF K2_49))), (m3, .inl (cA, 1144, .inl (nF yh2_131)))] := hD
            obtain ⟨hr_131, hw_131⟩ : r_131 = nI (fr a) ∧ ((0 ≤ (nI (fr a)) → M2_131 = (updN (updN M3 (22 + (fr a)) ((ln a g) - q)) (22 + g) q) ∧ y2_131 = hisT yl + 1 ∧ RecM yh K2_49 yl yh2_131) ∧ (¬ 0 ≤ (nI (fr a)) → (∀ j, j < 286 → M2_131 j = K2_49 j) ∧ y2_131 = yl ∧ yh2_131 = yh)) := hw
            subst hr_131
            have hE : aApart a (nI g) (nI q) = (nI (fr a), some (updN (updN (cpyN a a (30 + g * 32 + q) (30 + fr a * 32 + 0) (ln a g - q)) (22 + fr a) (ln a g - q)) (22 + g) q)) := by first | (simp only [aApart, hcx, hcy]; simp [c_5, c_28, c_42, c_66, Nat.ne_of_lt hf8]; done) | (simp only [aApart, hcx, hcy]; simp [c_5, c_28, c_42, c_66, Nat.ne_of_lt hf8]; omega)
            refine tope (y := (aApart a (nI g) (nI q)).1) (by rw [hE]) ?_
            exact RET _ _ _ _ _ (y2_131, M2_131, K2_49, yh2_131) dX7_cutApart_134 rfl ⟨rfl, (by rw [hE]; exact ends_yes (Rl_apart hM hV.1 hg hf8 hgf_ (by omega) (fun j => by simp only [updN]; by_cases e1_ : j = 22 + g; (rw [if_pos e1_, if_pos e1_]); (rw [if_neg e1_, if_neg e1_]; by_cases e2_ : j = 22 + fr a; (rw [if_pos e2_, if_pos e2_]); (rw [if_neg e2_, if_neg e2_, hm3_ j, show 30 + 32 * g + q + i = 30 + 32 * g + ln a g by omega, show i = ln a g - q by omega])))) hw_49 (hw_131.1 (nI_pos' (by omega))))⟩ hP hS
          · refine lv_aload_n hx hb dX7_cutApart_69 rfl (lv_at hl 0 rfl) ?_
            refine lv_iload_n hx hb dX7_cutApart_70 rfl (lv_at hl 3 rfl) ?_
            refine lv_iload hx hb dX7_cutApart_71 (lv_at hl 4 rfl) ?_
            refine lv_iload_n hx hb dX7_cutApart_73 rfl (lv_at hl 2 rfl) ?_
            refine nv_isub hx hb dX7_cutApart_74 (by omega) ?_
            refine lv_aload_n hx hb dX7_cutApart_75 rfl (lv_at hl 0 rfl) ?_
            refine lv_iload_n hx hb dX7_cutApart_76 rfl (lv_at hl 1 rfl) ?_
            refine lv_iload hx hb dX7_cutApart_77 (lv_at hl 4 rfl) ?_
            refine call_r (q := (RX7, TX7, 14)) (As := [.int (nI g), .int (nI (q + i))]) (rest := [.int (nI ((q + i) - q)), .int (nI (fr a)), .ref m0]) F (c_X7_dollAtR l D cA m0 m1 ([.ref m2, .ref m3, .int (nI yl), .ref m4, .int (nI ik), .ref m5, .ref m6, .int (nI tl), .int (nI sp), .int (nI rd), .ref m7, .ref m8, .ref m9]) M3 g (q + i) (by omega) (by omega)) (cwV 2 hts gX7_cutApart_X7_dollAt rfl rfl rfl ydv_X7_dollAt ⟨Nat.le_of_ble_eq_true rfl, Nat.le_of_ble_eq_true rfl⟩) hK hR hP hD hA hS [0, 1] rfl rfl 0 7 rfl rfl rfl hl.1 rfl (Nat.le_of_ble_eq_true rfl) dX7_cutApart_79 ⟨Nat.zero_le _, Nat.zero_le _⟩ (fun H locs hP hS => ?_)
            refine tope (y := nI (dl a g (q + i))) (congrArg nI (by rw [hm3_, if_neg (by omega), if_neg (by omega)]; exact hM.d hg c_66)) ?_
            refine call_v (q := (RX7, TX7, 14)) (As := [.int (nI (fr a)), .int (nI ((q + i) - q)), .int (nI (dl a g (q + i)))]) (rest := []) F (c_X7_lays l D cA m0 m1 ([.ref m2, .ref m3, .int (nI yl), .ref m4, .int (nI ik), .ref m5, .ref m6, .int (nI tl), .int (nI sp), .int (nI rd), .ref m7, .ref m8, .ref m9]) M3 (fr a) ((q + i) - q) (dl a g (q + i)) (by omega) (by omega)) (cwV 3 hts gX7_cutApart_X7_lays rfl rfl rfl ydv_X7_lays ⟨Nat.le_of_ble_eq_true rfl, Nat.le_of_ble_eq_true rfl⟩) hK hR hP hD hA hS [0, 1] [1] rfl rfl rfl 0 7 rfl rfl (fun _ => rfl) rfl hl.1 rfl (Nat.le_of_ble_eq_true rfl) dX7_cutApart_82 ⟨Nat.zero_le _, Nat.zero_le _⟩ (fun u_82 H locs hw hP hD hS => ?_)
            have hP : va_P D vwCl [(m0, .inr (7, [.ref m1, .ref m2, .ref m3, .int (nI yl), .ref m4, .int (nI ik), .ref m5, .ref m6, .int (nI tl), .int (nI sp), .int (nI rd), .ref m7, .ref m8, .ref m9])), (m1, .inl (cA, 286, .inl (nF (updN M3 (30 + 32 * (fr a) + ((q + i) - q)) (dl a g (q + i)))))), (m2, .inl (cA, 286, .inl (nF K2_49))), (m3, .inl (cA, 1144, .inl (nF yh)))] H := hP
            have hD : va_D A [(m0, .inr (7, [.ref m1, .ref m2, .ref m3, .int (nI yl), .ref m4, .int (nI ik), .ref m5, .ref m6, .int (nI tl), .int (nI sp), .int (nI rd), .ref m7, .ref m8, .ref m9])), (m1, .inl (cA, 286, .inl (nF (updN M3 (30 + 32 * (fr a) + ((q + i) - q)) (dl a g (q + i)))))), (m2, .inl (cA, 286, .inl (nF K2_49))), (m3, .inl (cA, 1144, .inl (nF yh)))] := hD
            refine lv_aload_n hx hb dX7_cutApart_85 rfl (lv_at hl 0 rfl) ?_
            refine lv_iload_n hx hb dX7_cutApart_86 rfl (lv_at hl 1 rfl) ?_
            refine lv_iload hx hb dX7_cutApart_87 (lv_at hl 4 rfl) ?_
            refine lv_iconst (v := nI 0) hx hb dX7_cutApart_89 (by decide) ?_
            refine call_v (q := (RX7, TX7, 14)) (As := [.int (nI g), .int (nI (q + i)), .int (nI 0)]) (rest := []) F (c_X7_lays l D cA m0 m1 ([.ref m2, .ref m3, .int (nI yl), .ref m4, .int (nI ik), .ref m5, .ref m6, .int (nI tl), .int (nI sp), .int (nI rd), .ref m7, .ref m8, .ref m9]) (updN M3 (30 + 32 * (fr a) + ((q + i) - q)) (dl a g (q + i))) g (q + i) 0 (by omega) (by omega)) (cwV 3 hts gX7_cutApart_X7_lays rfl rfl rfl ydv_X7_lays ⟨Nat.le_of_ble_eq_true rfl, Nat.le_of_ble_eq_true rfl⟩) hK hR hP hD hA hS [0, 1] [1] rfl rfl rfl 0 7 rfl rfl (fun _ => rfl) rfl hl.1 rfl (Nat.le_of_ble_eq_true rfl) dX7_cutApart_90 ⟨Nat.zero_le _, Nat.zero_le _⟩ (fun u_90 H locs hw hP hD hS => ?_)
            have hP : va_P D vwCl [(m0, .inr (7, [.ref m1, .ref m2, .ref m3, .int (nI yl), .ref m4, .int (nI ik), .ref m5, .ref m6, .int (nI tl), .int (nI sp), .int (nI rd), .ref m7, .ref m8, .ref m9])), (m1, .inl (cA, 286, .inl (nF (updN (updN M3 (30 + 32 * (fr a) + ((q + i) - q)) (dl a g (q + i))) (30 + 32 * g + (q + i)) 0)))), (m2, .inl (cA, 286, .inl (nF K2_49))), (m3, .inl (cA, 1144, .inl (nF yh)))] H := hP
            have hD : va_D A [(m0, .inr (7, [.ref m1, .ref m2, .ref m3, .int (nI yl), .ref m4, .int (nI ik), .ref m5, .ref m6, .int (nI tl), .int (nI sp), .int (nI rd), .ref m7, .ref m8, .ref m9])), (m1, .inl (cA, 286, .inl (nF (updN (updN M3 (30 + 32 * (fr a) + ((q + i) - q)) (dl a g (q + i))) (30 + 32 * g + (q + i)) 0)))), (m2, .inl (cA, 286, .inl (nF K2_49))), (m3, .inl (cA, 1144, .inl (nF yh)))] := hD
            refine lv_iinc (v := nI ((q + i) + 1)) (lv' := [(4, .int (nI ((q + i) + 1))), (0, .ref m0), (1, .int (nI g)), (2, .int (nI q)), (3, .int (nI (fr a)))]) hx hb dX7_cutApart_93 hl (k := 4) rfl (nI_add _ _) (by decide) rfl (fun ls hl => ?_)
            refine lv_goto (tgt := 55) hx hb dX7_cutApart_96 (by decide) ?_
            exact ih_55 _ (by omega) (i + 1) (updN (updN M3 (30 + 32 * (fr a) + ((q + i) - q)) (dl a g (q + i))) (30 + 32 * g + (q + i)) 0) _ _ _ rfl (by omega) (apart_step hgf_ (by omega) hm3_) hP hD hS (lv_sub hl [1, 2, 3, 4, 0] rfl)
        exact LP_55 _ 0 M _ _ _ rfl (by omega) (fun j => by rw [if_neg (by omega), if_neg (by omega)]) hP hD hS (lv_sub hl [2, 3, 4, 1, 0] rfl)
    · refine lv_bipush (v := -2) hx hb dX7_cutApart_31 (by decide) ?_
      have hE : aApart a (nI g) y = ((-2), none) := by first | (simp only [aApart, hcx]; simp [c_5, c_28]; done) | (simp only [aApart, hcx]; simp [c_5, c_28]; omega)
      refine tope (y := (aApart a (nI g) y).1) (by rw [hE]) ?_
      exact RET _ _ _ _ _ (yl, M, K, yh) dX7_cutApart_33 rfl ⟨rfl, (by rw [hE]; exact ⟨rfl, rfl, hM⟩)⟩ hP hS
  · refine lv_iconst (v := -1) hx hb dX7_cutApart_8 (by decide) ?_
    have hE : aApart a x y = ((-1), none) := by first | (simp only [aApart]; simp [c_5]; done) | (simp only [aApart]; simp [c_5]; omega)
    refine tope (y := (aApart a x y).1) (by rw [hE]) ?_
    exact RET _ _ _ _ _ (yl, M, K, yh) dX7_cutApart_9 rfl ⟨rfl, (by rw [hE]; exact ⟨rfl, rfl, hM⟩)⟩ hP hS
abbrev rm_X7_turn : Room := { frames := 4, cells := 0, slots := 0, locals := 90 }
theorem ydv_X7_turn : yX7_turn.cls = RX7 ∧ yX7_turn.cls ≠ "java/lang/invoke/MethodHandle" ∧ yX7_turn.cls ≠ "java/lang/invoke/VarHandle" ∧ (parseMethodDescriptor yX7_turn.desc).map (fun d => d.parameters.length) = some 1 := by decide +kernel
theorem inf_X7_turn_X7 : ∀ w ∈ wsX70, w ∈ wsX7_turn := fun w h => List.mem_cons_of_mem _ (List.mem_append_right _ (h))
set_option maxHeartbeats 4000000 in
set_option maxRecDepth 100000 in
theorem c_X7_turn (l : Launch) (D : va_G) (cA : ClassId) (m0 m1 m2 m3 m4 m5 m6 m7 m8 m9 yl ik tl sp rd : Nat) (a M K yh : Nat → Nat) (rw0 : Nat → Nat) (x : Int32) (hV : Vd a) (hM : Rl a M) (hyl : yl ≤ 4) : MI l D cA yX7_turn wsX7_turn rm_X7_turn [.ref m0, .int x] [] [(m0, .inr (7, [.ref m1, .ref m2, .ref m3, .int (nI yl), .ref m4, .int (nI ik), .ref m5, .ref m6, .int (nI tl), .int (nI sp), .int (nI rd), .ref m7, .ref m8, .ref m9])), (m1, .inl (cA, 286, .inl (nF M))), (m2, .inl (cA, 286, .inl (nF K))), (m3, .inl (cA, 1144, .inl (nF yh))), (m5, .inl (cA, 32, .inl (nF rw0)))] (S := (Nat) × (Nat → Nat) × (Nat → Nat) × (Nat → Nat) × (Nat → Nat)) (fun rr_ (uu_ : (Nat) × (Nat → Nat) × (Nat → Nat) × (Nat → Nat) × (Nat → Nat)) => rr_ = (aTurn a x).1 ∧ (ActM a M yh yl (aTurn a x).2 uu_.1 uu_.2.2.2.1 uu_.2.1)) (fun (uu_ : (Nat) × (Nat → Nat) × (Nat → Nat) × (Nat → Nat) × (Nat → Nat)) => [(m0, .inr (7, [.ref m1, .ref m2, .ref m3, .int (nI uu_.1), .ref m4, .int (nI ik), .ref m5, .ref m6, .int (nI tl), .int (nI sp), .int (nI rd), .ref m7, .ref m8, .ref m9])), (m1, .inl (cA, 286, .inl (nF uu_.2.1))), (m2, .inl (cA, 286, .inl (nF uu_.2.2.1))), (m3, .inl (cA, 1144, .inl (nF uu_.2.2.2.1))), (m5, .inl (cA, 32, .inl (nF uu_.2.2.2.2)))]) := by
  refine ofWi (cc := cX7_turn) (maxL := 3) (rt := .int) (by decide) rfl (Nat.le_of_ble_eq_true rfl) ?_
  intro p e s m args below meth c Q A ls F hK hR hP hD hA hS hl RET
  obtain ⟨hx, hb, hml, hown, hts⟩ := id F
  have hl : lv_has ls 3 [(0, .ref m0), (1, .int x)] := hl
  refine lv_aload_n hx hb dX7_turn_0 rfl (lv_at hl 0 rfl) ?_
  refine lv_iload_n hx hb dX7_turn_1 rfl (lv_at hl 1 rfl) ?_
  refine call_r (q := (RX7, TX7, 14)) (As := [.int x]) (rest := []) F (c_X7_isGarland l D cA m0 m1 ([.ref m2, .ref m3, .int (nI yl), .ref m4, .int (nI ik), .ref m5, .ref m6, .int (nI tl), .int (nI sp), .int (nI rd), .ref m7, .ref m8, .ref m9]) a M x (hV) (hM)) (cwV 1 hts gX7_turn_X7_isGarland rfl rfl rfl ydv_X7_isGarland ⟨Nat.le_of_ble_eq_true rfl, Nat.le_of_ble_eq_true rfl⟩) hK hR hP hD hA hS [0, 1] rfl rfl 0 7 rfl rfl rfl hl.1 rfl (Nat.le_of_ble_eq_true rfl) dX7_turn_2 ⟨Nat.zero_le _, Nat.zero_le _⟩ (fun H locs hP hS => ?_)
  refine bv_if_ne (tgt := 10) hx hb dX7_turn_5 (by decide) (fun c_5 => ?_) (fun c_5 => ?_)
  · obtain ⟨g, hg, rfl, hg0⟩ := inG_t c_5
    have hcx : cN (nI g) = g := cN_nI (by omega)
    have hl1 := hV.l hg
    refine lv_aload_n hx hb dX7_turn_10 rfl (lv_at hl 0 rfl) ?_
    refine lv_iload_n hx hb dX7_turn_11 rfl (lv_at hl 1 rfl) ?_
    refine call_r (q := (RX7, TX7, 14)) (As := [.int (nI g)]) (rest := []) F (c_X7_isOwnImage l D cA m0 m1 ([.ref m2, .ref m3, .int (nI yl), .ref m4, .int (nI ik), .ref m5, .ref m6, .int (nI tl), .int (nI sp), .int (nI rd), .ref m7, .ref m8, .ref m9]) a M g (hV) (hM) (by omega)) (cwV 1 hts gX7_turn_X7_isOwnImage rfl rfl rfl ydv_X7_isOwnImage ⟨Nat.le_of_ble_eq_true rfl, Nat.le_of_ble_eq_true rfl⟩) hK hR hP hD hA hS [0, 1] rfl rfl 0 7 rfl rfl rfl hl.1 rfl (Nat.le_of_ble_eq_true rfl) dX7_turn_12 ⟨Nat.zero_le _, Nat.zero_le _⟩ (fun H locs hP hS => ?_)
    refine bv_if_eq (tgt := 21) hx hb dX7_turn_15 (by decide) (fun c_15 => ?_) (fun c_15 => ?_)
    · refine lv_aload_n hx hb dX7_turn_21 rfl (lv_at hl 0 rfl) ?_
      refine call_v (q := (RX7, TX7, 14)) (As := []) (rest := []) F (c_X7_keeps l D cA m0 m1 m2 ([.ref m3, .int (nI yl), .ref m4, .int (nI ik), .ref m5, .ref m6, .int (nI tl), .int (nI sp), .int (nI rd), .ref m7, .ref m8, .ref m9]) M K) (cwV 0 hts gX7_turn_X7_keeps rfl rfl rfl ydv_X7_keeps ⟨Nat.le_of_ble_eq_true rfl, Nat.le_of_ble_eq_true rfl⟩) hK hR hP hD hA hS [0, 1, 2] [2] rfl rfl rfl 0 7 rfl rfl (fun _ => rfl) rfl hl.1 rfl (Nat.le_of_ble_eq_true rfl) dX7_turn_22 ⟨Nat.zero_le _, Nat.zero_le _⟩ (fun u_22 H locs hw hP hD hS => ?_)
      obtain ⟨K2_22, rfl⟩ : ∃ z, z = u_22 := ⟨_, rfl⟩
      have hP : va_P D vwCl [(m0, .inr (7, [.ref m1, .ref m2, .ref m3, .int (nI yl), .ref m4, .int (nI ik), .ref m5, .ref m6, .int (nI tl), .int (nI sp), .int (nI rd), .ref m7, .ref m8, .ref m9])), (m1, .inl (cA, 286, .inl (nF M))), (m2, .inl (cA, 286, .inl (nF K2_22))), (m3, .inl (cA, 1144, .inl (nF yh))), (m5, .inl (cA, 32, .inl (nF rw0)))] H := hP
      have hD : va_D A [(m0, .inr (7, [.ref m1, .ref m2, .ref m3, .int (nI yl), .ref m4, .int (nI ik), .ref m5, .ref m6, .int (nI tl), .int (nI sp), .int (nI rd), .ref m7, .ref m8, .ref m9])), (m1, .inl (cA, 286, .inl (nF M))), (m2, .inl (cA, 286, .inl (nF K2_22))), (m3, .inl (cA, 1144, .inl (nF yh))), (m5, .inl (cA, 32, .inl (nF rw0)))] := hD
      have hw_22 : ∀ j, j < 286 → K2_22 j = M j := hw
      refine lv_iconst (v := nI 0) hx hb dX7_turn_25 (by decide) ?_
      refine lv_istore_n (lv' := [(2, .int (nI 0)), (0, .ref m0), (1, .int (nI g))]) hx hb dX7_turn_26 rfl hl (by decide) rfl (fun ls hl => ?_)
      have LP_27 : ∀ (k_27 : Nat) (i : Nat) (w3 : Nat → Nat) (H : Heap) (locs : List Loc) (ls : Array Slot), ln a g - i = k_27 → (i ≤ ln a g) → (∀ j, j < i → w3 j = mir (dl a g (ln a g - 1 - j))) → va_P D vwCl [(m0, .inr (7, [.ref m1, .ref m2, .ref m3, .int (nI yl), .ref m4, .int (nI ik), .ref m5, .ref m6, .int (nI tl), .int (nI sp), .int (nI rd), .ref m7, .ref m8, .ref m9])), (m1, .inl (cA, 286, .inl (nF M))), (m2, .inl (cA, 286, .inl (nF K2_22))), (m3, .inl (cA, 1144, .inl (nF yh))), (m5, .inl (cA, 32, .inl (nF w3)))] H → va_D A [(m0, .inr (7, [.ref m1, .ref m2, .ref m3, .int (nI yl), .ref m4, .int (nI ik), .ref m5, .ref m6, .int (nI tl), .int (nI sp), .int (nI rd), .ref m7, .ref m8, .ref m9])), (m1, .inl (cA, 286, .inl (nF M))), (m2, .inl (cA, 286, .inl (nF K2_22))), (m3, .inl (cA, 1144, .inl (nF yh))), (m5, .inl (cA, 32, .inl (nF w3)))] → va_S A s.heap H locs → lv_has ls 3 [(0, .ref m0), (1, .int (nI g)), (2, .int (nI i))] → W p l e rm_X7_turn s m args below meth c H locs 0 0 Q (F0 m 27 ls []) := by
        refine sind (fun k_27 ih_27 => ?_)
        intro i w3 H locs ls hk_27 hi hr3_ hP hD hS hl
        refine lv_iload_n hx hb dX7_turn_27 rfl (lv_at hl 2 rfl) ?_
        refine lv_aload_n hx hb dX7_turn_28 rfl (lv_at hl 0 rfl) ?_
        refine va_get (D := D) (cl := vwCl) (ci := 7) (v := .ref m1) (C := RX7) (T := TX7) (N := 14) hx hb hts inf_X7_turn_X7 hown hK.1 hP 0 rfl rfl 0 (by decide) (hts _ (List.mem_of_getElem? (i := 1) rfl)) (fun _ h9 => h9) rfl dX7_turn_29 ?_
        refine lv_bipush (v := nI 22) hx hb dX7_turn_32 (by decide) ?_
        refine lv_iload_n hx hb dX7_turn_34 rfl (lv_at hl 1 rfl) ?_
        refine nv_iadd hx hb dX7_turn_35 ?_
        refine nv_iald (a := M) hx hb hK hP 1 rfl (by omega) (by decide) dX7_turn_36 ?_
        refine tope (y := nI (ln a g)) (congrArg nI (hM.l (by omega))) ?_
        refine nv_icmp_ge (tgt := 58) hx hb dX7_turn_37 (by decide) (by omega) (by omega) (fun c_37 => ?_) (fun c_37 => ?_)
        · refine lv_iconst (v := nI 0) hx hb dX7_turn_58 (by decide) ?_
          refine lv_istore_n (lv' := [(2, .int (nI 0)), (0, .ref m0), (1, .int (nI g))]) hx hb dX7_turn_59 rfl hl (by decide) rfl (fun ls hl => ?_)
          have LP_60 : ∀ (k_60 : Nat) (i2 : Nat) (M3 : Nat → Nat) (H : Heap) (locs : List Loc) (ls : Array Slot), ln a g - i2 = k_60 → (i2 ≤ ln a g) → (∀ j, M3 j = if 30 + 32 * g ≤ j ∧ j < 30 + 32 * g + i2 then w3 (j - (30 + 32 * g)) else M j) → va_P D vwCl [(m0, .inr (7, [.ref m1, .ref m2, .ref m3, .int (nI yl), .ref m4, .int (nI ik), .ref m5, .ref m6, .int (nI tl), .int (nI sp), .int (nI rd), .ref m7, .ref m8, .ref m9])), (m1, .inl (cA, 286, .inl (nF M3))), (m2, .inl (cA, 286, .inl (nF K2_22))), (m3, .inl (cA, 1144, .inl (nF yh))), (m5, .inl (cA, 32, .inl (nF w3)))] H → va_D A [(m0, .inr (7, [.ref m1, .ref m2, .ref m3, .int (nI yl), .ref m4, .int (nI ik), .ref m5, .ref m6, .int (nI tl), .int (nI sp), .int (nI rd), .ref m7, .ref m8, .ref m9])), (m1, .inl (cA, 286, .inl (nF M3))), (m2, .inl (cA, 286, .inl (nF K2_22))), (m3, .inl (cA, 1144, .inl (nF yh))), (m5, .inl (cA, 32, .inl (nF w3)))] → va_S A s.heap H locs → lv_has ls 3 [(0, .ref m0), (1, .int (nI g)), (2, .int (nI i2))] → W p l e rm_X7_turn s m args below meth c H locs 0 0 Q (F0 m 60 ls []) := by
            refine sind (fun k_60 ih_60 => ?_)
            intro i2 M3 H locs ls hk_60 hi2_ hm3_ hP hD hS hl
            refine lv_iload_n hx hb dX7_turn_60 rfl (lv_at hl 2 rfl) ?_
            refine lv_aload_n hx hb dX7_turn_61 rfl (lv_at hl 0 rfl) ?_
            refine va_get (D := D) (cl := vwCl) (ci := 7) (v := .ref m1) (C := RX7) (T := TX7) (N := 14) hx hb hts inf_X7_turn_X7 hown hK.1 hP 0 rfl rfl 0 (by decide) (hts _ (List.mem_of_getElem? (i := 1) rfl)) (fun _ h9 => h9) rfl dX7_turn_62 ?_
            refine lv_bipush (v := nI 22) hx hb dX7_turn_65 (by decide) ?_
            refine lv_iload_n hx hb dX7_turn_67 rfl (lv_at hl 1 rfl) ?_
            refine nv_iadd hx hb dX7_turn_68 ?_
            refine nv_iald (a := M3) hx hb hK hP 1 rfl (by omega) (by decide) dX7_turn_69 ?_
            refine tope (y := nI (ln a g)) (congrArg nI (by rw [hm3_, if_neg (by omega)]; exact hM.l hg)) ?_
            refine nv_icmp_ge (tgt := 91) hx hb dX7_turn_70 (by decide) (by omega) (by omega) (fun c_70 => ?_) (fun c_70 => ?_)
            · have hRt_ : Rl (turnA a g) M3 := Rl_turn hM hV.1 hg (fun j => by rw [hm3_, show i2 = ln a g by omega]; by_cases e_ : 30 + 32 * g ≤ j ∧ j < 30 + 32 * g + ln a g; (rw [if_pos e_, if_pos e_, hr3_ _ (by omega)]); (rw [if_neg e_, if_neg e_]))
              have hmi_ := mirIn_le (a := turnA a g) (Vd_turn hV hg) hg
              refine lv_aload_n hx hb dX7_turn_91 rfl (lv_at hl 0 rfl) ?_
              refine lv_aload_n hx hb dX7_turn_92 rfl (lv_at hl 0 rfl) ?_
              refine lv_iload_n hx hb dX7_turn_93 rfl (lv_at hl 1 rfl) ?_
              refine call_r (q := (RX7, TX7, 14)) (As := [.int (nI g)]) (rest := [.ref m0]) F (c_X7_mirroredIn l D cA m0 m1 ([.ref m2, .ref m3, .int (nI yl), .ref m4, .int (nI ik), .ref m5, .ref m6, .int (nI tl), .int (nI sp), .int (nI rd), .ref m7, .ref m8, .ref m9]) (turnA a g) M3 g (Vd_turn hV hg) (hRt_) (hg)) (cwV 1 hts gX7_turn_X7_mirroredIn rfl rfl rfl ydv_X7_mirroredIn ⟨Nat.le_of_ble_eq_true rfl, Nat.le_of_ble_eq_true rfl⟩) hK hR hP hD hA hS [0, 1] rfl rfl 0 7 rfl rfl rfl hl.1 rfl (Nat.le_of_ble_eq_true rfl) dX7_turn_94 ⟨Nat.zero_le _, Nat.zero_le _⟩ (fun H locs hP hS => ?_)
              refine call_i (q := (RX7, TX7, 14)) (As := [.int (nI (mirIn (turnA a g) g))]) (rest := []) F (c_X7_ends l D cA m0 m1 m2 m3 m4 m5 m6 m7 m8 m9 yl ik tl sp rd M3 K2_22 yh (nI (mirIn (turnA a g) g)) (by omega)) (cwV 1 hts gX7_turn_X7_ends rfl rfl rfl ydv_X7_ends ⟨Nat.le_of_ble_eq_true rfl, Nat.le_of_ble_eq_true rfl⟩) hK hR hP hD hA hS [2, 0, 1, 3] [0, 1, 3] rfl rfl rfl 0 7 rfl rfl (fun _ => rfl) rfl hl.1 rfl (Nat.le_of_ble_eq_true rfl) dX7_turn_97 ⟨Nat.zero_le _, Nat.zero_le _⟩ (fun r_97 u_97 H locs hw hP hD hS => ?_)
              obtain ⟨y2_97, M2_97, yh2_97⟩ := u_97
              have hP : va_P D vwCl [(m0, .inr (7, [.ref m1, .ref m2, .ref m3, .int (nI y2_97), .ref m4, .int (nI ik), .ref m5, .ref m6, .int (nI tl), .int (nI sp), .int (nI rd), .ref m7, .ref m8, .ref m9])), (m1, .inl (cA, 286, .inl (nF M2_97))), (m2, .inl (cA, 286, .inl (nF K2_22))), (m3, .inl (cA, 1144, .inl (nF yh2_97))), (m5, .inl (cA, 32, .inl (nF w3)))] H := hP
              have hD : va_D A [(m0, .inr (7, [.ref m1, .ref m2, .ref m3, .int (nI y2_97), .ref m4, .int (nI ik), .ref m5, .ref m6, .int (nI tl), .int (nI sp), .int (nI rd), .ref m7, .ref m8, .ref m9])), (m1, .inl (cA, 286, .inl (nF M2_97))), (m2, .inl (cA, 286, .inl (nF K2_22))), (m3, .inl (cA, 1144, .inl (nF yh2_97))), (m5, .inl (cA, 32, .inl (nF w3)))] := hD
              obtain ⟨hr_97, hw_97⟩ : r_97 = nI (mirIn (turnA a g) g) ∧ ((0 ≤ (nI (mirIn (turnA a g) g)) → M2_97 = M3 ∧ y2_97 = hisT yl + 1 ∧ RecM yh K2_22 yl yh2_97) ∧ (¬ 0 ≤ (nI (mirIn (turnA a g) g)) → (∀ j, j < 286 → M2_97 j = K2_22 j) ∧ y2_97 = yl ∧ yh2_97 = yh)) := hw
              subst hr_97
              have hE : aTurn a (nI g) = (nI (mirIn (turnA a g) g), some (turnA a g)) := by first | (simp only [aTurn, hcx]; simp [c_5, c_15, c_37, c_70]; done) | (simp only [aTurn, hcx]; simp [c_5, c_15, c_37, c_70]; omega)
              refine tope (y := (aTurn a (nI g)).1) (by rw [hE]) ?_
              exact RET _ _ _ _ _ (y2_97, M2_97, K2_22, yh2_97, w3) dX7_turn_100 rfl ⟨rfl, (by rw [hE]; exact ends_yes (Rl_turn hM hV.1 hg (fun j => by rw [hm3_, show i2 = ln a g by omega]; by_cases e_ : 30 + 32 * g ≤ j ∧ j < 30 + 32 * g + ln a g; (rw [if_pos e_, if_pos e_, hr3_ _ (by omega)]); (rw [if_neg e_, if_neg e_]))) hw_22 (hw_97.1 (nI_pos' (by omega))))⟩ hP hS
            · refine lv_aload_n hx hb dX7_turn_73 rfl (lv_at hl 0 rfl) ?_
              refine lv_iload_n hx hb dX7_turn_74 rfl (lv_at hl 1 rfl) ?_
              refine lv_iload_n hx hb dX7_turn_75 rfl (lv_at hl 2 rfl) ?_
              refine lv_aload_n hx hb dX7_turn_76 rfl (lv_at hl 0 rfl) ?_
              refine va_get (D := D) (cl := vwCl) (ci := 7) (v := .ref m5) (C := RX7) (T := TX7) (N := 14) hx hb hts inf_X7_turn_X7 hown hK.1 hP 0 rfl rfl 6 (by decide) (hts _ (List.mem_of_getElem? (i := 2) rfl)) (fun _ h9 => h9) rfl dX7_turn_77 ?_
              refine lv_iload_n hx hb dX7_turn_80 rfl (lv_at hl 2 rfl) ?_
              refine nv_iald (a := w3) hx hb hK hP 4 rfl (by omega) (by decide) dX7_turn_81 ?_
              refine call_v (q := (RX7, TX7, 14)) (As := [.int (nI g), .int (nI i2), .int (nI (w3 i2))]) (rest := []) F (c_X7_lays l D cA m0 m1 ([.ref m2, .ref m3, .int (nI yl), .ref m4, .int (nI ik), .ref m5, .ref m6, .int (nI tl), .int (nI sp), .int (nI rd), .ref m7, .ref m8, .ref m9]) M3 g i2 (w3 i2) (by omega) (by omega)) (cwV 3 hts gX7_turn_X7_lays rfl rfl rfl ydv_X7_lays ⟨Nat.le_of_ble_eq_true rfl, Nat.le_of_ble_eq_true rfl⟩) hK hR hP hD hA hS [0, 1] [1] rfl rfl rfl 0 7 rfl rfl (fun _ => rfl) rfl hl.1 rfl (Nat.le_of_ble_eq_true rfl) dX7_turn_82 ⟨Nat.zero_le _, Nat.zero_le _⟩ (fun u_82 H locs hw hP hD hS => ?_)
              have hP : va_P D vwCl [(m0, .inr (7, [.ref m1, .ref m2, .ref m3, .int (nI yl), .ref m4, .int (nI ik), .ref m5, .ref m6, .int (nI tl), .int (nI sp), .int (nI rd), .ref m7, .ref m8, .ref m9])), (m1, .inl (cA, 286, .inl (nF (updN M3 (30 + 32 * g + i2) (w3 i2))))), (m2, .inl (cA, 286, .inl (nF K2_22))), (m3, .inl (cA, 1144, .inl (nF yh))), (m5, .inl (cA, 32, .inl (nF w3)))] H := hP
              have hD : va_D A [(m0, .inr (7, [.ref m1, .ref m2, .ref m3, .int (nI yl), .ref m4, .int (nI ik), .ref m5, .ref m6, .int (nI tl), .int (nI sp), .int (nI rd), .ref m7, .ref m8, .ref m9])), (m1, .inl (cA, 286, .inl (nF (updN M3 (30 + 32 * g + i2) (w3 i2))))), (m2, .inl (cA, 286, .inl (nF K2_22))), (m3, .inl (cA, 1144, .inl (nF yh))), (m5, .inl (cA, 32, .inl (nF w3)))] := hD
              refine lv_iinc (v := nI (i2 + 1)) (lv' := [(2, .int (nI (i2 + 1))), (0, .ref m0), (1, .int (nI g))]) hx hb dX7_turn_85 hl (k := 2) rfl (nI_add _ _) (by decide) rfl (fun ls hl => ?_)
              refine lv_goto (tgt := 60) hx hb dX7_turn_88 (by decide) ?_
              exact ih_60 _ (by omega) (i2 + 1) (updN M3 (30 + 32 * g + i2) (w3 i2)) _ _ _ rfl (by omega) (fun j => by simp only [updN]; by_cases e_ : j = 30 + 32 * g + i2; (rw [if_pos e_, if_pos (by omega), show j - (30 + 32 * g) = i2 by omega]); (rw [if_neg e_, hm3_]; by_cases e2_ : 30 + 32 * g ≤ j ∧ j < 30 + 32 * g + i2; (rw [if_pos e2_, if_pos (by omega)]); (rw [if_neg e2_, if_neg (by omega)]))) hP hD hS (lv_sub hl [1, 2, 0] rfl)
          exact LP_60 _ 0 M _ _ _ rfl (by omega) (fun j => by rw [if_neg (by omega)]) hP hD hS (lv_sub hl [1, 2, 0] rfl)
        · have hd_ := mir_lt (hV.d (q := ln a g - 1 - i) hg (by omega))
          refine lv_aload_n hx hb dX7_turn_40 rfl (lv_at hl 0 rfl) ?_
          refine va_get (D := D) (cl := vwCl) (ci := 7) (v := .ref m5) (C := RX7) (T := TX7) (N := 14) hx hb hts inf_X7_turn_X7 hown hK.1 hP 0 rfl rfl 6 (by decide) (hts _ (List.mem_of_getElem? (i := 2) rfl)) (fun _ h9 => h9) rfl dX7_turn_41 ?_
          refine lv_iload_n hx hb dX7_turn_44 rfl (lv_at hl 2 rfl) ?_
          refine lv_aload_n hx hb dX7_turn_45 rfl (lv_at hl 0 rfl) ?_
          refine lv_iload_n hx hb dX7_turn_46 rfl (lv_at hl 1 rfl) ?_
          refine lv_iload_n hx hb dX7_turn_47 rfl (lv_at hl 2 rfl) ?_
          refine call_r (q := (RX7, TX7, 14)) (As := [.int (nI g), .int (nI i)]) (rest := [.int (nI i), .ref m5]) F (c_X7_turnedDoll l D cA m0 m1 ([.ref m2, .ref m3, .int (nI yl), .ref m4, .int (nI ik), .ref m5, .ref m6, .int (nI tl), .int (nI sp), .int (nI rd), .ref m7, .ref m8, .ref m9]) a M g i (hV) (hM) (by omega) (by omega)) (cwV 2 hts gX7_turn_X7_turnedDoll rfl rfl rfl ydv_X7_turnedDoll ⟨Nat.le_of_ble_eq_true rfl, Nat.le_of_ble_eq_true rfl⟩) hK hR hP hD hA hS [0, 1] rfl rfl 0 7 rfl rfl rfl hl.1 rfl (Nat.le_of_ble_eq_true rfl) dX7_turn_48 ⟨Nat.zero_le _, Nat.zero_le _⟩ (fun H locs hP hS => ?_)
          refine nv_iast (a := w3) (v := (mir (dl a g (ln a g - 1 - i)))) hx hb hK hP hD hS 4 rfl (by omega) (by decide) dX7_turn_51 (fun H locs hP hD hS => ?_)
          have hP : va_P D vwCl [(m0, .inr (7, [.ref m1, .ref m2, .ref m3, .int (nI yl), .ref m4, .int (nI ik), .ref m5, .ref m6, .int (nI tl), .int (nI sp), .int (nI rd), .ref m7, .ref m8, .ref m9])), (m1, .inl (cA, 286, .inl (nF M))), (m2, .inl (cA, 286, .inl (nF K2_22))), (m3, .inl (cA, 1144, .inl (nF yh))), (m5, .inl (cA, 32, .inl (nF (updN w3 i (mir (dl a g (ln a g - 1 - i)))))))] H := hP
          have hD : va_D A [(m0, .inr (7, [.ref m1, .ref m2, .ref m3, .int (nI yl), .ref m4, .int (nI ik), .ref m5, .ref m6, .int (nI tl), .int (nI sp), .int (nI rd), .ref m7, .ref m8, .ref m9])), (m1, .inl (cA, 286, .inl (nF M))), (m2, .inl (cA, 286, .inl (nF K2_22))), (m3, .inl (cA, 1144, .inl (nF yh))), (m5, .inl (cA, 32, .inl (nF (updN w3 i (mir (dl a g (ln a g - 1 - i)))))))] := hD
          refine lv_iinc (v := nI (i + 1)) (lv' := [(2, .int (nI (i + 1))), (0, .ref m0), (1, .int (nI g))]) hx hb dX7_turn_52 hl (k := 2) rfl (nI_add _ _) (by decide) rfl (fun ls hl => ?_)
          refine lv_goto (tgt := 27) hx hb dX7_turn_55 (by decide) ?_
          exact ih_27 _ (by omega) (i + 1) (updN w3 i (mir (dl a g (ln a g - 1 - i)))) _ _ _ rfl (by omega) (fun j hj => by simp only [updN]; split; (rename_i e_; rw [e_]); exact hr3_ j (by omega)) hP hD hS (lv_sub hl [1, 2, 0] rfl)
      exact LP_27 _ 0 rw0 _ _ _ rfl (by omega) (fun j h_ => absurd h_ (Nat.not_lt_zero j)) hP hD hS (lv_sub hl [1, 2, 0] rfl)
    · refine lv_bipush (v := -5) hx hb dX7_turn_18 (by decide) ?_
      have hE : aTurn a (nI g) = ((-5), none) := by first | (simp only [aTurn, hcx]; simp [c_5, c_15]; done) | (simp only [aTurn, hcx]; simp [c_5, c_15]; omega)
      refine tope (y := (aTurn a (nI g)).1) (by rw [hE]) ?_
      exact RET _ _ _ _ _ (yl, M, K, yh, rw0) dX7_turn_20 rfl ⟨rfl, (by rw [hE]; exact ⟨rfl, rfl, hM⟩)⟩ hP hS
  · refine lv_iconst (v := -1) hx hb dX7_turn_8 (by decide) ?_
    have hE : aTurn a x = ((-1), none) := by first | (simp only [aTurn]; simp [c_5]; done) | (simp only [aTurn]; simp [c_5]; omega)
    refine tope (y := (aTurn a x).1) (by rw [hE]) ?_
    exact RET _ _ _ _ _ (yl, M, K, yh, rw0) dX7_turn_9 rfl ⟨rfl, (by rw [hE]; exact ⟨rfl, rfl, hM⟩)⟩ hP hS
abbrev rm_X7_fold : Room := { frames := 2, cells := 0, slots := 0, locals := 46 }
theorem ydv_X7_fold : yX7_fold.cls = RX7 ∧ yX7_fold.cls ≠ "java/lang/invoke/MethodHandle" ∧ yX7_fold.cls ≠ "java/lang/invoke/VarHandle" ∧ (parseMethodDescriptor yX7_fold.desc).map (fun d => d.parameters.length) = some 1 := by decide +kernel
theorem inf_X7_fold_X7 : ∀ w ∈ wsX70, w ∈ wsX7_fold := fun w h => List.mem_cons_of_mem _ (List.mem_append_right _ (h))
set_option maxHeartbeats 4000000 in
set_option maxRecDepth 100000 in
theorem c_X7_fold (l : Launch) (D : va_G) (cA : ClassId) (m0 m1 m2 m3 m4 m5 m6 m7 m8 m9 yl ik tl sp rd : Nat) (a M K yh : Nat → Nat)  (x : Int32) (hV : Vd a) (hM : Rl a M) (hyl : yl ≤ 4) : MI l D cA yX7_fold wsX7_fold rm_X7_fold [.ref m0, .int x] [] [(m0, .inr (7, [.ref m1, .ref m2, .ref m3, .int (nI yl), .ref m4, .int (nI ik), .ref m5, .ref m6, .int (nI tl), .int (nI sp), .int (nI rd), .ref m7, .ref m8, .ref m9])), (m1, .inl (cA, 286, .inl (nF M))), (m2, .inl (cA, 286, .inl (nF K))), (m3, .inl (cA, 1144, .inl (nF yh)))] (S := (Nat) × (Nat → Nat) × (Nat → Nat) × (Nat → Nat)) (fun rr_ (uu_ : (Nat) × (Nat → Nat) × (Nat → Nat) × (Nat → Nat)) => rr_ = (aFold a x).1 ∧ (ActM a M yh yl (aFold a x).2 uu_.1 uu_.2.2.2 uu_.2.1)) (fun (uu_ : (Nat) × (Nat → Nat) × (Nat → Nat) × (Nat → Nat)) => [(m0, .inr (7, [.ref m1, .ref m2, .ref m3, .int (nI uu_.1), .ref m4, .int (nI ik), .ref m5, .ref m6, .int (nI tl), .int (nI sp), .int (nI rd), .ref m7, .ref m8, .ref m9])), (m1, .inl (cA, 286, .inl (nF uu_.2.1))), (m2, .inl (cA, 286, .inl (nF uu_.2.2.1))), (m3, .inl (cA, 1144, .inl (nF uu_.2.2.2)))]) := by
  refine ofWi (cc := cX7_fold) (maxL := 4) (rt := .int) (by decide) rfl (Nat.le_of_ble_eq_true rfl) ?_
  intro p e s m args below meth c Q A ls F hK hR hP hD hA hS hl RET
  obtain ⟨hx, hb, hml, hown, hts⟩ := id F
  have hl : lv_has ls 4 [(0, .ref m0), (1, .int x)] := hl
  refine lv_aload_n hx hb dX7_fold_0 rfl (lv_at hl 0 rfl) ?_
  refine lv_iload_n hx hb dX7_fold_1 rfl (lv_at hl 1 rfl) ?_
  refine call_r (q := (RX7, TX7, 14)) (As := [.int x]) (rest := []) F (c_X7_isGarland l D cA m0 m1 ([.ref m2, .ref m3, .int (nI yl), .ref m4, .int (nI ik), .ref m5, .ref m6, .int (nI tl), .int (nI sp), .int (nI rd), .ref m7, .ref m8, .ref m9]) a M x (hV) (hM)) (cwV 1 hts gX7_fold_X7_isGarland rfl rfl rfl ydv_X7_isGarland ⟨Nat.le_of_ble_eq_true rfl, Nat.le_of_ble_eq_true rfl⟩) hK hR hP hD hA hS [0, 1] rfl rfl 0 7 rfl rfl rfl hl.1 rfl (Nat.le_of_ble_eq_true rfl) dX7_fold_2 ⟨Nat.zero_le _, Nat.zero_le _⟩ (fun H locs hP hS => ?_)
  refine bv_if_ne (tgt := 10) hx hb dX7_fold_5 (by decide) (fun c_5 => ?_) (fun c_5 => ?_)
  · obtain ⟨g, hg, rfl, hg0⟩ := inG_t c_5
    have hcx : cN (nI g) = g := cN_nI (by omega)
    have hl1 := hV.l hg
    have hd1 := hV.d (q := ln a g - 1) hg (by omega)
    have hd2 := mir_lt hd1
    refine lv_aload_n hx hb dX7_fold_10 rfl (lv_at hl 0 rfl) ?_
    refine lv_aload_n hx hb dX7_fold_11 rfl (lv_at hl 0 rfl) ?_
    refine lv_iload_n hx hb dX7_fold_12 rfl (lv_at hl 1 rfl) ?_
    refine call_r (q := (RX7, TX7, 14)) (As := [.int (nI g)]) (rest := [.ref m0]) F (c_X7_last l D cA m0 m1 ([.ref m2, .ref m3, .int (nI yl), .ref m4, .int (nI ik), .ref m5, .ref m6, .int (nI tl), .int (nI sp), .int (nI rd), .ref m7, .ref m8, .ref m9]) a M g (hV) (hM) (by omega) (by omega)) (cwV 1 hts gX7_fold_X7_last rfl rfl rfl ydv_X7_last ⟨Nat.le_of_ble_eq_true rfl, Nat.le_of_ble_eq_true rfl⟩) hK hR hP hD hA hS [0, 1] rfl rfl 0 7 rfl rfl rfl hl.1 rfl (Nat.le_of_ble_eq_true rfl) dX7_fold_13 ⟨Nat.zero_le _, Nat.zero_le _⟩ (fun H locs hP hS => ?_)
    refine lv_aload_n hx hb dX7_fold_16 rfl (lv_at hl 0 rfl) ?_
    refine lv_iload_n hx hb dX7_fold_17 rfl (lv_at hl 1 rfl) ?_
    refine call_r (q := (RX7, TX7, 14)) (As := [.int (nI g)]) (rest := [.int (nI (dl a g (ln a g - 1))), .ref m0]) F (c_X7_last l D cA m0 m1 ([.ref m2, .ref m3, .int (nI yl), .ref m4, .int (nI ik), .ref m5, .ref m6, .int (nI tl), .int (nI sp), .int (nI rd), .ref m7, .ref m8, .ref m9]) a M g (hV) (hM) (by omega) (by omega)) (cwV 1 hts gX7_fold_X7_last rfl rfl rfl ydv_X7_last ⟨Nat.le_of_ble_eq_true rfl, Nat.le_of_ble_eq_true rfl⟩) hK hR hP hD hA hS [0, 1] rfl rfl 0 7 rfl rfl rfl hl.1 rfl (Nat.le_of_ble_eq_true rfl) dX7_fold_18 ⟨Nat.zero_le _, Nat.zero_le _⟩ (fun H locs hP hS => ?_)
    refine lv_iconst (v := nI 1) hx hb dX7_fold_21 (by decide) ?_
    refine nv_xor1 hx hb dX7_fold_22 ?_
    refine call_r (q := (RX7, TX7, 14)) (As := [.int (nI (dl a g (ln a g - 1))), .int (nI (mir (dl a g (ln a g - 1))))]) (rest := []) F (c_X7_clash l D cA m0 m1 ([.ref m2, .ref m3, .int (nI yl), .ref m4, .int (nI ik), .ref m5, .ref m6, .int (nI tl), .int (nI sp), .int (nI rd), .ref m7, .ref m8, .ref m9]) a M (dl a g (ln a g - 1)) (mir (dl a g (ln a g - 1))) (hV) (hM) (by omega) (by omega)) (cwV 2 hts gX7_fold_X7_clash rfl rfl rfl ydv_X7_clash ⟨Nat.le_of_ble_eq_true rfl, Nat.le_of_ble_eq_true rfl⟩) hK hR hP hD hA hS [0, 1] rfl rfl 0 7 rfl rfl rfl hl.1 rfl (Nat.le_of_ble_eq_true rfl) dX7_fold_23 ⟨Nat.zero_le _, Nat.zero_le _⟩ (fun H locs hP hS => ?_)
    refine bv_if_eq (tgt := 32) hx hb dX7_fold_26 (by decide) (fun c_26 => ?_) (fun c_26 => ?_)
    · refine lv_aload_n hx hb dX7_fold_32 rfl (lv_at hl 0 rfl) ?_
      refine va_get (D := D) (cl := vwCl) (ci := 7) (v := .ref m1) (C := RX7) (T := TX7) (N := 14) hx hb hts inf_X7_fold_X7 hown hK.1 hP 0 rfl rfl 0 (by decide) (hts _ (List.mem_of_getElem? (i := 1) rfl)) (fun _ h9 => h9) rfl dX7_fold_33 ?_
      refine lv_bipush (v := nI 22) hx hb dX7_fold_36 (by decide) ?_
      refine lv_iload_n hx hb dX7_fold_38 rfl (lv_at hl 1 rfl) ?_
      refine nv_iadd hx hb dX7_fold_39 ?_
      refine nv_iald (a := M) hx hb hK hP 1 rfl (by omega) (by decide) dX7_fold_40 ?_
      refine tope (y := nI (ln a g)) (congrArg nI (hM.l (by omega))) ?_
      refine lv_istore_n (lv' := [(2, .int (nI (ln a g))), (0, .ref m0), (1, .int (nI g))]) hx hb dX7_fold_41 rfl hl (by decide) rfl (fun ls hl => ?_)
      refine lv_iconst (v := nI 2) hx hb dX7_fold_42 (by decide) ?_
      refine lv_iload_n hx hb dX7_fold_43 rfl (lv_at hl 0 rfl) ?_
      refine nv_imul hx hb dX7_fold_44 ?_
      refine lv_bipush (v := nI 32) hx hb dX7_fold_45 (by decide) ?_
      refine nv_icmp_le (tgt := 53) hx hb dX7_fold_47 (by decide) (by omega) (by decide) (fun c_47 => ?_) (fun c_47 => ?_)
      · refine lv_aload_n hx hb dX7_fold_53 rfl (lv_at hl 1 rfl) ?_
        refine call_v (q := (RX7, TX7, 14)) (As := []) (rest := []) F (c_X7_keeps l D cA m0 m1 m2 ([.ref m3, .int (nI yl), .ref m4, .int (nI ik), .ref m5, .ref m6, .int (nI tl), .int (nI sp), .int (nI rd), .ref m7, .ref m8, .ref m9]) M K) (cwV 0 hts gX7_fold_X7_keeps rfl rfl rfl ydv_X7_keeps ⟨Nat.le_of_ble_eq_true rfl, Nat.le_of_ble_eq_true rfl⟩) hK hR hP hD hA hS [0, 1, 2] [2] rfl rfl rfl 0 7 rfl rfl (fun _ => rfl) rfl hl.1 rfl (Nat.le_of_ble_eq_true rfl) dX7_fold_54 ⟨Nat.zero_le _, Nat.zero_le _⟩ (fun u_54 H locs hw hP hD hS => ?_)
        obtain ⟨K2_54, rfl⟩ : ∃ z, z = u_54 := ⟨_, rfl⟩
        have hP : va_P D vwCl [(m0, .inr (7, [.ref m1, .ref m2, .ref m3, .int (nI yl), .ref m4, .int (nI ik), .ref m5, .ref m6, .int (nI tl), .int (nI sp), .int (nI rd), .ref m7, .ref m8, .ref m9])), (m1, .inl (cA, 286, .inl (nF M))), (m2, .inl (cA, 286, .inl (nF K2_54))), (m3, .inl (cA, 1144, .inl (nF yh)))] H := hP
        have hD : va_D A [(m0, .inr (7, [.ref m1, .ref m2, .ref m3, .int (nI yl), .ref m4, .int (nI ik), .ref m5, .ref m6, .int (nI tl), .int (nI sp), .int (nI rd), .ref m7, .ref m8, .ref m9])), (m1, .inl (cA, 286, .inl (nF M))), (m2, .inl (cA, 286, .inl (nF K2_54))), (m3, .inl (cA, 1144, .inl (nF yh)))] := hD
        have hw_54 : ∀ j, j < 286 → K2_54 j = M j := hw
        refine lv_iconst (v := nI 0) hx hb dX7_fold_57 (by decide) ?_
        refine lv_istore_n (lv' := [(3, .int (nI 0)), (2, .int (nI (ln a g))), (0, .ref m0), (1, .int (nI g))]) hx hb dX7_fold_58 rfl hl (by decide) rfl (fun ls hl => ?_)
        have LP_59 : ∀ (k_59 : Nat) (i : Nat) (M3 : Nat → Nat) (H : Heap) (locs : List Loc) (ls : Array Slot), ln a g - i = k_59 → (i ≤ ln a g) → (∀ j, M3 j = if 30 + 32 * g + ln a g ≤ j ∧ j < 30 + 32 * g + ln a g + i then mir (dl a g (ln a g - 1 - (j - (30 + 32 * g + ln a g)))) else M j) → va_P D vwCl [(m0, .inr (7, [.ref m1, .ref m2, .ref m3, .int (nI yl), .ref m4, .int (nI ik), .ref m5, .ref m6, .int (nI tl), .int (nI sp), .int (nI rd), .ref m7, .ref m8, .ref m9])), (m1, .inl (cA, 286, .inl (nF M3))), (m2, .inl (cA, 286, .inl (nF K2_54))), (m3, .inl (cA, 1144, .inl (nF yh)))] H → va_D A [(m0, .inr (7, [.ref m1, .ref m2, .ref m3, .int (nI yl), .ref m4, .int (nI ik), .ref m5, .ref m6, .int (nI tl), .int (nI sp), .int (nI rd), .ref m7, .ref m8, .ref m9])), (m1, .inl (cA, 286, .inl (nF M3))), (m2, .inl (cA, 286, .inl (nF K2_54))), (m3, .inl (cA, 1144, .inl (nF yh)))] → va_S A s.heap H locs → lv_has ls 4 [(0, .ref m0), (1, .int (nI g)), (2, .int (nI (ln a g))), (3, .int (nI i))] → W p l e rm_X7_fold s m args below meth c H locs 0 0 Q (F0 m 59 ls []) := by
          refine sind (fun k_59 ih_59 => ?_)
          intro i M3 H locs ls hk_59 hi hm3_ hP hD hS hl
          refine lv_iload_n hx hb dX7_fold_59 rfl (lv_at hl 3 rfl) ?_
          refine lv_iload_n hx hb dX7_fold_60 rfl (lv_at hl 2 rfl) ?_
          refine nv_icmp_ge (tgt := 90) hx hb dX7_fold_61 (by decide) (by omega) (by omega) (fun c_61 => ?_) (fun c_61 => ?_)
          · refine lv_aload_n hx hb dX7_fold_90 rfl (lv_at hl 0 rfl) ?_
            refine va_get (D := D) (cl := vwCl) (ci := 7) (v := .ref m1) (C := RX7) (T := TX7) (N := 14) hx hb hts inf_X7_fold_X7 hown hK.1 hP 0 rfl rfl 0 (by decide) (hts _ (List.mem_of_getElem? (i := 1) rfl)) (fun _ h9 => h9) rfl dX7_fold_91 ?_
            refine lv_bipush (v := nI 22) hx hb dX7_fold_94 (by decide) ?_
            refine lv_iload_n hx hb dX7_fold_96 rfl (lv_at hl 1 rfl) ?_
            refine nv_iadd hx hb dX7_fold_97 ?_
            refine lv_iconst (v := nI 2) hx hb dX7_fold_98 (by decide) ?_
            refine lv_iload_n hx hb dX7_fold_99 rfl (lv_at hl 2 rfl) ?_
            refine nv_imul hx hb dX7_fold_100 ?_
            refine nv_iast (a := M3) (v := (2 * (ln a g))) hx hb hK hP hD hS 1 rfl (by omega) (by decide) dX7_fold_101 (fun H locs hP hD hS => ?_)
            have hP : va_P D vwCl [(m0, .inr (7, [.ref m1, .ref m2, .ref m3, .int (nI yl), .ref m4, .int (nI ik), .ref m5, .ref m6, .int (nI tl), .int (nI sp), .int (nI rd), .ref m7, .ref m8, .ref m9])), (m1, .inl (cA, 286, .inl (nF (updN M3 (22 + g) (2 * (ln a g)))))), (m2, .inl (cA, 286, .inl (nF K2_54))), (m3, .inl (cA, 1144, .inl (nF yh)))] H := hP
            have hD : va_D A [(m0, .inr (7, [.ref m1, .ref m2, .ref m3, .int (nI yl), .ref m4, .int (nI ik), .ref m5, .ref m6, .int (nI tl), .int (nI sp), .int (nI rd), .ref m7, .ref m8, .ref m9])), (m1, .inl (cA, 286, .inl (nF (updN M3 (22 + g) (2 * (ln a g)))))), (m2, .inl (cA, 286, .inl (nF K2_54))), (m3, .inl (cA, 1144, .inl (nF yh)))] := hD
            refine lv_aload_n hx hb dX7_fold_102 rfl (lv_at hl 0 rfl) ?_
            refine lv_iconst (v := nI 2) hx hb dX7_fold_103 (by decide) ?_
            refine lv_iload_n hx hb dX7_fold_104 rfl (lv_at hl 2 rfl) ?_
            refine nv_imul hx hb dX7_fold_105 ?_
            refine call_i (q := (RX7, TX7, 14)) (As := [.int (nI (2 * (ln a g)))]) (rest := []) F (c_X7_ends l D cA m0 m1 m2 m3 m4 m5 m6 m7 m8 m9 yl ik tl sp rd (updN M3 (22 + g) (2 * (ln a g))) K2_54 yh (nI (2 * (ln a g))) (by omega)) (cwV 1 hts gX7_fold_X7_ends rfl rfl rfl ydv_X7_ends ⟨Nat.le_of_ble_eq_true rfl, Nat.le_of_ble_eq_true rfl⟩) hK hR hP hD hA hS [2, 0, 1, 3] [0, 1, 3] rfl rfl rfl 0 7 rfl rfl (fun _ => rfl) rfl hl.1 rfl (Nat.le_of_ble_eq_true rfl) dX7_fold_106 ⟨Nat.zero_le _, Nat.zero_le _⟩ (fun r_106 u_106 H locs hw hP hD hS => ?_)
            obtain ⟨y2_106, M2_106, yh2_106⟩ := u_106
            have hP : va_P D vwCl [(m0, .inr (7, [.ref m1, .ref m2, .ref m3, .int (nI y2_106), .ref m4, .int (nI ik), .ref m5, .ref m6, .int (nI tl), .int (nI sp), .int (nI rd), .ref m7, .ref m8, .ref m9])), (m1, .inl (cA, 286, .inl (nF M2_106))), (m2, .inl (cA, 286, .inl (nF K2_54))), (m3, .inl (cA, 1144, .inl (nF yh2_106)))] H := hP
            have hD : va_D A [(m0, .inr (7, [.ref m1, .ref m2, .ref m3, .int (nI y2_106), .ref m4, .int (nI ik), .ref m5, .ref m6, .int (nI tl), .int (nI sp), .int (nI rd), .ref m7, .ref m8, .ref m9])), (m1, .inl (cA, 286, .inl (nF M2_106))), (m2, .inl (cA, 286, .inl (nF K2_54))), (m3, .inl (cA, 1144, .inl (nF yh2_106)))] := hD
            obtain ⟨hr_106, hw_106⟩ : r_106 = nI (2 * (ln a g)) ∧ ((0 ≤ (nI (2 * (ln a g))) → M2_106 = (updN M3 (22 + g) (2 * (ln a g))) ∧ y2_106 = hisT yl + 1 ∧ RecM yh K2_54 yl yh2_106) ∧ (¬ 0 ≤ (nI (2 * (ln a g))) → (∀ j, j < 286 → M2_106 j = K2_54 j) ∧ y2_106 = yl ∧ yh2_106 = yh)) := hw
            subst hr_106
            have hE : aFold a (nI g) = (nI (2 * (ln a g)), some (updN (foldA a g) (22 + g) (2 * ln a g))) := by first | (simp only [aFold, hcx]; simp [c_5, c_26, c_47, c_61]; done) | (simp only [aFold, hcx]; simp [c_5, c_26, c_47, c_61]; omega)
            refine tope (y := (aFold a (nI g)).1) (by rw [hE]) ?_
            exact RET _ _ _ _ _ (y2_106, M2_106, K2_54, yh2_106) dX7_fold_109 rfl ⟨rfl, (by rw [hE]; exact ends_yes (Rl_fold hM hV.1 hg (by omega) (fun j => by simp only [updN]; by_cases e_ : j = 22 + g; (rw [if_pos e_, if_pos e_]); (rw [if_neg e_, if_neg e_, hm3_, show i = ln a g by omega]))) hw_54 (hw_106.1 (nI_pos' (by omega))))⟩ hP hS
          · refine lv_aload_n hx hb dX7_fold_64 rfl (lv_at hl 0 rfl) ?_
            refine lv_iload_n hx hb dX7_fold_65 rfl (lv_at hl 1 rfl) ?_
            refine lv_iload_n hx hb dX7_fold_66 rfl (lv_at hl 2 rfl) ?_
            refine lv_iload_n hx hb dX7_fold_67 rfl (lv_at hl 3 rfl) ?_
            refine nv_iadd hx hb dX7_fold_68 ?_
            refine lv_aload_n hx hb dX7_fold_69 rfl (lv_at hl 0 rfl) ?_
            refine lv_iload_n hx hb dX7_fold_70 rfl (lv_at hl 1 rfl) ?_
            refine lv_iload_n hx hb dX7_fold_71 rfl (lv_at hl 2 rfl) ?_
            refine lv_iconst (v := nI 1) hx hb dX7_fold_72 (by decide) ?_
            refine nv_isub hx hb dX7_fold_73 (by omega) ?_
            refine lv_iload_n hx hb dX7_fold_74 rfl (lv_at hl 3 rfl) ?_
            refine nv_isub hx hb dX7_fold_75 (by omega) ?_
            refine call_r (q := (RX7, TX7, 14)) (As := [.int (nI g), .int (nI (((ln a g) - 1) - i))]) (rest := [.int (nI ((ln a g) + i)), .int (nI g), .ref m0]) F (c_X7_dollAtR l D cA m0 m1 ([.ref m2, .ref m3, .int (nI yl), .ref m4, .int (nI ik), .ref m5, .ref m6, .int (nI tl), .int (nI sp), .int (nI rd), .ref m7, .ref m8, .ref m9]) M3 g (((ln a g) - 1) - i) (by omega) (by omega)) (cwV 2 hts gX7_fold_X7_dollAt rfl rfl rfl ydv_X7_dollAt ⟨Nat.le_of_ble_eq_true rfl, Nat.le_of_ble_eq_true rfl⟩) hK hR hP hD hA hS [0, 1] rfl rfl 0 7 rfl rfl rfl hl.1 rfl (Nat.le_of_ble_eq_true rfl) dX7_fold_76 ⟨Nat.zero_le _, Nat.zero_le _⟩ (fun H locs hP hS => ?_)
            refine tope (y := nI (dl a g (ln a g - 1 - i))) (congrArg nI (by rw [hm3_, if_neg (by omega)]; exact hM.d hg (by omega))) ?_
            refine lv_iconst (v := nI 1) hx hb dX7_fold_79 (by decide) ?_
            refine nv_xor1 hx hb dX7_fold_80 ?_
            refine call_v (q := (RX7, TX7, 14)) (As := [.int (nI g), .int (nI ((ln a g) + i)), .int (nI (mir (dl a g (ln a g - 1 - i))))]) (rest := []) F (c_X7_lays l D cA m0 m1 ([.ref m2, .ref m3, .int (nI yl), .ref m4, .int (nI ik), .ref m5, .ref m6, .int (nI tl), .int (nI sp), .int (nI rd), .ref m7, .ref m8, .ref m9]) M3 g ((ln a g) + i) (mir (dl a g (ln a g - 1 - i))) (by omega) (by omega)) (cwV 3 hts gX7_fold_X7_lays rfl rfl rfl ydv_X7_lays ⟨Nat.le_of_ble_eq_true rfl, Nat.le_of_ble_eq_true rfl⟩) hK hR hP hD hA hS [0, 1] [1] rfl rfl rfl 0 7 rfl rfl (fun _ => rfl) rfl hl.1 rfl (Nat.le_of_ble_eq_true rfl) dX7_fold_81 ⟨Nat.zero_le _, Nat.zero_le _⟩ (fun u_81 H locs hw hP hD hS => ?_)
            have hP : va_P D vwCl [(m0, .inr (7, [.ref m1, .ref m2, .ref m3, .int (nI yl), .ref m4, .int (nI ik), .ref m5, .ref m6, .int (nI tl), .int (nI sp), .int (nI rd), .ref m7, .ref m8, .ref m9])), (m1, .inl (cA, 286, .inl (nF (updN M3 (30 + 32 * g + ((ln a g) + i)) (mir (dl a g (ln a g - 1 - i))))))), (m2, .inl (cA, 286, .inl (nF K2_54))), (m3, .inl (cA, 1144, .inl (nF yh)))] H := hP
            have hD : va_D A [(m0, .inr (7, [.ref m1, .ref m2, .ref m3, .int (nI yl), .ref m4, .int (nI ik), .ref m5, .ref m6, .int (nI tl), .int (nI sp), .int (nI rd), .ref m7, .ref m8, .ref m9])), (m1, .inl (cA, 286, .inl (nF (updN M3 (30 + 32 * g + ((ln a g) + i)) (mir (dl a g (ln a g - 1 - i))))))), (m2, .inl (cA, 286, .inl (nF K2_54))), (m3, .inl (cA, 1144, .inl (nF yh)))] := hD
            refine lv_iinc (v := nI (i + 1)) (lv' := [(3, .int (nI (i + 1))), (0, .ref m0), (1, .int (nI g)), (2, .int (nI (ln a g)))]) hx hb dX7_fold_84 hl (k := 3) rfl (nI_add _ _) (by decide) rfl (fun ls hl => ?_)
            refine lv_goto (tgt := 59) hx hb dX7_fold_87 (by decide) ?_
            exact ih_59 _ (by omega) (i + 1) (updN M3 (30 + 32 * g + ((ln a g) + i)) (mir (dl a g (ln a g - 1 - i)))) _ _ _ rfl (by omega) (fun j => by simp only [updN]; by_cases e_ : j = 30 + 32 * g + (ln a g + i); (rw [if_pos e_, if_pos (by omega), show j - (30 + 32 * g + ln a g) = i by omega]); (rw [if_neg e_, hm3_]; by_cases e2_ : 30 + 32 * g + ln a g ≤ j ∧ j < 30 + 32 * g + ln a g + i; (rw [if_pos e2_, if_pos (by omega)]); (rw [if_neg e2_, if_neg (by omega)]))) hP hD hS (lv_sub hl [1, 2, 3, 0] rfl)
        exact LP_59 _ 0 M _ _ _ rfl (by omega) (fun j => by rw [if_neg (by omega)]) hP hD hS (lv_sub hl [2, 3, 1, 0] rfl)
      · refine lv_bipush (v := -3) hx hb dX7_fold_50 (by decide) ?_
        have hE : aFold a (nI g) = ((-3), none) := by first | (simp only [aFold, hcx]; simp [c_5, c_26, c_47]; done) | (simp only [aFold, hcx]; simp [c_5, c_26, c_47]; omega)
        refine tope (y := (aFold a (nI g)).1) (by rw [hE]) ?_
        exact RET _ _ _ _ _ (yl, M, K, yh) dX7_fold_52 rfl ⟨rfl, (by rw [hE]; exact ⟨rfl, rfl, hM⟩)⟩ hP hS
    · refine lv_bipush (v := -4) hx hb dX7_fold_29 (by decide) ?_
      have hE : aFold a (nI g) = ((-4), none) := by first | (simp only [aFold, hcx]; simp [c_5, c_26]; done) | (simp only [aFold, hcx]; simp [c_5, c_26]; omega)
      refine tope (y := (aFold a (nI g)).1) (by rw [hE]) ?_
      exact RET _ _ _ _ _ (yl, M, K, yh) dX7_fold_31 rfl ⟨rfl, (by rw [hE]; exact ⟨rfl, rfl, hM⟩)⟩ hP hS
  · refine lv_iconst (v := -1) hx hb dX7_fold_8 (by decide) ?_
    have hE : aFold a x = ((-1), none) := by first | (simp only [aFold]; simp [c_5]; done) | (simp only [aFold]; simp [c_5]; omega)
    refine tope (y := (aFold a x).1) (by rw [hE]) ?_
    exact RET _ _ _ _ _ (yl, M, K, yh) dX7_fold_9 rfl ⟨rfl, (by rw [hE]; exact ⟨rfl, rfl, hM⟩)⟩ hP hS
abbrev rm_X7_takeAway : Room := { frames := 2, cells := 0, slots := 0, locals := 46 }
theorem ydv_X7_takeAway : yX7_takeAway.cls = RX7 ∧ yX7_takeAway.cls ≠ "java/lang/invoke/MethodHandle" ∧ yX7_takeAway.cls ≠ "java/lang/invoke/VarHandle" ∧ (parseMethodDescriptor yX7_takeAway.desc).map (fun d => d.parameters.length) = some 1 := by decide +kernel
theorem inf_X7_takeAway_X7 : ∀ w ∈ wsX70, w ∈ wsX7_takeAway := fun w h => List.mem_cons_of_mem _ (List.mem_append_right _ (h))
set_option maxHeartbeats 4000000 in
set_option maxRecDepth 100000 in
theorem c_X7_takeAway (l : Launch) (D : va_G) (cA : ClassId) (m0 m1 m2 m3 m4 m5 m6 m7 m8 m9 yl ik tl sp rd : Nat) (a M K yh : Nat → Nat)  (x : Int32) (hV : Vd a) (hM : Rl a M) (hyl : yl ≤ 4) : MI l D cA yX7_takeAway wsX7_takeAway rm_X7_takeAway [.ref m0, .int x] [] [(m0, .inr (7, [.ref m1, .ref m2, .ref m3, .int (nI yl), .ref m4, .int (nI ik), .ref m5, .ref m6, .int (nI tl), .int (nI sp), .int (nI rd), .ref m7, .ref m8, .ref m9])), (m1, .inl (cA, 286, .inl (nF M))), (m2, .inl (cA, 286, .inl (nF K))), (m3, .inl (cA, 1144, .inl (nF yh)))] (S := (Nat) × (Nat → Nat) × (Nat → Nat) × (Nat → Nat)) (fun rr_ (uu_ : (Nat) × (Nat → Nat) × (Nat → Nat) × (Nat → Nat)) => rr_ = (aTake a x).1 ∧ (ActM a M yh yl (aTake a x).2 uu_.1 uu_.2.2.2 uu_.2.1)) (fun (uu_ : (Nat) × (Nat → Nat) × (Nat → Nat) × (Nat → Nat)) => [(m0, .inr (7, [.ref m1, .ref m2, .ref m3, .int (nI uu_.1), .ref m4, .int (nI ik), .ref m5, .ref m6, .int (nI tl), .int (nI sp), .int (nI rd), .ref m7, .ref m8, .ref m9])), (m1, .inl (cA, 286, .inl (nF uu_.2.1))), (m2, .inl (cA, 286, .inl (nF uu_.2.2.1))), (m3, .inl (cA, 1144, .inl (nF uu_.2.2.2)))]) := by
  refine ofWi (cc := cX7_takeAway) (maxL := 3) (rt := .int) (by decide) rfl (Nat.le_of_ble_eq_true rfl) ?_
  intro p e s m args below meth c Q A ls F hK hR hP hD hA hS hl RET
  obtain ⟨hx, hb, hml, hown, hts⟩ := id F
  have hl : lv_has ls 3 [(0, .ref m0), (1, .int x)] := hl
  refine lv_aload_n hx hb dX7_takeAway_0 rfl (lv_at hl 0 rfl) ?_
  refine lv_iload_n hx hb dX7_takeAway_1 rfl (lv_at hl 1 rfl) ?_
  refine call_r (q := (RX7, TX7, 14)) (As := [.int x]) (rest := []) F (c_X7_isGarland l D cA m0 m1 ([.ref m2, .ref m3, .int (nI yl), .ref m4, .int (nI ik), .ref m5, .ref m6, .int (nI tl), .int (nI sp), .int (nI rd), .ref m7, .ref m8, .ref m9]) a M x (hV) (hM)) (cwV 1 hts gX7_takeAway_X7_isGarland rfl rfl rfl ydv_X7_isGarland ⟨Nat.le_of_ble_eq_true rfl, Nat.le_of_ble_eq_true rfl⟩) hK hR hP hD hA hS [0, 1] rfl rfl 0 7 rfl rfl rfl hl.1 rfl (Nat.le_of_ble_eq_true rfl) dX7_takeAway_2 ⟨Nat.zero_le _, Nat.zero_le _⟩ (fun H locs hP hS => ?_)
  refine bv_if_ne (tgt := 10) hx hb dX7_takeAway_5 (by decide) (fun c_5 => ?_) (fun c_5 => ?_)
  · obtain ⟨g, hg, rfl, hg0⟩ := inG_t c_5
    have hcx : cN (nI g) = g := cN_nI (by omega)
    have hl1 := hV.l hg
    refine lv_aload_n hx hb dX7_takeAway_10 rfl (lv_at hl 0 rfl) ?_
    refine call_v (q := (RX7, TX7, 14)) (As := []) (rest := []) F (c_X7_keeps l D cA m0 m1 m2 ([.ref m3, .int (nI yl), .ref m4, .int (nI ik), .ref m5, .ref m6, .int (nI tl), .int (nI sp), .int (nI rd), .ref m7, .ref m8, .ref m9]) M K) (cwV 0 hts gX7_takeAway_X7_keeps rfl rfl rfl ydv_X7_keeps ⟨Nat.le_of_ble_eq_true rfl, Nat.le_of_ble_eq_true rfl⟩) hK hR hP hD hA hS [0, 1, 2] [2] rfl rfl rfl 0 7 rfl rfl (fun _ => rfl) rfl hl.1 rfl (Nat.le_of_ble_eq_true rfl) dX7_takeAway_11 ⟨Nat.zero_le _, Nat.zero_le _⟩ (fun u_11 H locs hw hP hD hS => ?_)
    obtain ⟨K2_11, rfl⟩ : ∃ z, z = u_11 := ⟨_, rfl⟩
    have hP : va_P D vwCl [(m0, .inr (7, [.ref m1, .ref m2, .ref m3, .int (nI yl), .ref m4, .int (nI ik), .ref m5, .ref m6, .int (nI tl), .int (nI sp), .int (nI rd), .ref m7, .ref m8, .ref m9])), (m1, .inl (cA, 286, .inl (nF M))), (m2, .inl (cA, 286, .inl (nF K2_11))), (m3, .inl (cA, 1144, .inl (nF yh)))] H := hP
    have hD : va_D A [(m0, .inr (7, [.ref m1, .ref m2, .ref m3, .int (nI yl), .ref m4, .int (nI ik), .ref m5, .ref m6, .int (nI tl), .int (nI sp), .int (nI rd), .ref m7, .ref m8, .ref m9])), (m1, .inl (cA, 286, .inl (nF M))), (m2, .inl (cA, 286, .inl (nF K2_11))), (m3, .inl (cA, 1144, .inl (nF yh)))] := hD
    have hw_11 : ∀ j, j < 286 → K2_11 j = M j := hw
    refine lv_aload_n hx hb dX7_takeAway_14 rfl (lv_at hl 0 rfl) ?_
    refine va_get (D := D) (cl := vwCl) (ci := 7) (v := .ref m1) (C := RX7) (T := TX7) (N := 14) hx hb hts inf_X7_takeAway_X7 hown hK.1 hP 0 rfl rfl 0 (by decide) (hts _ (List.mem_of_getElem? (i := 1) rfl)) (fun _ h9 => h9) rfl dX7_takeAway_15 ?_
    refine lv_bipush (v := nI 22) hx hb dX7_takeAway_18 (by decide) ?_
    refine lv_iload_n hx hb dX7_takeAway_20 rfl (lv_at hl 1 rfl) ?_
    refine nv_iadd hx hb dX7_takeAway_21 ?_
    refine nv_iald (a := M) hx hb hK hP 1 rfl (by omega) (by decide) dX7_takeAway_22 ?_
    refine tope (y := nI (ln a g)) (congrArg nI (hM.l (by omega))) ?_
    refine lv_istore_n (lv' := [(2, .int (nI (ln a g))), (0, .ref m0), (1, .int (nI g))]) hx hb dX7_takeAway_23 rfl hl (by decide) rfl (fun ls hl => ?_)
    refine lv_aload_n hx hb dX7_takeAway_24 rfl (lv_at hl 1 rfl) ?_
    refine lv_iload_n hx hb dX7_takeAway_25 rfl (lv_at hl 2 rfl) ?_
    refine call_v (q := (RX7, TX7, 14)) (As := [.int (nI g)]) (rest := []) F (c_X7_takes l D cA m0 m1 ([.ref m2, .ref m3, .int (nI yl), .ref m4, .int (nI ik), .ref m5, .ref m6, .int (nI tl), .int (nI sp), .int (nI rd), .ref m7, .ref m8, .ref m9]) M g (by omega)) (cwV 1 hts gX7_takeAway_X7_takes rfl rfl rfl ydv_X7_takes ⟨Nat.le_of_ble_eq_true rfl, Nat.le_of_ble_eq_true rfl⟩) hK hR hP hD hA hS [0, 1] [1] rfl rfl rfl 0 7 rfl rfl (fun _ => rfl) rfl hl.1 rfl (Nat.le_of_ble_eq_true rfl) dX7_takeAway_26 ⟨Nat.zero_le _, Nat.zero_le _⟩ (fun u_26 H locs hw hP hD hS => ?_)
    obtain ⟨M2_26, rfl⟩ : ∃ z, z = u_26 := ⟨_, rfl⟩
    have hP : va_P D vwCl [(m0, .inr (7, [.ref m1, .ref m2, .ref m3, .int (nI yl), .ref m4, .int (nI ik), .ref m5, .ref m6, .int (nI tl), .int (nI sp), .int (nI rd), .ref m7, .ref m8, .ref m9])), (m1, .inl (cA, 286, .inl (nF M2_26))), (m2, .inl (cA, 286, .inl (nF K2_11))), (m3, .inl (cA, 1144, .inl (nF yh)))] H := hP
    have hD : va_D A [(m0, .inr (7, [.ref m1, .ref m2, .ref m3, .int (nI yl), .ref m4, .int (nI ik), .ref m5, .ref m6, .int (nI tl), .int (nI sp), .int (nI rd), .ref m7, .ref m8, .ref m9])), (m1, .inl (cA, 286, .inl (nF M2_26))), (m2, .inl (cA, 286, .inl (nF K2_11))), (m3, .inl (cA, 1144, .inl (nF yh)))] := hD
    have hw_26 : ∀ j, M2_26 j = if j = 22 + g ∨ (30 + 32 * g ≤ j ∧ j < 30 + 32 * g + 32) then 0 else M j := hw
    refine lv_aload_n hx hb dX7_takeAway_29 rfl (lv_at hl 1 rfl) ?_
    refine lv_iload_n hx hb dX7_takeAway_30 rfl (lv_at hl 0 rfl) ?_
    refine call_i (q := (RX7, TX7, 14)) (As := [.int (nI (ln a g))]) (rest := []) F (c_X7_ends l D cA m0 m1 m2 m3 m4 m5 m6 m7 m8 m9 yl ik tl sp rd M2_26 K2_11 yh (nI (ln a g)) (by omega)) (cwV 1 hts gX7_takeAway_X7_ends rfl rfl rfl ydv_X7_ends ⟨Nat.le_of_ble_eq_true rfl, Nat.le_of_ble_eq_true rfl⟩) hK hR hP hD hA hS [2, 0, 1, 3] [0, 1, 3] rfl rfl rfl 0 7 rfl rfl (fun _ => rfl) rfl hl.1 rfl (Nat.le_of_ble_eq_true rfl) dX7_takeAway_31 ⟨Nat.zero_le _, Nat.zero_le _⟩ (fun r_31 u_31 H locs hw hP hD hS => ?_)
    obtain ⟨y2_31, M2_31, yh2_31⟩ := u_31
    have hP : va_P D vwCl [(m0, .inr (7, [.ref m1, .ref m2, .ref m3, .int (nI y2_31), .ref m4, .int (nI ik), .ref m5, .ref m6, .int (nI tl), .int (nI sp), .int (nI rd), .ref m7, .ref m8, .ref m9])), (m1, .inl (cA, 286, .inl (nF M2_31))), (m2, .inl (cA, 286, .inl (nF K2_11))), (m3, .inl (cA, 1144, .inl (nF yh2_31)))] H := hP
    have hD : va_D A [(m0, .inr (7, [.ref m1, .ref m2, .ref m3, .int (nI y2_31), .ref m4, .int (nI ik), .ref m5, .ref m6, .int (nI tl), .int (nI sp), .int (nI rd), .ref m7, .ref m8, .ref m9])), (m1, .inl (cA, 286, .inl (nF M2_31))), (m2, .inl (cA, 286, .inl (nF K2_11))), (m3, .inl (cA, 1144, .inl (nF yh2_31)))] := hD
    obtain ⟨hr_31, hw_31⟩ : r_31 = nI (ln a g) ∧ ((0 ≤ (nI (ln a g)) → M2_31 = M2_26 ∧ y2_31 = hisT yl + 1 ∧ RecM yh K2_11 yl yh2_31) ∧ (¬ 0 ≤ (nI (ln a g)) → (∀ j, j < 286 → M2_31 j = K2_11 j) ∧ y2_31 = yl ∧ yh2_31 = yh)) := hw
    subst hr_31
    have hE : aTake a (nI g) = (nI (ln a g), some (updN a (22 + g) 0)) := by first | (simp only [aTake, hcx]; simp [c_5]; done) | (simp only [aTake, hcx]; simp [c_5]; omega)
    refine tope (y := (aTake a (nI g)).1) (by rw [hE]) ?_
    exact RET _ _ _ _ _ (y2_31, M2_31, K2_11, yh2_31) dX7_takeAway_34 rfl ⟨rfl, (by rw [hE]; exact ends_yes (Rl_take hM hV.1 hg hw_26) hw_11 (hw_31.1 (nI_pos' (by omega))))⟩ hP hS
  · refine lv_iconst (v := -1) hx hb dX7_takeAway_8 (by decide) ?_
    have hE : aTake a x = ((-1), none) := by first | (simp only [aTake]; simp [c_5]; done) | (simp only [aTake]; simp [c_5]; omega)
    refine tope (y := (aTake a x).1) (by rw [hE]) ?_
    exact RET _ _ _ _ _ (yl, M, K, yh) dX7_takeAway_9 rfl ⟨rfl, (by rw [hE]; exact ⟨rfl, rfl, hM⟩)⟩ hP hS
