/-! laid by a program: contracts of X4_clash, X4_freeNumber, X4_hasClashIn, X4_hasClashInS, X4_hasClash, X4_hasKindsOf, X4_saveTo, X4_loadFrom, X4_copyDolls, X4_hangUp, X4_turnRound, X4_foldOut -/
abbrev rm_X4_clash : Room := { frames := 2, cells := 0, slots := 0, locals := 42 }
theorem ydv_X4_clash : yX4_clash.cls = RX4 ∧ yX4_clash.cls ≠ "java/lang/invoke/MethodHandle" ∧ yX4_clash.cls ≠ "java/lang/invoke/VarHandle" ∧ (parseMethodDescriptor yX4_clash.desc).map (fun d => d.parameters.length) = some 2 := by decide +kernel
set_option maxHeartbeats 4000000 in
set_option maxRecDepth 100000 in
theorem c_X4_clash (l : Launch) (D : va_G) (cA : ClassId) (h0 h1 h2 : Nat) (a : Nat → Nat) (d e_ : Nat) (hru : a 0 ≤ 2) (hd : d < 20) (he : e_ < 20) (hV : Vd a) : RO l D cA yX4_clash wsX4_clash rm_X4_clash [.ref h0, .int (nI d), .int (nI e_)] [(h0, .inr (4, [.ref h1])), (h1, .inr (3, [.ref h2])), (h2, .inl (cA, 286, .inl (nF a)))] (bI (cl a d e_)) := by
  refine ofWi (cc := cX4_clash) (maxL := 6) (rt := .boolean) (by decide) rfl (Nat.le_of_ble_eq_true rfl) ?_
  intro p e s m args below meth c Q A ls F hK hR hP hD hA hS hl RET
  obtain ⟨hx, hb, hml, hown, hts⟩ := id F
  have hl : lv_has ls 6 [(0, .ref h0), (1, .int (nI d)), (2, .int (nI e_))] := hl
  have hr6 := hdR_lt hV hd
  have hl6 := hdL_lt hV he
  refine lv_aload_n hx hb dX4_clash_0 rfl (lv_at hl 0 rfl) ?_
  refine lv_iload_n hx hb dX4_clash_1 rfl (lv_at hl 1 rfl) ?_
  refine call_r (q := (RX4, TX4, 1)) (As := [.int (nI d)]) (rest := []) F (c_X4_rightOf l D cA h0 h1 h2 a d (by omega)) (cwV 1 hts gX4_clash_X4_rightOf rfl rfl rfl ydv_X4_rightOf ⟨Nat.le_of_ble_eq_true rfl, Nat.le_of_ble_eq_true rfl⟩) hK hR hP hD hA hS [0, 1, 2] rfl rfl 0 4 rfl rfl rfl hl.1 rfl (Nat.le_of_ble_eq_true rfl) dX4_clash_2 ⟨Nat.zero_le _, Nat.zero_le _⟩ (fun H locs hP hS => ?_)
  refine lv_istore_n (lv' := [(3, .int (nI (hdR a d))), (0, .ref h0), (1, .int (nI d)), (2, .int (nI e_))]) hx hb dX4_clash_5 rfl hl (by decide) rfl (fun ls hl => ?_)
  refine lv_aload_n hx hb dX4_clash_6 rfl (lv_at hl 1 rfl) ?_
  refine lv_iload_n hx hb dX4_clash_7 rfl (lv_at hl 3 rfl) ?_
  refine call_r (q := (RX4, TX4, 1)) (As := [.int (nI e_)]) (rest := []) F (c_X4_leftOf l D cA h0 h1 h2 a e_ (by omega)) (cwV 1 hts gX4_clash_X4_leftOf rfl rfl rfl ydv_X4_leftOf ⟨Nat.le_of_ble_eq_true rfl, Nat.le_of_ble_eq_true rfl⟩) hK hR hP hD hA hS [0, 1, 2] rfl rfl 0 4 rfl rfl rfl hl.1 rfl (Nat.le_of_ble_eq_true rfl) dX4_clash_8 ⟨Nat.zero_le _, Nat.zero_le _⟩ (fun H locs hP hS => ?_)
  refine lv_istore (lv' := [(4, .int (nI (hdL a e_))), (3, .int (nI (hdR a d))), (0, .ref h0), (1, .int (nI d)), (2, .int (nI e_))]) hx hb dX4_clash_11 hl (by decide) rfl (fun ls hl => ?_)
  refine lv_iload_n hx hb dX4_clash_13 rfl (lv_at hl 1 rfl) ?_
  refine nv_if_eq (tgt := 22) hx hb dX4_clash_14 (by decide) (by omega) (fun c_14 => ?_) (fun c_14 => ?_)
  · refine lv_iconst (v := nI 0) hx hb dX4_clash_22 (by decide) ?_
    refine tope (y := bI (cl a d e_)) (by first | exact bI_f (by simp [cl, c_14]) | exact bI_t (by simp [cl, c_14])) ?_
    exact RET _ _ _ _ _ () dX4_clash_23 (nbI _) rfl hP hS
  · refine lv_iload hx hb dX4_clash_17 (lv_at hl 0 rfl) ?_
    refine nv_if_ne (tgt := 24) hx hb dX4_clash_19 (by decide) (by omega) (fun c_19 => ?_) (fun c_19 => ?_)
    · refine lv_iload_n hx hb dX4_clash_24 rfl (lv_at hl 1 rfl) ?_
      refine lv_iload hx hb dX4_clash_25 (lv_at hl 0 rfl) ?_
      refine nv_icmp_ne (tgt := 34) hx hb dX4_clash_27 (by decide) (by omega) (by omega) (fun c_27 => ?_) (fun c_27 => ?_)
      · refine lv_iconst (v := nI 0) hx hb dX4_clash_34 (by decide) ?_
        refine lv_istore (lv' := [(5, .int (nI 0)), (4, .int (nI (hdL a e_))), (3, .int (nI (hdR a d))), (0, .ref h0), (1, .int (nI d)), (2, .int (nI e_))]) hx hb dX4_clash_35 hl (by decide) rfl (fun ls hl => ?_)
        refine lv_aload_n hx hb dX4_clash_37 rfl (lv_at hl 3 rfl) ?_
        refine call_r (q := (RX4, TX4, 1)) (As := []) (rest := []) F (c_X4_ruleNow l D cA h0 h1 h2 a) (cwV 0 hts gX4_clash_X4_ruleNow rfl rfl rfl ydv_X4_ruleNow ⟨Nat.le_of_ble_eq_true rfl, Nat.le_of_ble_eq_true rfl⟩) hK hR hP hD hA hS [0, 1, 2] rfl rfl 0 4 rfl rfl rfl hl.1 rfl (Nat.le_of_ble_eq_true rfl) dX4_clash_38 ⟨Nat.zero_le _, Nat.zero_le _⟩ (fun H locs hP hS => ?_)
        rcases (show a 0 = 0 ∨ a 0 = 1 ∨ a 0 = 2 from by omega) with c_41 | c_41 | c_41
        · refine tope (y := nI 0) (by rw [c_41]) ?_
          refine lv_lookup (tgt := 68) hx hb dX4_clash_41 (by decide) rfl (by decide) ?_
          refine lv_iload hx hb dX4_clash_68 (lv_at hl 0 rfl) ?_
          refine nv_if_eq (tgt := 88) hx hb dX4_clash_70 (by decide) (by decide) (fun c_70 => ?_) (fun c_70 => absurd c_70 (by decide))
          refine lv_iconst (v := nI 0) hx hb dX4_clash_88 (by decide) ?_
          refine tope (y := bI (cl a d e_)) (by first | exact bI_f (by simp [cl, c_14, c_19, c_27, c_70, c_41]) | exact bI_t (by simp [cl, c_14, c_19, c_27, c_70, c_41])) ?_
          exact RET _ _ _ _ _ () dX4_clash_89 (nbI _) rfl hP hS
        · refine tope (y := nI 1) (by rw [c_41]) ?_
          refine lv_lookup (tgt := 90) hx hb dX4_clash_41 (by decide) rfl (by decide) ?_
          refine lv_iload hx hb dX4_clash_90 (lv_at hl 0 rfl) ?_
          refine tope (y := bI (cl a d e_)) (by first | exact bI_f (by simp [cl, c_14, c_19, c_27, c_41]) | exact bI_t (by simp [cl, c_14, c_19, c_27, c_41])) ?_
          exact RET _ _ _ _ _ () dX4_clash_92 (nbI _) rfl hP hS
        · refine tope (y := nI 2) (by rw [c_41]) ?_
          refine lv_lookup (tgt := 93) hx hb dX4_clash_41 (by decide) rfl (by decide) ?_
          refine lv_iload hx hb dX4_clash_93 (lv_at hl 0 rfl) ?_
          refine nv_if_ne (tgt := 102) hx hb dX4_clash_95 (by decide) (by decide) (fun c_95 => absurd c_95 (by decide)) (fun c_95 => ?_)
          refine lv_iconst (v := nI 1) hx hb dX4_clash_98 (by decide) ?_
          refine lv_goto (tgt := 103) hx hb dX4_clash_99 (by decide) ?_
          refine tope (y := bI (cl a d e_)) (by first | exact bI_f (by simp [cl, c_14, c_19, c_27, c_95, c_41]) | exact bI_t (by simp [cl, c_14, c_19, c_27, c_95, c_41])) ?_
          exact RET _ _ _ _ _ () dX4_clash_103 (nbI _) rfl hP hS
      · refine lv_iconst (v := nI 1) hx hb dX4_clash_30 (by decide) ?_
        refine lv_goto (tgt := 35) hx hb dX4_clash_31 (by decide) ?_
        refine lv_istore (lv' := [(5, .int (nI 1)), (4, .int (nI (hdL a e_))), (3, .int (nI (hdR a d))), (0, .ref h0), (1, .int (nI d)), (2, .int (nI e_))]) hx hb dX4_clash_35 hl (by decide) rfl (fun ls hl => ?_)
        refine lv_aload_n hx hb dX4_clash_37 rfl (lv_at hl 3 rfl) ?_
        refine call_r (q := (RX4, TX4, 1)) (As := []) (rest := []) F (c_X4_ruleNow l D cA h0 h1 h2 a) (cwV 0 hts gX4_clash_X4_ruleNow rfl rfl rfl ydv_X4_ruleNow ⟨Nat.le_of_ble_eq_true rfl, Nat.le_of_ble_eq_true rfl⟩) hK hR hP hD hA hS [0, 1, 2] rfl rfl 0 4 rfl rfl rfl hl.1 rfl (Nat.le_of_ble_eq_true rfl) dX4_clash_38 ⟨Nat.zero_le _, Nat.zero_le _⟩ (fun H locs hP hS => ?_)
        rcases (show a 0 = 0 ∨ a 0 = 1 ∨ a 0 = 2 from by omega) with c_41 | c_41 | c_41
        · refine tope (y := nI 0) (by rw [c_41]) ?_
          refine lv_lookup (tgt := 68) hx hb dX4_clash_41 (by decide) rfl (by decide) ?_
          refine lv_iload hx hb dX4_clash_68 (lv_at hl 0 rfl) ?_
          refine nv_if_eq (tgt := 88) hx hb dX4_clash_70 (by decide) (by decide) (fun c_70 => absurd c_70 (by decide)) (fun c_70 => ?_)
          refine lv_iload_n hx hb dX4_clash_73 rfl (lv_at hl 4 rfl) ?_
          refine call_n (As := [.int (nI d)]) (rest := []) F (c_X6_isMirrored l D cA d (by omega)) ⟨va_cnB 1 hts gX4_clash_X6_isMirrored_n40 rfl rfl rfl (hK.2 _ (List.mem_of_getElem? (i := 1) rfl)) (hts _ (List.mem_of_getElem? (i := 8) rfl)) yd_X6_isMirrored ⟨Nat.le_of_ble_eq_true rfl, Nat.le_of_ble_eq_true rfl⟩, (hts _ (List.mem_of_getElem? (i := 7) rfl)), trivial⟩ hK hR hP hD hA hS rfl hl.1 rfl (Nat.le_of_ble_eq_true rfl) dX4_clash_74 ⟨Nat.zero_le _, Nat.zero_le _⟩ (fun H locs hP hS => ?_)
          refine lv_iload_n hx hb dX4_clash_77 rfl (lv_at hl 5 rfl) ?_
          refine call_n (As := [.int (nI e_)]) (rest := [.int (bI (mr d))]) F (c_X6_isMirrored l D cA e_ (by omega)) ⟨va_cnB 1 hts gX4_clash_X6_isMirrored_n40 rfl rfl rfl (hK.2 _ (List.mem_of_getElem? (i := 1) rfl)) (hts _ (List.mem_of_getElem? (i := 8) rfl)) yd_X6_isMirrored ⟨Nat.le_of_ble_eq_true rfl, Nat.le_of_ble_eq_true rfl⟩, (hts _ (List.mem_of_getElem? (i := 7) rfl)), trivial⟩ hK hR hP hD hA hS rfl hl.1 rfl (Nat.le_of_ble_eq_true rfl) dX4_clash_78 ⟨Nat.zero_le _, Nat.zero_le _⟩ (fun H locs hP hS => ?_)
          refine bv_icmp_eq (tgt := 88) hx hb dX4_clash_81 (by decide) (fun c_81 => ?_) (fun c_81 => ?_)
          · refine lv_iconst (v := nI 0) hx hb dX4_clash_88 (by decide) ?_
            refine tope (y := bI (cl a d e_)) (by first | exact bI_f (by simp [cl, c_14, c_19, c_27, c_70, c_81, c_41]) | exact bI_t (by simp [cl, c_14, c_19, c_27, c_70, c_81, c_41])) ?_
            exact RET _ _ _ _ _ () dX4_clash_89 (nbI _) rfl hP hS
          · refine lv_iconst (v := nI 1) hx hb dX4_clash_84 (by decide) ?_
            refine lv_goto (tgt := 89) hx hb dX4_clash_85 (by decide) ?_
            refine tope (y := bI (cl a d e_)) (by first | exact bI_f (by simp [cl, c_14, c_19, c_27, c_70, c_81, c_41]) | exact bI_t (by simp [cl, c_14, c_19, c_27, c_70, c_81, c_41])) ?_
            exact RET _ _ _ _ _ () dX4_clash_89 (nbI _) rfl hP hS
        · refine tope (y := nI 1) (by rw [c_41]) ?_
          refine lv_lookup (tgt := 90) hx hb dX4_clash_41 (by decide) rfl (by decide) ?_
          refine lv_iload hx hb dX4_clash_90 (lv_at hl 0 rfl) ?_
          refine tope (y := bI (cl a d e_)) (by first | exact bI_f (by simp [cl, c_14, c_19, c_27, c_41]) | exact bI_t (by simp [cl, c_14, c_19, c_27, c_41])) ?_
          exact RET _ _ _ _ _ () dX4_clash_92 (nbI _) rfl hP hS
        · refine tope (y := nI 2) (by rw [c_41]) ?_
          refine lv_lookup (tgt := 93) hx hb dX4_clash_41 (by decide) rfl (by decide) ?_
          refine lv_iload hx hb dX4_clash_93 (lv_at hl 0 rfl) ?_
          refine nv_if_ne (tgt := 102) hx hb dX4_clash_95 (by decide) (by decide) (fun c_95 => ?_) (fun c_95 => absurd c_95 (by decide))
          refine lv_iconst (v := nI 0) hx hb dX4_clash_102 (by decide) ?_
          refine tope (y := bI (cl a d e_)) (by first | exact bI_f (by simp [cl, c_14, c_19, c_27, c_95, c_41]) | exact bI_t (by simp [cl, c_14, c_19, c_27, c_95, c_41])) ?_
          exact RET _ _ _ _ _ () dX4_clash_103 (nbI _) rfl hP hS
    · refine lv_iconst (v := nI 0) hx hb dX4_clash_22 (by decide) ?_
      refine tope (y := bI (cl a d e_)) (by first | exact bI_f (by simp [cl, c_14, c_19]) | exact bI_t (by simp [cl, c_14, c_19])) ?_
      exact RET _ _ _ _ _ () dX4_clash_23 (nbI _) rfl hP hS
abbrev rm_X4_freeNumber : Room := { frames := 2, cells := 0, slots := 0, locals := 42 }
theorem ydv_X4_freeNumber : yX4_freeNumber.cls = RX4 ∧ yX4_freeNumber.cls ≠ "java/lang/invoke/MethodHandle" ∧ yX4_freeNumber.cls ≠ "java/lang/invoke/VarHandle" ∧ (parseMethodDescriptor yX4_freeNumber.desc).map (fun d => d.parameters.length) = some 0 := by decide +kernel
set_option maxHeartbeats 4000000 in
set_option maxRecDepth 100000 in
theorem c_X4_freeNumber (l : Launch) (D : va_G) (cA : ClassId) (h0 h1 h2 : Nat) (a : Nat → Nat)  (hV : Vd a) : RO l D cA yX4_freeNumber wsX4_freeNumber rm_X4_freeNumber [.ref h0] [(h0, .inr (4, [.ref h1])), (h1, .inr (3, [.ref h2])), (h2, .inl (cA, 286, .inl (nF a)))] (frI (fr a)) := by
  refine ofWi (cc := cX4_freeNumber) (maxL := 2) (rt := .int) (by decide) rfl (Nat.le_of_ble_eq_true rfl) ?_
  intro p e s m args below meth c Q A ls F hK hR hP hD hA hS hl RET
  obtain ⟨hx, hb, hml, hown, hts⟩ := id F
  have hl : lv_has ls 2 [(0, .ref h0)] := hl
  refine lv_iconst (v := nI 0) hx hb dX4_freeNumber_0 (by decide) ?_
  refine lv_istore_n (lv' := [(1, .int (nI 0)), (0, .ref h0)]) hx hb dX4_freeNumber_1 rfl hl (by decide) rfl (fun ls hl => ?_)
  have LP_2 : ∀ (k_2 : Nat) (i : Nat) (H : Heap) (locs : List Loc) (ls : Array Slot), 8 - i = k_2 → (i ≤ 8) → (∀ j, j < i → ln a j ≠ 0) → va_P D vwCl [] H → va_D A [] → va_S A s.heap H locs → lv_has ls 2 [(0, .ref h0), (1, .int (nI i))] → W p l e rm_X4_freeNumber s m args below meth c H locs 0 0 Q (F0 m 2 ls []) := by
    refine sind (fun k_2 ih_2 => ?_)
    intro i H locs ls hk_2 hi hz hP hD hS hl
    refine lv_iload_n hx hb dX4_freeNumber_2 rfl (lv_at hl 1 rfl) ?_
    refine lv_bipush (v := nI 8) hx hb dX4_freeNumber_3 (by decide) ?_
    refine nv_icmp_ge (tgt := 24) hx hb dX4_freeNumber_5 (by decide) (by omega) (by decide) (fun c_5 => ?_) (fun c_5 => ?_)
    · refine lv_iconst (v := -1) hx hb dX4_freeNumber_24 (by decide) ?_
      refine tope (y := frI (fr a)) (by rw [fr_8 (fun j hj => hz j (by omega))]; rfl) ?_
      exact RET _ _ _ _ _ () dX4_freeNumber_25 rfl rfl hP hS
    · have hl32 := hV.l c_5
      refine lv_aload_n hx hb dX4_freeNumber_8 rfl (lv_at hl 0 rfl) ?_
      refine lv_iload_n hx hb dX4_freeNumber_9 rfl (lv_at hl 1 rfl) ?_
      refine call_r (q := (RX4, TX4, 1)) (As := [.int (nI i)]) (rest := []) F (c_X4_lengthOf l D cA h0 h1 h2 a i (by omega)) (cwV 1 hts gX4_freeNumber_X4_lengthOf rfl rfl rfl ydv_X4_lengthOf ⟨Nat.le_of_ble_eq_true rfl, Nat.le_of_ble_eq_true rfl⟩) hK hR hP hD hA hS [0, 1, 2] rfl rfl 0 4 rfl rfl rfl hl.1 rfl (Nat.le_of_ble_eq_true rfl) dX4_freeNumber_10 ⟨Nat.zero_le _, Nat.zero_le _⟩ (fun H locs hP hS => ?_)
      refine nv_if_ne (tgt := 18) hx hb dX4_freeNumber_13 (by decide) (by omega) (fun c_13 => ?_) (fun c_13 => ?_)
      · refine lv_iinc (v := nI (i + 1)) (lv' := [(1, .int (nI (i + 1))), (0, .ref h0)]) hx hb dX4_freeNumber_18 hl (k := 1) rfl (nI_add _ _) (by decide) rfl (fun ls hl => ?_)
        refine lv_goto (tgt := 2) hx hb dX4_freeNumber_21 (by decide) ?_
        exact ih_2 _ (by omega) (i + 1) _ _ _ rfl (by omega) (fun j hj => by by_cases e_ : j = i; (subst e_; exact c_13); exact hz j (by omega)) hP hD hS (lv_sub hl [1, 0] rfl)
      · refine lv_iload_n hx hb dX4_freeNumber_16 rfl (lv_at hl 1 rfl) ?_
        refine tope (y := frI (fr a)) (by rw [fr_at c_5 hz c_13, frI, if_neg (by omega)]) ?_
        exact RET _ _ _ _ _ () dX4_freeNumber_17 rfl rfl hP hS
  exact LP_2 _ 0 _ _ _ rfl (by omega) (fun j h_ => absurd h_ (Nat.not_lt_zero j)) hP hD hS (lv_sub hl [1, 0] rfl)
abbrev rm_X4_hasClashIn : Room := { frames := 3, cells := 0, slots := 0, locals := 67 }
theorem ydv_X4_hasClashIn : yX4_hasClashIn.cls = RX4 ∧ yX4_hasClashIn.cls ≠ "java/lang/invoke/MethodHandle" ∧ yX4_hasClashIn.cls ≠ "java/lang/invoke/VarHandle" ∧ (parseMethodDescriptor yX4_hasClashIn.desc).map (fun d => d.parameters.length) = some 3 := by decide +kernel
set_option maxHeartbeats 4000000 in
set_option maxRecDepth 100000 in
theorem c_X4_hasClashIn (l : Launch) (D : va_G) (cA : ClassId) (h0 h1 h2 : Nat) (a : Nat → Nat) (g0 g1 k : Nat) (b : Nat → Nat) (f z : Nat) (hV : Vd a) (hz : f + z ≤ k) (hk : k < 2 ^ 31) (hb_ : ∀ j, j < z → b (f + j) < 20) : RO l D cA yX4_hasClashIn wsX4_hasClashIn rm_X4_hasClashIn [.ref h0, .ref g0, .int (nI f), .int (nI z)] [(h0, .inr (4, [.ref h1])), (h1, .inr (3, [.ref h2])), (h2, .inl (cA, 286, .inl (nF a))), (g0, .inr (3, [.ref g1])), (g1, .inl (cA, k, .inl (nF b)))] (bI (clIn a b f z)) := by
  refine ofWi (cc := cX4_hasClashIn) (maxL := 5) (rt := .boolean) (by decide) rfl (Nat.le_of_ble_eq_true rfl) ?_
  intro p e s m args below meth c Q A ls F hK hR hP hD hA hS hl RET
  obtain ⟨hx, hb, hml, hown, hts⟩ := id F
  have hl : lv_has ls 5 [(0, .ref h0), (1, .ref g0), (2, .int (nI f)), (3, .int (nI z))] := hl
  refine lv_iconst (v := nI 1) hx hb dX4_hasClashIn_0 (by decide) ?_
  refine lv_istore (lv' := [(4, .int (nI 1)), (0, .ref h0), (1, .ref g0), (2, .int (nI f)), (3, .int (nI z))]) hx hb dX4_hasClashIn_1 hl (by decide) rfl (fun ls hl => ?_)
  have LP_3 : ∀ (k_3 : Nat) (i : Nat) (H : Heap) (locs : List Loc) (ls : Array Slot), z - (i + 1) = k_3 → (i = 0 ∨ i + 1 ≤ z) → (∀ j, j < i → cl a (b (f + (j + 1) - 1)) (b (f + (j + 1))) = false) → va_P D vwCl [] H → va_D A [] → va_S A s.heap H locs → lv_has ls 5 [(0, .ref h0), (1, .ref g0), (2, .int (nI f)), (3, .int (nI z)), (4, .int (nI (i + 1)))] → W p l e rm_X4_hasClashIn s m args below meth c H locs 0 0 Q (F0 m 3 ls []) := by
    refine sind (fun k_3 ih_3 => ?_)
    intro i H locs ls hk_3 hi hf hP hD hS hl
    refine lv_iload hx hb dX4_hasClashIn_3 (lv_at hl 4 rfl) ?_
    refine lv_iload_n hx hb dX4_hasClashIn_5 rfl (lv_at hl 3 rfl) ?_
    refine nv_icmp_ge (tgt := 42) hx hb dX4_hasClashIn_6 (by decide) (by omega) (by omega) (fun c_6 => ?_) (fun c_6 => ?_)
    · refine lv_iconst (v := nI 0) hx hb dX4_hasClashIn_42 (by decide) ?_
      refine tope (y := bI (clIn a b f z)) (bI_f (show clIn a b f z = false from anyB_f (fun j hj => hf j (by omega)))) ?_
      exact RET _ _ _ _ _ () dX4_hasClashIn_43 (nbI _) rfl hP hS
    · refine lv_aload_n hx hb dX4_hasClashIn_9 rfl (lv_at hl 0 rfl) ?_
      refine lv_aload_n hx hb dX4_hasClashIn_10 rfl (lv_at hl 1 rfl) ?_
      refine lv_iload_n hx hb dX4_hasClashIn_11 rfl (lv_at hl 2 rfl) ?_
      refine lv_iload hx hb dX4_hasClashIn_12 (lv_at hl 4 rfl) ?_
      refine nv_iadd hx hb dX4_hasClashIn_14 ?_
      refine lv_iconst (v := nI 1) hx hb dX4_hasClashIn_15 (by decide) ?_
      refine nv_isub hx hb dX4_hasClashIn_16 (by omega) ?_
      refine call_r (q := (RX3, TX3, 1)) (As := [.int (nI ((f + (i + 1)) - 1))]) (rest := [.ref h0]) F (c_X3_at l D cA g0 g1 k b ((f + (i + 1)) - 1) (by omega) (hk)) (cwV 1 hts gX4_hasClashIn_X3_at rfl rfl rfl ydv_X3_at ⟨Nat.le_of_ble_eq_true rfl, Nat.le_of_ble_eq_true rfl⟩) hK hR hP hD hA hS [3, 4] rfl rfl 3 3 rfl rfl rfl hl.1 rfl (Nat.le_of_ble_eq_true rfl) dX4_hasClashIn_17 ⟨Nat.zero_le _, Nat.zero_le _⟩ (fun H locs hP hS => ?_)
      refine lv_aload_n hx hb dX4_hasClashIn_20 rfl (lv_at hl 1 rfl) ?_
      refine lv_iload_n hx hb dX4_hasClashIn_21 rfl (lv_at hl 2 rfl) ?_
      refine lv_iload hx hb dX4_hasClashIn_22 (lv_at hl 4 rfl) ?_
      refine nv_iadd hx hb dX4_hasClashIn_24 ?_
      refine call_r (q := (RX3, TX3, 1)) (As := [.int (nI (f + (i + 1)))]) (rest := [.int (nI (b ((f + (i + 1)) - 1))), .ref h0]) F (c_X3_at l D cA g0 g1 k b (f + (i + 1)) (by omega) (hk)) (cwV 1 hts gX4_hasClashIn_X3_at rfl rfl rfl ydv_X3_at ⟨Nat.le_of_ble_eq_true rfl, Nat.le_of_ble_eq_true rfl⟩) hK hR hP hD hA hS [3, 4] rfl rfl 3 3 rfl rfl rfl hl.1 rfl (Nat.le_of_ble_eq_true rfl) dX4_hasClashIn_25 ⟨Nat.zero_le _, Nat.zero_le _⟩ (fun H locs hP hS => ?_)
      refine call_r (q := (RX4, TX4, 1)) (As := [.int (nI (b ((f + (i + 1)) - 1))), .int (nI (b (f + (i + 1))))]) (rest := []) F (c_X4_clash l D cA h0 h1 h2 a (b ((f + (i + 1)) - 1)) (b (f + (i + 1))) (hV.r) (by have := hb_ i (by omega); rw [show f + (i + 1) - 1 = f + i by omega]; exact this) (hb_ (i + 1) (by omega)) (hV)) (cwV 2 hts gX4_hasClashIn_X4_clash rfl rfl rfl ydv_X4_clash ⟨Nat.le_of_ble_eq_true rfl, Nat.le_of_ble_eq_true rfl⟩) hK hR hP hD hA hS [0, 1, 2] rfl rfl 0 4 rfl rfl rfl hl.1 rfl (Nat.le_of_ble_eq_true rfl) dX4_hasClashIn_28 ⟨Nat.zero_le _, Nat.zero_le _⟩ (fun H locs hP hS => ?_)
      refine bv_if_eq (tgt := 36) hx hb dX4_hasClashIn_31 (by decide) (fun c_31 => ?_) (fun c_31 => ?_)
      · refine lv_iinc (v := nI ((i + 1) + 1)) (lv' := [(4, .int (nI ((i + 1) + 1))), (0, .ref h0), (1, .ref g0), (2, .int (nI f)), (3, .int (nI z))]) hx hb dX4_hasClashIn_36 hl (k := 4) rfl (nI_add _ _) (by decide) rfl (fun ls hl => ?_)
        refine lv_goto (tgt := 3) hx hb dX4_hasClashIn_39 (by decide) ?_
        exact ih_3 _ (by omega) (i + 1) _ _ _ rfl (by omega) (fun j hj => by by_cases e_ : j = i; (subst e_; exact c_31); exact hf j (by omega)) hP hD hS (lv_sub hl [1, 2, 3, 4, 0] rfl)
      · refine lv_iconst (v := nI 1) hx hb dX4_hasClashIn_34 (by decide) ?_
        refine tope (y := bI (clIn a b f z)) (bI_t (show clIn a b f z = true from anyB_t i (by omega) c_31)) ?_
        exact RET _ _ _ _ _ () dX4_hasClashIn_35 (nbI _) rfl hP hS
  exact LP_3 _ 0 _ _ _ rfl (by omega) (fun j h_ => absurd h_ (Nat.not_lt_zero j)) hP hD hS (lv_sub hl [1, 2, 3, 4, 0] rfl)
set_option maxHeartbeats 4000000 in
set_option maxRecDepth 100000 in
theorem c_X4_hasClashInS (l : Launch) (D : va_G) (cA : ClassId) (h0 h1 h2 : Nat) (a : Nat → Nat) (f z : Nat) (hV : Vd a) (hz : f + z ≤ 286) (hb_ : ∀ j, j < z → a (f + j) < 20) : RO l D cA yX4_hasClashIn wsX4_hasClashIn rm_X4_hasClashIn [.ref h0, .ref h1, .int (nI f), .int (nI z)] [(h0, .inr (4, [.ref h1])), (h1, .inr (3, [.ref h2])), (h2, .inl (cA, 286, .inl (nF a)))] (bI (clIn a a f z)) := by
  refine ofWi (cc := cX4_hasClashIn) (maxL := 5) (rt := .boolean) (by decide) rfl (Nat.le_of_ble_eq_true rfl) ?_
  intro p e s m args below meth c Q A ls F hK hR hP hD hA hS hl RET
  obtain ⟨hx, hb, hml, hown, hts⟩ := id F
  have hl : lv_has ls 5 [(0, .ref h0), (1, .ref h1), (2, .int (nI f)), (3, .int (nI z))] := hl
  refine lv_iconst (v := nI 1) hx hb dX4_hasClashIn_0 (by decide) ?_
  refine lv_istore (lv' := [(4, .int (nI 1)), (0, .ref h0), (1, .ref h1), (2, .int (nI f)), (3, .int (nI z))]) hx hb dX4_hasClashIn_1 hl (by decide) rfl (fun ls hl => ?_)
  have LP_3 : ∀ (k_3 : Nat) (i : Nat) (H : Heap) (locs : List Loc) (ls : Array Slot), z - (i + 1) = k_3 → (i = 0 ∨ i + 1 ≤ z) → (∀ j, j < i → cl a (a (f + (j + 1) - 1)) (a (f + (j + 1))) = false) → va_P D vwCl [] H → va_D A [] → va_S A s.heap H locs → lv_has ls 5 [(0, .ref h0), (1, .ref h1), (2, .int (nI f)), (3, .int (nI z)), (4, .int (nI (i + 1)))] → W p l e rm_X4_hasClashIn s m args below meth c H locs 0 0 Q (F0 m 3 ls []) := by
    refine sind (fun k_3 ih_3 => ?_)
    intro i H locs ls hk_3 hi hf hP hD hS hl
    refine lv_iload hx hb dX4_hasClashIn_3 (lv_at hl 4 rfl) ?_
    refine lv_iload_n hx hb dX4_hasClashIn_5 rfl (lv_at hl 3 rfl) ?_
    refine nv_icmp_ge (tgt := 42) hx hb dX4_hasClashIn_6 (by decide) (by omega) (by omega) (fun c_6 => ?_) (fun c_6 => ?_)
    · refine lv_iconst (v := nI 0) hx hb dX4_hasClashIn_42 (by decide) ?_
      refine tope (y := bI (clIn a a f z)) (bI_f (show clIn a a f z = false from anyB_f (fun j hj => hf j (by omega)))) ?_
      exact RET _ _ _ _ _ () dX4_hasClashIn_43 (nbI _) rfl hP hS
    · refine lv_aload_n hx hb dX4_hasClashIn_9 rfl (lv_at hl 0 rfl) ?_
      refine lv_aload_n hx hb dX4_hasClashIn_10 rfl (lv_at hl 1 rfl) ?_
      refine lv_iload_n hx hb dX4_hasClashIn_11 rfl (lv_at hl 2 rfl) ?_
      refine lv_iload hx hb dX4_hasClashIn_12 (lv_at hl 4 rfl) ?_
      refine nv_iadd hx hb dX4_hasClashIn_14 ?_
      refine lv_iconst (v := nI 1) hx hb dX4_hasClashIn_15 (by decide) ?_
      refine nv_isub hx hb dX4_hasClashIn_16 (by omega) ?_
      refine call_r (q := (RX3, TX3, 1)) (As := [.int (nI ((f + (i + 1)) - 1))]) (rest := [.ref h0]) F (c_X3_at l D cA h1 h2 286 a ((f + (i + 1)) - 1) (by omega) (by decide)) (cwV 1 hts gX4_hasClashIn_X3_at rfl rfl rfl ydv_X3_at ⟨Nat.le_of_ble_eq_true rfl, Nat.le_of_ble_eq_true rfl⟩) hK hR hP hD hA hS [1, 2] rfl rfl 1 3 rfl rfl rfl hl.1 rfl (Nat.le_of_ble_eq_true rfl) dX4_hasClashIn_17 ⟨Nat.zero_le _, Nat.zero_le _⟩ (fun H locs hP hS => ?_)
      refine lv_aload_n hx hb dX4_hasClashIn_20 rfl (lv_at hl 1 rfl) ?_
      refine lv_iload_n hx hb dX4_hasClashIn_21 rfl (lv_at hl 2 rfl) ?_
      refine lv_iload hx hb dX4_hasClashIn_22 (lv_at hl 4 rfl) ?_
      refine nv_iadd hx hb dX4_hasClashIn_24 ?_
      refine call_r (q := (RX3, TX3, 1)) (As := [.int (nI (f + (i + 1)))]) (rest := [.int (nI (a ((f + (i + 1)) - 1))), .ref h0]) F (c_X3_at l D cA h1 h2 286 a (f + (i + 1)) (by omega) (by decide)) (cwV 1 hts gX4_hasClashIn_X3_at rfl rfl rfl ydv_X3_at ⟨Nat.le_of_ble_eq_true rfl, Nat.le_of_ble_eq_true rfl⟩) hK hR hP hD hA hS [1, 2] rfl rfl 1 3 rfl rfl rfl hl.1 rfl (Nat.le_of_ble_eq_true rfl) dX4_hasClashIn_25 ⟨Nat.zero_le _, Nat.zero_le _⟩ (fun H locs hP hS => ?_)
      refine call_r (q := (RX4, TX4, 1)) (As := [.int (nI (a ((f + (i + 1)) - 1))), .int (nI (a (f + (i + 1))))]) (rest := []) F (c_X4_clash l D cA h0 h1 h2 a (a ((f + (i + 1)) - 1)) (a (f + (i + 1))) (hV.r) (by have := hb_ i (by omega); rw [show f + (i + 1) - 1 = f + i by omega]; exact this) (hb_ (i + 1) (by omega)) (hV)) (cwV 2 hts gX4_hasClashIn_X4_clash rfl rfl rfl ydv_X4_clash ⟨Nat.le_of_ble_eq_true rfl, Nat.le_of_ble_eq_true rfl⟩) hK hR hP hD hA hS [0, 1, 2] rfl rfl 0 4 rfl rfl rfl hl.1 rfl (Nat.le_of_ble_eq_true rfl) dX4_hasClashIn_28 ⟨Nat.zero_le _, Nat.zero_le _⟩ (fun H locs hP hS => ?_)
      refine bv_if_eq (tgt := 36) hx hb dX4_hasClashIn_31 (by decide) (fun c_31 => ?_) (fun c_31 => ?_)
      · refine lv_iinc (v := nI ((i + 1) + 1)) (lv' := [(4, .int (nI ((i + 1) + 1))), (0, .ref h0), (1, .ref h1), (2, .int (nI f)), (3, .int (nI z))]) hx hb dX4_hasClashIn_36 hl (k := 4) rfl (nI_add _ _) (by decide) rfl (fun ls hl => ?_)
        refine lv_goto (tgt := 3) hx hb dX4_hasClashIn_39 (by decide) ?_
        exact ih_3 _ (by omega) (i + 1) _ _ _ rfl (by omega) (fun j hj => by by_cases e_ : j = i; (subst e_; exact c_31); exact hf j (by omega)) hP hD hS (lv_sub hl [1, 2, 3, 4, 0] rfl)
      · refine lv_iconst (v := nI 1) hx hb dX4_hasClashIn_34 (by decide) ?_
        refine tope (y := bI (clIn a a f z)) (bI_t (show clIn a a f z = true from anyB_t i (by omega) c_31)) ?_
        exact RET _ _ _ _ _ () dX4_hasClashIn_35 (nbI _) rfl hP hS
  exact LP_3 _ 0 _ _ _ rfl (by omega) (fun j h_ => absurd h_ (Nat.not_lt_zero j)) hP hD hS (lv_sub hl [1, 2, 3, 4, 0] rfl)
abbrev rm_X4_hasClash : Room := { frames := 4, cells := 0, slots := 0, locals := 91 }
theorem ydv_X4_hasClash : yX4_hasClash.cls = RX4 ∧ yX4_hasClash.cls ≠ "java/lang/invoke/MethodHandle" ∧ yX4_hasClash.cls ≠ "java/lang/invoke/VarHandle" ∧ (parseMethodDescriptor yX4_hasClash.desc).map (fun d => d.parameters.length) = some 0 := by decide +kernel
theorem inf_X4_hasClash_X4 : ∀ w ∈ wsX40, w ∈ wsX4_hasClash := fun w h => List.mem_cons_of_mem _ (List.mem_append_left _ (List.mem_append_right _ (h)))
set_option maxHeartbeats 4000000 in
set_option maxRecDepth 100000 in
theorem c_X4_hasClash (l : Launch) (D : va_G) (cA : ClassId) (h0 h1 h2 : Nat) (a : Nat → Nat)  (hV : Vd a) : RO l D cA yX4_hasClash wsX4_hasClash rm_X4_hasClash [.ref h0] [(h0, .inr (4, [.ref h1])), (h1, .inr (3, [.ref h2])), (h2, .inl (cA, 286, .inl (nF a)))] (bI (hasCl a)) := by
  refine ofWi (cc := cX4_hasClash) (maxL := 2) (rt := .boolean) (by decide) rfl (Nat.le_of_ble_eq_true rfl) ?_
  intro p e s m args below meth c Q A ls F hK hR hP hD hA hS hl RET
  obtain ⟨hx, hb, hml, hown, hts⟩ := id F
  have hl : lv_has ls 2 [(0, .ref h0)] := hl
  refine lv_iconst (v := nI 0) hx hb dX4_hasClash_0 (by decide) ?_
  refine lv_istore_n (lv' := [(1, .int (nI 0)), (0, .ref h0)]) hx hb dX4_hasClash_1 rfl hl (by decide) rfl (fun ls hl => ?_)
  have LP_2 : ∀ (k_2 : Nat) (i : Nat) (H : Heap) (locs : List Loc) (ls : Array Slot), 8 - i = k_2 → (i ≤ 8) → (∀ j, j < i → clIn a a (30 + j * 32 + 0) (ln a j) = false) → va_P D vwCl [] H → va_D A [] → va_S A s.heap H locs → lv_has ls 2 [(0, .ref h0), (1, .int (nI i))] → W p l e rm_X4_hasClash s m args below meth c H locs 0 0 Q (F0 m 2 ls []) := by
    refine sind (fun k_2 ih_2 => ?_)
    intro i H locs ls hk_2 hi hf hP hD hS hl
    refine lv_iload_n hx hb dX4_hasClash_2 rfl (lv_at hl 1 rfl) ?_
    refine lv_bipush (v := nI 8) hx hb dX4_hasClash_3 (by decide) ?_
    refine nv_icmp_ge (tgt := 38) hx hb dX4_hasClash_5 (by decide) (by omega) (by decide) (fun c_5 => ?_) (fun c_5 => ?_)
    · refine lv_iconst (v := nI 0) hx hb dX4_hasClash_38 (by decide) ?_
      refine tope (y := bI (hasCl a)) (bI_f (show hasCl a = false from anyB_f (fun j hj => hf j (by omega)))) ?_
      exact RET _ _ _ _ _ () dX4_hasClash_39 (nbI _) rfl hP hS
    · have hl32 := hV.l c_5
      refine lv_aload_n hx hb dX4_hasClash_8 rfl (lv_at hl 0 rfl) ?_
      refine lv_aload_n hx hb dX4_hasClash_9 rfl (lv_at hl 0 rfl) ?_
      refine va_get (D := D) (cl := vwCl) (ci := 4) (v := .ref h1) (C := RX4) (T := TX4) (N := 1) hx hb hts inf_X4_hasClash_X4 hown hK.1 (hR.at hS) 0 rfl rfl 0 (by decide) (hts _ (List.mem_of_getElem? (i := 1) rfl)) (fun _ h9 => h9) rfl dX4_hasClash_10 ?_
      refine lv_aload_n hx hb dX4_hasClash_13 rfl (lv_at hl 0 rfl) ?_
      refine lv_iload_n hx hb dX4_hasClash_14 rfl (lv_at hl 1 rfl) ?_
      refine lv_iconst (v := nI 0) hx hb dX4_hasClash_15 (by decide) ?_
      refine call_r (q := (RX4, TX4, 1)) (As := [.int (nI i), .int (nI 0)]) (rest := [.ref h1, .ref h0]) F (c_X4_cellOf l D cA h0 ([.ref h1]) i 0) (cwV 2 hts gX4_hasClash_X4_cellOf rfl rfl rfl ydv_X4_cellOf ⟨Nat.le_of_ble_eq_true rfl, Nat.le_of_ble_eq_true rfl⟩) hK hR hP hD hA hS [0] rfl rfl 0 4 rfl rfl rfl hl.1 rfl (Nat.le_of_ble_eq_true rfl) dX4_hasClash_16 ⟨Nat.zero_le _, Nat.zero_le _⟩ (fun H locs hP hS => ?_)
      refine lv_aload_n hx hb dX4_hasClash_19 rfl (lv_at hl 0 rfl) ?_
      refine lv_iload_n hx hb dX4_hasClash_20 rfl (lv_at hl 1 rfl) ?_
      refine call_r (q := (RX4, TX4, 1)) (As := [.int (nI i)]) (rest := [.int (nI (30 + i * 32 + 0)), .ref h1, .ref h0]) F (c_X4_lengthOf l D cA h0 h1 h2 a i (by omega)) (cwV 1 hts gX4_hasClash_X4_lengthOf rfl rfl rfl ydv_X4_lengthOf ⟨Nat.le_of_ble_eq_true rfl, Nat.le_of_ble_eq_true rfl⟩) hK hR hP hD hA hS [0, 1, 2] rfl rfl 0 4 rfl rfl rfl hl.1 rfl (Nat.le_of_ble_eq_true rfl) dX4_hasClash_21 ⟨Nat.zero_le _, Nat.zero_le _⟩ (fun H locs hP hS => ?_)
      refine call_r (q := (RX4, TX4, 1)) (As := [.ref h1, .int (nI (30 + i * 32 + 0)), .int (nI (ln a i))]) (rest := []) F (c_X4_hasClashInS l D cA h0 h1 h2 a (30 + i * 32 + 0) (ln a i) (hV) (by omega) (fun j hj => hV.d (g := i) (q := j) c_5 (by omega))) (cwV 3 hts gX4_hasClash_X4_hasClashIn rfl rfl rfl ydv_X4_hasClashIn ⟨Nat.le_of_ble_eq_true rfl, Nat.le_of_ble_eq_true rfl⟩) hK hR hP hD hA hS [0, 1, 2] rfl rfl 0 4 rfl rfl rfl hl.1 rfl (Nat.le_of_ble_eq_true rfl) dX4_hasClash_24 ⟨Nat.zero_le _, Nat.zero_le _⟩ (fun H locs hP hS => ?_)
      refine bv_if_eq (tgt := 32) hx hb dX4_hasClash_27 (by decide) (fun c_27 => ?_) (fun c_27 => ?_)
      · refine lv_iinc (v := nI (i + 1)) (lv' := [(1, .int (nI (i + 1))), (0, .ref h0)]) hx hb dX4_hasClash_32 hl (k := 1) rfl (nI_add _ _) (by decide) rfl (fun ls hl => ?_)
        refine lv_goto (tgt := 2) hx hb dX4_hasClash_35 (by decide) ?_
        exact ih_2 _ (by omega) (i + 1) _ _ _ rfl (by omega) (fun j hj => by by_cases e_ : j = i; (subst e_; exact c_27); exact hf j (by omega)) hP hD hS (lv_sub hl [1, 0] rfl)
      · refine lv_iconst (v := nI 1) hx hb dX4_hasClash_30 (by decide) ?_
        refine tope (y := bI (hasCl a)) (bI_t (show hasCl a = true from anyB_t i c_5 c_27)) ?_
        exact RET _ _ _ _ _ () dX4_hasClash_31 (nbI _) rfl hP hS
  exact LP_2 _ 0 _ _ _ rfl (by omega) (fun j h_ => absurd h_ (Nat.not_lt_zero j)) hP hD hS (lv_sub hl [1, 0] rfl)
abbrev rm_X4_hasKindsOf : Room := { frames := 3, cells := 0, slots := 0, locals := 62 }
theorem ydv_X4_hasKindsOf : yX4_hasKindsOf.cls = RX4 ∧ yX4_hasKindsOf.cls ≠ "java/lang/invoke/MethodHandle" ∧ yX4_hasKindsOf.cls ≠ "java/lang/invoke/VarHandle" ∧ (parseMethodDescriptor yX4_hasKindsOf.desc).map (fun d => d.parameters.length) = some 2 := by decide +kernel
set_option maxHeartbeats 4000000 in
set_option maxRecDepth 100000 in
theorem c_X4_hasKindsOf (l : Launch) (D : va_G) (cA : ClassId) (h0 h1 h2 : Nat) (a : Nat → Nat) (g0 g1 k : Nat) (b : Nat → Nat) (z : Nat) (hka : a 1 < 2 ^ 31) (hz : z ≤ k) (hk : k < 2 ^ 31) (hb_ : ∀ j, j < z → b j < 20) : RO l D cA yX4_hasKindsOf wsX4_hasKindsOf rm_X4_hasKindsOf [.ref h0, .ref g0, .int (nI z)] [(h0, .inr (4, [.ref h1])), (h1, .inr (3, [.ref h2])), (h2, .inl (cA, 286, .inl (nF a))), (g0, .inr (3, [.ref g1])), (g1, .inl (cA, k, .inl (nF b)))] (bI (hasKs a b z)) := by
  refine ofWi (cc := cX4_hasKindsOf) (maxL := 4) (rt := .boolean) (by decide) rfl (Nat.le_of_ble_eq_true rfl) ?_
  intro p e s m args below meth c Q A ls F hK hR hP hD hA hS hl RET
  obtain ⟨hx, hb, hml, hown, hts⟩ := id F
  have hl : lv_has ls 4 [(0, .ref h0), (1, .ref g0), (2, .int (nI z))] := hl
  refine lv_iconst (v := nI 0) hx hb dX4_hasKindsOf_0 (by decide) ?_
  refine lv_istore_n (lv' := [(3, .int (nI 0)), (0, .ref h0), (1, .ref g0), (2, .int (nI z))]) hx hb dX4_hasKindsOf_1 rfl hl (by decide) rfl (fun ls hl => ?_)
  have LP_2 : ∀ (k_2 : Nat) (i : Nat) (H : Heap) (locs : List Loc) (ls : Array Slot), z - i = k_2 → (i ≤ z) → (∀ j, j < i → decide (b j / 2 < a 1) = true) → va_P D vwCl [] H → va_D A [] → va_S A s.heap H locs → lv_has ls 4 [(0, .ref h0), (1, .ref g0), (2, .int (nI z)), (3, .int (nI i))] → W p l e rm_X4_hasKindsOf s m args below meth c H locs 0 0 Q (F0 m 2 ls []) := by
    refine sind (fun k_2 ih_2 => ?_)
    intro i H locs ls hk_2 hi hf hP hD hS hl
    refine lv_iload_n hx hb dX4_hasKindsOf_2 rfl (lv_at hl 3 rfl) ?_
    refine lv_iload_n hx hb dX4_hasKindsOf_3 rfl (lv_at hl 2 rfl) ?_
    refine nv_icmp_ge (tgt := 30) hx hb dX4_hasKindsOf_4 (by decide) (by omega) (by omega) (fun c_4 => ?_) (fun c_4 => ?_)
    · refine lv_iconst (v := nI 1) hx hb dX4_hasKindsOf_30 (by decide) ?_
      refine tope (y := bI (hasKs a b z)) (bI_t (show hasKs a b z = true from allB_t (fun j hj => hf j (by omega)))) ?_
      exact RET _ _ _ _ _ () dX4_hasKindsOf_31 (nbI _) rfl hP hS
    · refine lv_aload_n hx hb dX4_hasKindsOf_7 rfl (lv_at hl 0 rfl) ?_
      refine lv_aload_n hx hb dX4_hasKindsOf_8 rfl (lv_at hl 1 rfl) ?_
      refine lv_iload_n hx hb dX4_hasKindsOf_9 rfl (lv_at hl 3 rfl) ?_
      refine call_r (q := (RX3, TX3, 1)) (As := [.int (nI i)]) (rest := [.ref h0]) F (c_X3_at l D cA g0 g1 k b i (by omega) (hk)) (cwV 1 hts gX4_hasKindsOf_X3_at rfl rfl rfl ydv_X3_at ⟨Nat.le_of_ble_eq_true rfl, Nat.le_of_ble_eq_true rfl⟩) hK hR hP hD hA hS [3, 4] rfl rfl 3 3 rfl rfl rfl hl.1 rfl (Nat.le_of_ble_eq_true rfl) dX4_hasKindsOf_10 ⟨Nat.zero_le _, Nat.zero_le _⟩ (fun H locs hP hS => ?_)
      refine call_n (As := [.int (nI (b i))]) (rest := [.ref h0]) F (c_X6_kindOf l D cA (b i) (by have := hb_ i c_4; omega)) ⟨va_cnB 1 hts gX4_hasKindsOf_X6_kindOf_n44 rfl rfl rfl (hK.2 _ (List.mem_of_getElem? (i := 2) rfl)) (hts _ (List.mem_of_getElem? (i := 8) rfl)) yd_X6_kindOf ⟨Nat.le_of_ble_eq_true rfl, Nat.le_of_ble_eq_true rfl⟩, (hts _ (List.mem_of_getElem? (i := 7) rfl)), trivial⟩ hK hR hP hD hA hS rfl hl.1 rfl (Nat.le_of_ble_eq_true rfl) dX4_hasKindsOf_13 ⟨Nat.zero_le _, Nat.zero_le _⟩ (fun H locs hP hS => ?_)
      refine call_r (q := (RX4, TX4, 1)) (As := [.int (nI ((b i) / 2))]) (rest := []) F (c_X4_hasKind l D cA h0 h1 h2 a (nI ((b i) / 2)) (hka)) (cwV 1 hts gX4_hasKindsOf_X4_hasKind rfl rfl rfl ydv_X4_hasKind ⟨Nat.le_of_ble_eq_true rfl, Nat.le_of_ble_eq_true rfl⟩) hK hR hP hD hA hS [0, 1, 2] rfl rfl 0 4 rfl rfl rfl hl.1 rfl (Nat.le_of_ble_eq_true rfl) dX4_hasKindsOf_16 ⟨Nat.zero_le _, Nat.zero_le _⟩ (fun H locs hP hS => ?_)
      refine bv_if_ne (tgt := 24) hx hb dX4_hasKindsOf_19 (by decide) (fun c_19 => ?_) (fun c_19 => ?_)
      · refine lv_iinc (v := nI (i + 1)) (lv' := [(3, .int (nI (i + 1))), (0, .ref h0), (1, .ref g0), (2, .int (nI z))]) hx hb dX4_hasKindsOf_24 hl (k := 3) rfl (nI_add _ _) (by decide) rfl (fun ls hl => ?_)
        refine lv_goto (tgt := 2) hx hb dX4_hasKindsOf_27 (by decide) ?_
        exact ih_2 _ (by omega) (i + 1) _ _ _ rfl (by omega) (fun j hj => by by_cases e_ : j = i; (rw [e_]; exact ((isB_nI (by have := hb_ i c_4; omega)).symm.trans c_19)); exact hf j (by omega)) hP hD hS (lv_sub hl [1, 2, 3, 0] rfl)
      · refine lv_iconst (v := nI 0) hx hb dX4_hasKindsOf_22 (by decide) ?_
        refine tope (y := bI (hasKs a b z)) (bI_f (show hasKs a b z = false from allB_f i c_4 ((isB_nI (by have := hb_ i c_4; omega)).symm.trans c_19))) ?_
        exact RET _ _ _ _ _ () dX4_hasKindsOf_23 (nbI _) rfl hP hS
  exact LP_2 _ 0 _ _ _ rfl (by omega) (fun j h_ => absurd h_ (Nat.not_lt_zero j)) hP hD hS (lv_sub hl [1, 2, 3, 0] rfl)
abbrev rm_X4_saveTo : Room := { frames := 2, cells := 0, slots := 0, locals := 50 }
theorem ydv_X4_saveTo : yX4_saveTo.cls = RX4 ∧ yX4_saveTo.cls ≠ "java/lang/invoke/MethodHandle" ∧ yX4_saveTo.cls ≠ "java/lang/invoke/VarHandle" ∧ (parseMethodDescriptor yX4_saveTo.desc).map (fun d => d.parameters.length) = some 2 := by decide +kernel
theorem inf_X4_saveTo_X4 : ∀ w ∈ wsX40, w ∈ wsX4_saveTo := fun w h => List.mem_cons_of_mem _ (List.mem_append_left _ (List.mem_append_right _ (h)))
set_option maxHeartbeats 4000000 in
set_option maxRecDepth 100000 in
theorem c_X4_saveTo (l : Launch) (D : va_G) (cA : ClassId) (h0 h1 h2 : Nat) (a : Nat → Nat) (g0 g1 n : Nat) (b : Nat → Nat) (t : Nat) (e1 : t + 286 ≤ n) (hn : n < 2 ^ 31) : MV l D cA yX4_saveTo wsX4_saveTo rm_X4_saveTo [.ref h0, .ref g0, .int (nI t)] [(h0, .inr (4, [.ref h1])), (h1, .inr (3, [.ref h2])), (g0, .inr (3, [.ref g1]))] [(h2, .inl (cA, 286, .inl (nF a))), (g1, .inl (cA, n, .inl (nF b)))] (S := Unit) (fun _ => True) (fun _ => [(h2, .inl (cA, 286, .inl (nF a))), (g1, .inl (cA, n, .inl (nF (cpyN a b 0 t 286))))]) := by
  refine ofWv (cc := cX4_saveTo) (maxL := 3) (by decide) rfl (Nat.le_of_ble_eq_true rfl) ?_
  intro p e s m args below meth c Q A ls F hK hR hP hD hA hS hl RET
  obtain ⟨hx, hb, hml, hown, hts⟩ := id F
  have hl : lv_has ls 3 [(0, .ref h0), (1, .ref g0), (2, .int (nI t))] := hl
  refine lv_aload_n hx hb dX4_saveTo_0 rfl (lv_at hl 1 rfl) ?_
  refine lv_aload_n hx hb dX4_saveTo_1 rfl (lv_at hl 0 rfl) ?_
  refine va_get (D := D) (cl := vwCl) (ci := 4) (v := .ref h1) (C := RX4) (T := TX4) (N := 1) hx hb hts inf_X4_saveTo_X4 hown hK.1 (hR.at hS) 0 rfl rfl 0 (by decide) (hts _ (List.mem_of_getElem? (i := 1) rfl)) (fun _ h9 => h9) rfl dX4_saveTo_2 ?_
  refine lv_iconst (v := nI 0) hx hb dX4_saveTo_5 (by decide) ?_
  refine lv_iload_n hx hb dX4_saveTo_6 rfl (lv_at hl 2 rfl) ?_
  refine lv_sipush (v := nI 286) hx hb dX4_saveTo_7 (by decide) ?_
  refine call_v (q := (RX3, TX3, 1)) (As := [.ref h1, .int (nI 0), .int (nI t), .int (nI 286)]) (rest := []) F (c_X3_copyFrom l D cA g0 g1 h1 h2 n 286 b a 0 t 286 (by omega) (by omega) (hn) (by decide)) (cwV 4 hts gX4_saveTo_X3_copyFrom rfl rfl rfl ydv_X3_copyFrom ⟨Nat.le_of_ble_eq_true rfl, Nat.le_of_ble_eq_true rfl⟩) hK hR hP hD hA hS [2, 1, 3, 4] [0, 1] rfl rfl rfl 2 3 rfl rfl (fun _ => rfl) rfl hl.1 rfl (Nat.le_of_ble_eq_true rfl) dX4_saveTo_10 ⟨Nat.zero_le _, Nat.zero_le _⟩ (fun u_10 H locs hw hP hD hS => ?_)
  have hP : va_P D vwCl [(h2, .inl (cA, 286, .inl (nF a))), (g1, .inl (cA, n, .inl (nF (cpyN a b 0 t 286))))] H := hP
  have hD : va_D A [(h2, .inl (cA, 286, .inl (nF a))), (g1, .inl (cA, n, .inl (nF (cpyN a b 0 t 286))))] := hD
  exact RET _ _ _ _ () dX4_saveTo_13 trivial hP hS
abbrev rm_X4_loadFrom : Room := { frames := 2, cells := 0, slots := 0, locals := 50 }
theorem ydv_X4_loadFrom : yX4_loadFrom.cls = RX4 ∧ yX4_loadFrom.cls ≠ "java/lang/invoke/MethodHandle" ∧ yX4_loadFrom.cls ≠ "java/lang/invoke/VarHandle" ∧ (parseMethodDescriptor yX4_loadFrom.desc).map (fun d => d.parameters.length) = some 2 := by decide +kernel
theorem inf_X4_loadFrom_X4 : ∀ w ∈ wsX40, w ∈ wsX4_loadFrom := fun w h => List.mem_cons_of_mem _ (List.mem_append_left _ (List.mem_append_right _ (h)))
set_option maxHeartbeats 4000000 in
set_option maxRecDepth 100000 in
theorem c_X4_loadFrom (l : Launch) (D : va_G) (cA : ClassId) (h0 h1 h2 : Nat) (a : Nat → Nat) (g0 g1 n : Nat) (b : Nat → Nat) (t : Nat) (e1 : t + 286 ≤ n) (hn : n < 2 ^ 31) : MV l D cA yX4_loadFrom wsX4_loadFrom rm_X4_loadFrom [.ref h0, .ref g0, .int (nI t)] [(h0, .inr (4, [.ref h1])), (h1, .inr (3, [.ref h2])), (g0, .inr (3, [.ref g1]))] [(g1, .inl (cA, n, .inl (nF b))), (h2, .inl (cA, 286, .inl (nF a)))] (S := Unit) (fun _ => True) (fun _ => [(g1, .inl (cA, n, .inl (nF b))), (h2, .inl (cA, 286, .inl (nF (cpyN b a t 0 286))))]) := by
  refine ofWv (cc := cX4_loadFrom) (maxL := 3) (by decide) rfl (Nat.le_of_ble_eq_true rfl) ?_
  intro p e s m args below meth c Q A ls F hK hR hP hD hA hS hl RET
  obtain ⟨hx, hb, hml, hown, hts⟩ := id F
  have hl : lv_has ls 3 [(0, .ref h0), (1, .ref g0), (2, .int (nI t))] := hl
  refine lv_aload_n hx hb dX4_loadFrom_0 rfl (lv_at hl 0 rfl) ?_
  refine va_get (D := D) (cl := vwCl) (ci := 4) (v := .ref h1) (C := RX4) (T := TX4) (N := 1) hx hb hts inf_X4_loadFrom_X4 hown hK.1 (hR.at hS) 0 rfl rfl 0 (by decide) (hts _ (List.mem_of_getElem? (i := 1) rfl)) (fun _ h9 => h9) rfl dX4_loadFrom_1 ?_
  refine lv_aload_n hx hb dX4_loadFrom_4 rfl (lv_at hl 1 rfl) ?_
  refine lv_iload_n hx hb dX4_loadFrom_5 rfl (lv_at hl 2 rfl) ?_
  refine lv_iconst (v := nI 0) hx hb dX4_loadFrom_6 (by decide) ?_
  refine lv_sipush (v := nI 286) hx hb dX4_loadFrom_7 (by decide) ?_
  refine call_v (q := (RX3, TX3, 1)) (As := [.ref g0, .int (nI t), .int (nI 0), .int (nI 286)]) (rest := []) F (c_X3_copyFrom l D cA h1 h2 g0 g1 286 n a b t 0 286 (by omega) (by omega) (by decide) (hn)) (cwV 4 hts gX4_loadFrom_X3_copyFrom rfl rfl rfl ydv_X3_copyFrom ⟨Nat.le_of_ble_eq_true rfl, Nat.le_of_ble_eq_true rfl⟩) hK hR hP hD hA hS [1, 2, 3, 4] [0, 1] rfl rfl rfl 1 3 rfl rfl (fun _ => rfl) rfl hl.1 rfl (Nat.le_of_ble_eq_true rfl) dX4_loadFrom_10 ⟨Nat.zero_le _, Nat.zero_le _⟩ (fun u_10 H locs hw hP hD hS => ?_)
  have hP : va_P D vwCl [(g1, .inl (cA, n, .inl (nF b))), (h2, .inl (cA, 286, .inl (nF (cpyN b a t 0 286))))] H := hP
  have hD : va_D A [(g1, .inl (cA, n, .inl (nF b))), (h2, .inl (cA, 286, .inl (nF (cpyN b a t 0 286))))] := hD
  exact RET _ _ _ _ () dX4_loadFrom_13 trivial hP hS
abbrev rm_X4_copyDolls : Room := { frames := 2, cells := 0, slots := 0, locals := 50 }
theorem ydv_X4_copyDolls : yX4_copyDolls.cls = RX4 ∧ yX4_copyDolls.cls ≠ "java/lang/invoke/MethodHandle" ∧ yX4_copyDolls.cls ≠ "java/lang/invoke/VarHandle" ∧ (parseMethodDescriptor yX4_copyDolls.desc).map (fun d => d.parameters.length) = some 5 := by decide +kernel
theorem inf_X4_copyDolls_X4 : ∀ w ∈ wsX40, w ∈ wsX4_copyDolls := fun w h => List.mem_cons_of_mem _ (List.mem_append_left _ (List.mem_append_right _ (h)))
set_option maxHeartbeats 4000000 in
set_option maxRecDepth 100000 in
theorem c_X4_copyDolls (l : Launch) (D : va_G) (cA : ClassId) (h0 h1 h2 : Nat) (a : Nat → Nat) (g f o t z : Nat) (e1 : 30 + g * 32 + f + z ≤ 286) (e2 : 30 + o * 32 + t + z ≤ 286) : MV l D cA yX4_copyDolls wsX4_copyDolls rm_X4_copyDolls [.ref h0, .int (nI g), .int (nI f), .int (nI o), .int (nI t), .int (nI z)] [(h0, .inr (4, [.ref h1])), (h1, .inr (3, [.ref h2]))] [(h2, .inl (cA, 286, .inl (nF a)))] (S := Unit) (fun _ => True) (fun _ => [(h2, .inl (cA, 286, .inl (nF (cpyN a a (30 + g * 32 + f) (30 + o * 32 + t) z))))]) := by
  refine ofWv (cc := cX4_copyDolls) (maxL := 6) (by decide) rfl (Nat.le_of_ble_eq_true rfl) ?_
  intro p e s m args below meth c Q A ls F hK hR hP hD hA hS hl RET
  obtain ⟨hx, hb, hml, hown, hts⟩ := id F
  have hl : lv_has ls 6 [(0, .ref h0), (1, .int (nI g)), (2, .int (nI f)), (3, .int (nI o)), (4, .int (nI t)), (5, .int (nI z))] := hl
  refine lv_aload_n hx hb dX4_copyDolls_0 rfl (lv_at hl 0 rfl) ?_
  refine va_get (D := D) (cl := vwCl) (ci := 4) (v := .ref h1) (C := RX4) (T := TX4) (N := 1) hx hb hts inf_X4_copyDolls_X4 hown hK.1 (hR.at hS) 0 rfl rfl 0 (by decide) (hts _ (List.mem_of_getElem? (i := 1) rfl)) (fun _ h9 => h9) rfl dX4_copyDolls_1 ?_
  refine lv_aload_n hx hb dX4_copyDolls_4 rfl (lv_at hl 0 rfl) ?_
  refine va_get (D := D) (cl := vwCl) (ci := 4) (v := .ref h1) (C := RX4) (T := TX4) (N := 1) hx hb hts inf_X4_copyDolls_X4 hown hK.1 (hR.at hS) 0 rfl rfl 0 (by decide) (hts _ (List.mem_of_getElem? (i := 1) rfl)) (fun _ h9 => h9) rfl dX4_copyDolls_5 ?_
  refine lv_aload_n hx hb dX4_copyDolls_8 rfl (lv_at hl 0 rfl) ?_
  refine lv_iload_n hx hb dX4_copyDolls_9 rfl (lv_at hl 1 rfl) ?_
  refine lv_iload_n hx hb dX4_copyDolls_10 rfl (lv_at hl 2 rfl) ?_
  refine call_r (q := (RX4, TX4, 1)) (As := [.int (nI g), .int (nI f)]) (rest := [.ref h1, .ref h1]) F (c_X4_cellOf l D cA h0 ([.ref h1]) g f) (cwV 2 hts gX4_copyDolls_X4_cellOf rfl rfl rfl ydv_X4_cellOf ⟨Nat.le_of_ble_eq_true rfl, Nat.le_of_ble_eq_true rfl⟩) hK hR hP hD hA hS [0] rfl rfl 0 4 rfl rfl rfl hl.1 rfl (Nat.le_of_ble_eq_true rfl) dX4_copyDolls_11 ⟨Nat.zero_le _, Nat.zero_le _⟩ (fun H locs hP hS => ?_)
  refine lv_aload_n hx hb dX4_copyDolls_14 rfl (lv_at hl 0 rfl) ?_
  refine lv_iload_n hx hb dX4_copyDolls_15 rfl (lv_at hl 3 rfl) ?_
  refine lv_iload hx hb dX4_copyDolls_16 (lv_at hl 4 rfl) ?_
  refine call_r (q := (RX4, TX4, 1)) (As := [.int (nI o), .int (nI t)]) (rest := [.int (nI (30 + g * 32 + f)), .ref h1, .ref h1]) F (c_X4_cellOf l D cA h0 ([.ref h1]) o t) (cwV 2 hts gX4_copyDolls_X4_cellOf rfl rfl rfl ydv_X4_cellOf ⟨Nat.le_of_ble_eq_true rfl, Nat.le_of_ble_eq_true rfl⟩) hK hR hP hD hA hS [0] rfl rfl 0 4 rfl rfl rfl hl.1 rfl (Nat.le_of_ble_eq_true rfl) dX4_copyDolls_18 ⟨Nat.zero_le _, Nat.zero_le _⟩ (fun H locs hP hS => ?_)
  refine lv_iload hx hb dX4_copyDolls_21 (lv_at hl 5 rfl) ?_
  refine call_v (q := (RX3, TX3, 1)) (As := [.ref h1, .int (nI (30 + g * 32 + f)), .int (nI (30 + o * 32 + t)), .int (nI z)]) (rest := []) F (c_X3_copyFromS l D cA h1 h2 286 a (30 + g * 32 + f) (30 + o * 32 + t) z (by omega) (by omega) (by decide)) (cwV 4 hts gX4_copyDolls_X3_copyFrom rfl rfl rfl ydv_X3_copyFrom ⟨Nat.le_of_ble_eq_true rfl, Nat.le_of_ble_eq_true rfl⟩) hK hR hP hD hA hS [1, 2] [0] rfl rfl rfl 1 3 rfl rfl (fun _ => rfl) rfl hl.1 rfl (Nat.le_of_ble_eq_true rfl) dX4_copyDolls_23 ⟨Nat.zero_le _, Nat.zero_le _⟩ (fun u_23 H locs hw hP hD hS => ?_)
  have hP : va_P D vwCl [(h2, .inl (cA, 286, .inl (nF (cpyN a a (30 + g * 32 + f) (30 + o * 32 + t) z))))] H := hP
  have hD : va_D A [(h2, .inl (cA, 286, .inl (nF (cpyN a a (30 + g * 32 + f) (30 + o * 32 + t) z))))] := hD
  exact RET _ _ _ _ () dX4_copyDolls_26 trivial hP hS
abbrev rm_X4_hangUp : Room := { frames := 2, cells := 0, slots := 0, locals := 50 }
theorem ydv_X4_hangUp : yX4_hangUp.cls = RX4 ∧ yX4_hangUp.cls ≠ "java/lang/invoke/MethodHandle" ∧ yX4_hangUp.cls ≠ "java/lang/invoke/VarHandle" ∧ (parseMethodDescriptor yX4_hangUp.desc).map (fun d => d.parameters.length) = some 3 := by decide +kernel
theorem inf_X4_hangUp_X4 : ∀ w ∈ wsX40, w ∈ wsX4_hangUp := fun w h => List.mem_cons_of_mem _ (List.mem_append_left _ (List.mem_append_right _ (h)))
set_option maxHeartbeats 4000000 in
set_option maxRecDepth 100000 in
theorem c_X4_hangUp (l : Launch) (D : va_G) (cA : ClassId) (h0 h1 h2 : Nat) (a : Nat → Nat) (g0 g1 k : Nat) (b : Nat → Nat) (g z : Nat) (hg : g < 8) (e1 : z ≤ k) (e2 : z ≤ 32) (hk : k < 2 ^ 31) : MV l D cA yX4_hangUp wsX4_hangUp rm_X4_hangUp [.ref h0, .int (nI g), .ref g0, .int (nI z)] [(h0, .inr (4, [.ref h1])), (h1, .inr (3, [.ref h2])), (g0, .inr (3, [.ref g1]))] [(g1, .inl (cA, k, .inl (nF b))), (h2, .inl (cA, 286, .inl (nF a)))] (S := Unit) (fun _ => True) (fun _ => [(g1, .inl (cA, k, .inl (nF b))), (h2, .inl (cA, 286, .inl (nF (updN (cpyN b a 0 (30 + g * 32 + 0) z) (22 + g) z))))]) := by
  refine ofWv (cc := cX4_hangUp) (maxL := 4) (by decide) rfl (Nat.le_of_ble_eq_true rfl) ?_
  intro p e s m args below meth c Q A ls F hK hR hP hD hA hS hl RET
  obtain ⟨hx, hb, hml, hown, hts⟩ := id F
  have hl : lv_has ls 4 [(0, .ref h0), (1, .int (nI g)), (2, .ref g0), (3, .int (nI z))] := hl
  refine lv_aload_n hx hb dX4_hangUp_0 rfl (lv_at hl 0 rfl) ?_
  refine va_get (D := D) (cl := vwCl) (ci := 4) (v := .ref h1) (C := RX4) (T := TX4) (N := 1) hx hb hts inf_X4_hangUp_X4 hown hK.1 (hR.at hS) 0 rfl rfl 0 (by decide) (hts _ (List.mem_of_getElem? (i := 1) rfl)) (fun _ h9 => h9) rfl dX4_hangUp_1 ?_
  refine lv_aload_n hx hb dX4_hangUp_4 rfl (lv_at hl 2 rfl) ?_
  refine lv_iconst (v := nI 0) hx hb dX4_hangUp_5 (by decide) ?_
  refine lv_aload_n hx hb dX4_hangUp_6 rfl (lv_at hl 0 rfl) ?_
  refine lv_iload_n hx hb dX4_hangUp_7 rfl (lv_at hl 1 rfl) ?_
  refine lv_iconst (v := nI 0) hx hb dX4_hangUp_8 (by decide) ?_
  refine call_r (q := (RX4, TX4, 1)) (As := [.int (nI g), .int (nI 0)]) (rest := [.int (nI 0), .ref g0, .ref h1]) F (c_X4_cellOf l D cA h0 ([.ref h1]) g 0) (cwV 2 hts gX4_hangUp_X4_cellOf rfl rfl rfl ydv_X4_cellOf ⟨Nat.le_of_ble_eq_true rfl, Nat.le_of_ble_eq_true rfl⟩) hK hR hP hD hA hS [0] rfl rfl 0 4 rfl rfl rfl hl.1 rfl (Nat.le_of_ble_eq_true rfl) dX4_hangUp_9 ⟨Nat.zero_le _, Nat.zero_le _⟩ (fun H locs hP hS => ?_)
  refine lv_iload_n hx hb dX4_hangUp_12 rfl (lv_at hl 3 rfl) ?_
  refine call_v (q := (RX3, TX3, 1)) (As := [.ref g0, .int (nI 0), .int (nI (30 + g * 32 + 0)), .int (nI z)]) (rest := []) F (c_X3_copyFrom l D cA h1 h2 g0 g1 286 k a b 0 (30 + g * 32 + 0) z (by omega) (by omega) (by decide) (hk)) (cwV 4 hts gX4_hangUp_X3_copyFrom rfl rfl rfl ydv_X3_copyFrom ⟨Nat.le_of_ble_eq_true rfl, Nat.le_of_ble_eq_true rfl⟩) hK hR hP hD hA hS [1, 2, 3, 4] [0, 1] rfl rfl rfl 1 3 rfl rfl (fun _ => rfl) rfl hl.1 rfl (Nat.le_of_ble_eq_true rfl) dX4_hangUp_13 ⟨Nat.zero_le _, Nat.zero_le _⟩ (fun u_13 H locs hw hP hD hS => ?_)
  have hP : va_P D vwCl [(g1, .inl (cA, k, .inl (nF b))), (h2, .inl (cA, 286, .inl (nF (cpyN b a 0 (30 + g * 32 + 0) z))))] H := hP
  have hD : va_D A [(g1, .inl (cA, k, .inl (nF b))), (h2, .inl (cA, 286, .inl (nF (cpyN b a 0 (30 + g * 32 + 0) z))))] := hD
  refine lv_aload_n hx hb dX4_hangUp_16 rfl (lv_at hl 0 rfl) ?_
  refine lv_iload_n hx hb dX4_hangUp_17 rfl (lv_at hl 1 rfl) ?_
  refine lv_iload_n hx hb dX4_hangUp_18 rfl (lv_at hl 3 rfl) ?_
  refine call_v (q := (RX4, TX4, 1)) (As := [.int (nI g), .int (nI z)]) (rest := []) F (c_X4_putLength l D cA h0 h1 h2 (cpyN b a 0 (30 + g * 32 + 0) z) g z (by omega)) (cwV 2 hts gX4_hangUp_X4_putLength rfl rfl rfl ydv_X4_putLength ⟨Nat.le_of_ble_eq_true rfl, Nat.le_of_ble_eq_true rfl⟩) hK hR hP hD hA hS [0, 1, 4] [1] rfl rfl rfl 0 4 rfl rfl (fun _ => rfl) rfl hl.1 rfl (Nat.le_of_ble_eq_true rfl) dX4_hangUp_19 ⟨Nat.zero_le _, Nat.zero_le _⟩ (fun u_19 H locs hw hP hD hS => ?_)
  have hP : va_P D vwCl [(g1, .inl (cA, k, .inl (nF b))), (h2, .inl (cA, 286, .inl (nF (updN (cpyN b a 0 (30 + g * 32 + 0) z) (22 + g) z))))] H := hP
  have hD : va_D A [(g1, .inl (cA, k, .inl (nF b))), (h2, .inl (cA, 286, .inl (nF (updN (cpyN b a 0 (30 + g * 32 + 0) z) (22 + g) z))))] := hD
  exact RET _ _ _ _ () dX4_hangUp_22 trivial hP hS
abbrev rm_X4_turnRound : Room := { frames := 2, cells := 0, slots := 0, locals := 45 }
theorem ydv_X4_turnRound : yX4_turnRound.cls = RX4 ∧ yX4_turnRound.cls ≠ "java/lang/invoke/MethodHandle" ∧ yX4_turnRound.cls ≠ "java/lang/invoke/VarHandle" ∧ (parseMethodDescriptor yX4_turnRound.desc).map (fun d => d.parameters.length) = some 1 := by decide +kernel
set_option maxHeartbeats 4000000 in
set_option maxRecDepth 100000 in
theorem c_X4_turnRound (l : Launch) (D : va_G) (cA : ClassId) (h0 h1 h2 : Nat) (a : Nat → Nat) (g : Nat) (hV : Vd a) (hg : g < 8) (h0_ : 0 < ln a g) : MV l D cA yX4_turnRound wsX4_turnRound rm_X4_turnRound [.ref h0, .int (nI g)] [(h0, .inr (4, [.ref h1])), (h1, .inr (3, [.ref h2]))] [(h2, .inl (cA, 286, .inl (nF a)))] (S := Unit) (fun _ => True) (fun _ => [(h2, .inl (cA, 286, .inl (nF (turnA a g))))]) := by
  refine ofWv (cc := cX4_turnRound) (maxL := 5) (by decide) rfl (Nat.le_of_ble_eq_true rfl) ?_
  intro p e s m args below meth c Q A ls F hK hR hP hD hA hS hl RET
  obtain ⟨hx, hb, hml, hown, hts⟩ := id F
  have hl : lv_has ls 5 [(0, .ref h0), (1, .int (nI g))] := hl
  have hl32 := hV.l hg
  refine lv_aload_n hx hb dX4_turnRound_0 rfl (lv_at hl 0 rfl) ?_
  refine lv_iload_n hx hb dX4_turnRound_1 rfl (lv_at hl 1 rfl) ?_
  refine call_r (q := (RX4, TX4, 1)) (As := [.int (nI g)]) (rest := []) F (c_X4_lengthOf l D cA h0 h1 h2 a g (by omega)) (cwV 1 hts gX4_turnRound_X4_lengthOf rfl rfl rfl ydv_X4_lengthOf ⟨Nat.le_of_ble_eq_true rfl, Nat.le_of_ble_eq_true rfl⟩) hK hR hP hD hA hS [0, 1, 2] rfl rfl 0 4 rfl rfl rfl hl.1 rfl (Nat.le_of_ble_eq_true rfl) dX4_turnRound_2 ⟨Nat.zero_le _, Nat.zero_le _⟩ (fun H locs hP hS => ?_)
  refine lv_iconst (v := nI 1) hx hb dX4_turnRound_5 (by decide) ?_
  refine nv_isub hx hb dX4_turnRound_6 (by omega) ?_
  refine lv_istore_n (lv' := [(2, .int (nI ((ln a g) - 1))), (0, .ref h0), (1, .int (nI g))]) hx hb dX4_turnRound_7 rfl hl (by decide) rfl (fun ls hl => ?_)
  refine lv_iconst (v := nI 0) hx hb dX4_turnRound_8 (by decide) ?_
  refine lv_istore_n (lv' := [(3, .int (nI 0)), (2, .int (nI ((ln a g) - 1))), (0, .ref h0), (1, .int (nI g))]) hx hb dX4_turnRound_9 rfl hl (by decide) rfl (fun ls hl => ?_)
  have LP_10 : ∀ (k_10 : Nat) (i : Nat) (r : Int32) (b : Nat → Nat) (H : Heap) (locs : List Loc) (ls : Array Slot), ln a g - i = k_10 → (i ≤ ln a g) → (r = nI (ln a g - i) + -1) → (∀ j, b j = if (30 + g * 32 ≤ j ∧ j < 30 + g * 32 + i) ∨ (30 + g * 32 + (ln a g - i) ≤ j ∧ j < 30 + g * 32 + ln a g) then mir (a (30 + g * 32 + (ln a g - 1 - (j - (30 + g * 32))))) else a j) → va_P D vwCl [(h2, .inl (cA, 286, .inl (nF b)))] H → va_D A [(h2, .inl (cA, 286, .inl (nF b)))] → va_S A s.heap H locs → lv_has ls 5 [(0, .ref h0), (1, .int (nI g)), (2, .int r), (3, .int (nI i))] → W p l e rm_X4_turnRound s m args below meth c H locs 0 0 Q (F0 m 10 ls []) := by
    refine sind (fun k_10 ih_10 => ?_)
    intro i r b H locs ls hk_10 hi hr_ hb_ hP hD hS hl
    refine lv_iload_n hx hb dX4_turnRound_10 rfl (lv_at hl 3 rfl) ?_
    refine lv_iload_n hx hb dX4_turnRound_11 rfl (lv_at hl 2 rfl) ?_
    refine lv_icmp_gt (tgt := 58) hx hb dX4_turnRound_12 (by decide) (fun c_12 => ?_) (fun c_12 => ?_)
    · exact RET _ _ _ _ () dX4_turnRound_58 trivial (by have hE : b = turnA a g := turn_end ((le_m1 (i := i) (x := ln a g - i) (by omega) (by omega)).mp (by rw [← hr_]; exact c_12)) hi hb_; subst hE; exact hP) hS
    · have hc_ : ¬ ln a g - i ≤ i := fun h => c_12 (by rw [hr_]; exact (le_m1 (by omega) (by omega)).mpr h)
      obtain rfl : r = nI (ln a g - (i + 1)) := by rw [hr_]; exact sub1 (by omega)
      refine lv_aload_n hx hb dX4_turnRound_15 rfl (lv_at hl 0 rfl) ?_
      refine lv_iload_n hx hb dX4_turnRound_16 rfl (lv_at hl 1 rfl) ?_
      refine lv_iload_n hx hb dX4_turnRound_17 rfl (lv_at hl 3 rfl) ?_
      refine call_r (q := (RX4, TX4, 1)) (As := [.int (nI g), .int (nI i)]) (rest := []) F (c_X4_dollAt l D cA h0 h1 h2 b g i (by omega) (by omega)) (cwV 2 hts gX4_turnRound_X4_dollAt rfl rfl rfl ydv_X4_dollAt ⟨Nat.le_of_ble_eq_true rfl, Nat.le_of_ble_eq_true rfl⟩) hK hR hP hD hA hS [0, 1, 2] rfl rfl 0 4 rfl rfl rfl hl.1 rfl (Nat.le_of_ble_eq_true rfl) dX4_turnRound_18 ⟨Nat.zero_le _, Nat.zero_le _⟩ (fun H locs hP hS => ?_)
      refine lv_istore (lv' := [(4, .int (nI (dl b g i))), (0, .ref h0), (1, .int (nI g)), (2, .int (nI (ln a g - (i + 1)))), (3, .int (nI i))]) hx hb dX4_turnRound_21 hl (by decide) rfl (fun ls hl => ?_)
      refine lv_aload_n hx hb dX4_turnRound_23 rfl (lv_at hl 1 rfl) ?_
      refine lv_iload_n hx hb dX4_turnRound_24 rfl (lv_at hl 2 rfl) ?_
      refine lv_iload_n hx hb dX4_turnRound_25 rfl (lv_at hl 4 rfl) ?_
      refine lv_aload_n hx hb dX4_turnRound_26 rfl (lv_at hl 1 rfl) ?_
      refine lv_iload_n hx hb dX4_turnRound_27 rfl (lv_at hl 2 rfl) ?_
      refine lv_iload_n hx hb dX4_turnRound_28 rfl (lv_at hl 3 rfl) ?_
      refine call_r (q := (RX4, TX4, 1)) (As := [.int (nI g), .int (nI (ln a g - (i + 1)))]) (rest := [.int (nI i), .int (nI g), .ref h0]) F (c_X4_dollAt l D cA h0 h1 h2 b g (ln a g - (i + 1)) (by omega) (by omega)) (cwV 2 hts gX4_turnRound_X4_dollAt rfl rfl rfl ydv_X4_dollAt ⟨Nat.le_of_ble_eq_true rfl, Nat.le_of_ble_eq_true rfl⟩) hK hR hP hD hA hS [0, 1, 2] rfl rfl 0 4 rfl rfl rfl hl.1 rfl (Nat.le_of_ble_eq_true rfl) dX4_turnRound_29 ⟨Nat.zero_le _, Nat.zero_le _⟩ (fun H locs hP hS => ?_)
      refine call_n (As := [.int (nI (dl b g (ln a g - (i + 1))))]) (rest := [.int (nI i), .int (nI g), .ref h0]) F (c_X6_mirrorOf l D cA (dl b g (ln a g - (i + 1)))) ⟨va_cnB 1 hts gX4_turnRound_X6_mirrorOf_n60 rfl rfl rfl (hK.2 _ (List.mem_of_getElem? (i := 5) rfl)) (hts _ (List.mem_of_getElem? (i := 22) rfl)) yd_X6_mirrorOf ⟨Nat.le_of_ble_eq_true rfl, Nat.le_of_ble_eq_true rfl⟩, (hts _ (List.mem_of_getElem? (i := 21) rfl)), trivial⟩ hK hR hP hD hA hS rfl hl.1 rfl (Nat.le_of_ble_eq_true rfl) dX4_turnRound_32 ⟨Nat.zero_le _, Nat.zero_le _⟩ (fun H locs hP hS => ?_)
      refine call_v (q := (RX4, TX4, 1)) (As := [.int (nI g), .int (nI i), .int (nI (mir (dl b g (ln a g - (i + 1)))))]) (rest := []) F (c_X4_putDoll l D cA h0 h1 h2 b g i (mir (dl b g (ln a g - (i + 1)))) (by omega) (by omega)) (cwV 3 hts gX4_turnRound_X4_putDoll rfl rfl rfl ydv_X4_putDoll ⟨Nat.le_of_ble_eq_true rfl, Nat.le_of_ble_eq_true rfl⟩) hK hR hP hD hA hS [0, 1, 2] [0] rfl rfl rfl 0 4 rfl rfl (fun _ => rfl) rfl hl.1 rfl (Nat.le_of_ble_eq_true rfl) dX4_turnRound_35 ⟨Nat.zero_le _, Nat.zero_le _⟩ (fun u_35 H locs hw hP hD hS => ?_)
      have hP : va_P D vwCl [(h2, .inl (cA, 286, .inl (nF (updN b (30 + g * 32 + i) (mir (dl b g (ln a g - (i + 1))))))))] H := hP
      have hD : va_D A [(h2, .inl (cA, 286, .inl (nF (updN b (30 + g * 32 + i) (mir (dl b g (ln a g - (i + 1))))))))] := hD
      refine lv_aload_n hx hb dX4_turnRound_38 rfl (lv_at hl 1 rfl) ?_
      refine lv_iload_n hx hb dX4_turnRound_39 rfl (lv_at hl 2 rfl) ?_
      refine lv_iload_n hx hb dX4_turnRound_40 rfl (lv_at hl 3 rfl) ?_
      refine lv_iload hx hb dX4_turnRound_41 (lv_at hl 0 rfl) ?_
      refine call_n (As := [.int (nI (dl b g i))]) (rest := [.int (nI (ln a g - (i + 1))), .int (nI g), .ref h0]) F (c_X6_mirrorOf l D cA (dl b g i)) ⟨va_cnB 1 hts gX4_turnRound_X6_mirrorOf_n60 rfl rfl rfl (hK.2 _ (List.mem_of_getElem? (i := 5) rfl)) (hts _ (List.mem_of_getElem? (i := 22) rfl)) yd_X6_mirrorOf ⟨Nat.le_of_ble_eq_true rfl, Nat.le_of_ble_eq_true rfl⟩, (hts _ (List.mem_of_getElem? (i := 21) rfl)), trivial⟩ hK hR hP hD hA hS rfl hl.1 rfl (Nat.le_of_ble_eq_true rfl) dX4_turnRound_43 ⟨Nat.zero_le _, Nat.zero_le _⟩ (fun H locs hP hS => ?_)
      refine call_v (q := (RX4, TX4, 1)) (As := [.int (nI g), .int (nI (ln a g - (i + 1))), .int (nI (mir (dl b g i)))]) (rest := []) F (c_X4_putDoll l D cA h0 h1 h2 (updN b (30 + g * 32 + i) (mir (dl b g (ln a g - (i + 1))))) g (ln a g - (i + 1)) (mir (dl b g i)) (by omega) (by omega)) (cwV 3 hts gX4_turnRound_X4_putDoll rfl rfl rfl ydv_X4_putDoll ⟨Nat.le_of_ble_eq_true rfl, Nat.le_of_ble_eq_true rfl⟩) hK hR hP hD hA hS [0, 1, 2] [0] rfl rfl rfl 0 4 rfl rfl (fun _ => rfl) rfl hl.1 rfl (Nat.le_of_ble_eq_true rfl) dX4_turnRound_46 ⟨Nat.zero_le _, Nat.zero_le _⟩ (fun u_46 H locs hw hP hD hS => ?_)
      have hP : va_P D vwCl [(h2, .inl (cA, 286, .inl (nF (updN (updN b (30 + g * 32 + i) (mir (dl b g (ln a g - (i + 1))))) (30 + g * 32 + (ln a g - (i + 1))) (mir (dl b g i))))))] H := hP
      have hD : va_D A [(h2, .inl (cA, 286, .inl (nF (updN (updN b (30 + g * 32 + i) (mir (dl b g (ln a g - (i + 1))))) (30 + g * 32 + (ln a g - (i + 1))) (mir (dl b g i))))))] := hD
      refine lv_iinc (v := nI (i + 1)) (lv' := [(3, .int (nI (i + 1))), (4, .int (nI (dl b g i))), (0, .ref h0), (1, .int (nI g)), (2, .int (nI (ln a g - (i + 1))))]) hx hb dX4_turnRound_49 hl (k := 4) rfl (nI_add _ _) (by decide) rfl (fun ls hl => ?_)
      refine lv_iinc (v := nI (ln a g - (i + 1)) + (-1)) (lv' := [(2, .int (nI (ln a g - (i + 1)) + (-1))), (3, .int (nI (i + 1))), (4, .int (nI (dl b g i))), (0, .ref h0), (1, .int (nI g))]) hx hb dX4_turnRound_52 hl (k := 4) rfl (by rw [show Int32.ofInt (-1) = -1 from by decide]) (by decide) rfl (fun ls hl => ?_)
      refine lv_goto (tgt := 10) hx hb dX4_turnRound_55 (by decide) ?_
      exact ih_10 _ (by omega) (i + 1) (nI (ln a g - (i + 1)) + (-1)) (updN (updN b (30 + g * 32 + i) (mir (dl b g (ln a g - (i + 1))))) (30 + g * 32 + (ln a g - (i + 1))) (mir (dl b g i))) _ _ _ rfl (by omega) (rfl) (turn_step (by omega) hl32 hb_) hP hD hS (lv_sub hl [3, 4, 0, 1] rfl)
  exact LP_10 _ 0 (nI ((ln a g) - 1)) a _ _ _ rfl (by omega) ((sub1 (i := 0) (x := ln a g) h0_).symm) (fun j => by rw [if_neg (by omega)]) hP hD hS (lv_sub hl [2, 3, 1, 0] rfl)
abbrev rm_X4_foldOut : Room := { frames := 2, cells := 0, slots := 0, locals := 45 }
theorem ydv_X4_foldOut : yX4_foldOut.cls = RX4 ∧ yX4_foldOut.cls ≠ "java/lang/invoke/MethodHandle" ∧ yX4_foldOut.cls ≠ "java/lang/invoke/VarHandle" ∧ (parseMethodDescriptor yX4_foldOut.desc).map (fun d => d.parameters.length) = some 1 := by decide +kernel
set_option maxHeartbeats 4000000 in
set_option maxRecDepth 100000 in
theorem c_X4_foldOut (l : Launch) (D : va_G) (cA : ClassId) (h0 h1 h2 : Nat) (a : Nat → Nat) (g : Nat) (hV : Vd a) (hg : g < 8) (h2_ : ln a g + ln a g ≤ 32) : MV l D cA yX4_foldOut wsX4_foldOut rm_X4_foldOut [.ref h0, .int (nI g)] [(h0, .inr (4, [.ref h1])), (h1, .inr (3, [.ref h2]))] [(h2, .inl (cA, 286, .inl (nF a)))] (S := Unit) (fun _ => True) (fun _ => [(h2, .inl (cA, 286, .inl (nF (updN (foldA a g) (22 + g) (2 * ln a g)))))]) := by
  refine ofWv (cc := cX4_foldOut) (maxL := 5) (by decide) rfl (Nat.le_of_ble_eq_true rfl) ?_
  intro p e s m args below meth c Q A ls F hK hR hP hD hA hS hl RET
  obtain ⟨hx, hb, hml, hown, hts⟩ := id F
  have hl : lv_has ls 5 [(0, .ref h0), (1, .int (nI g))] := hl
  refine lv_aload_n hx hb dX4_foldOut_0 rfl (lv_at hl 0 rfl) ?_
  refine lv_iload_n hx hb dX4_foldOut_1 rfl (lv_at hl 1 rfl) ?_
  refine call_r (q := (RX4, TX4, 1)) (As := [.int (nI g)]) (rest := []) F (c_X4_lengthOf l D cA h0 h1 h2 a g (by omega)) (cwV 1 hts gX4_foldOut_X4_lengthOf rfl rfl rfl ydv_X4_lengthOf ⟨Nat.le_of_ble_eq_true rfl, Nat.le_of_ble_eq_true rfl⟩) hK hR hP hD hA hS [0, 1, 2] rfl rfl 0 4 rfl rfl rfl hl.1 rfl (Nat.le_of_ble_eq_true rfl) dX4_foldOut_2 ⟨Nat.zero_le _, Nat.zero_le _⟩ (fun H locs hP hS => ?_)
  refine lv_istore_n (lv' := [(2, .int (nI (ln a g))), (0, .ref h0), (1, .int (nI g))]) hx hb dX4_foldOut_5 rfl hl (by decide) rfl (fun ls hl => ?_)
  refine lv_iconst (v := nI 0) hx hb dX4_foldOut_6 (by decide) ?_
  refine lv_istore_n (lv' := [(3, .int (nI 0)), (2, .int (nI (ln a g))), (0, .ref h0), (1, .int (nI g))]) hx hb dX4_foldOut_7 rfl hl (by decide) rfl (fun ls hl => ?_)
  have LP_8 : ∀ (k_8 : Nat) (i : Nat) (b : Nat → Nat) (H : Heap) (locs : List Loc) (ls : Array Slot), ln a g - i = k_8 → (i ≤ ln a g) → (∀ j, b j = if 30 + g * 32 + ln a g ≤ j ∧ j < 30 + g * 32 + ln a g + i then mir (a (30 + g * 32 + (ln a g - 1 - (j - (30 + g * 32 + ln a g))))) else a j) → va_P D vwCl [(h2, .inl (cA, 286, .inl (nF b)))] H → va_D A [(h2, .inl (cA, 286, .inl (nF b)))] → va_S A s.heap H locs → lv_has ls 5 [(0, .ref h0), (1, .int (nI g)), (2, .int (nI (ln a g))), (3, .int (nI i))] → W p l e rm_X4_foldOut s m args below meth c H locs 0 0 Q (F0 m 8 ls []) := by
    refine sind (fun k_8 ih_8 => ?_)
    intro i b H locs ls hk_8 hi hb_ hP hD hS hl
    refine lv_iload_n hx hb dX4_foldOut_8 rfl (lv_at hl 3 rfl) ?_
    refine lv_iload_n hx hb dX4_foldOut_9 rfl (lv_at hl 2 rfl) ?_
    refine nv_icmp_ge (tgt := 44) hx hb dX4_foldOut_10 (by decide) (by omega) (by omega) (fun c_10 => ?_) (fun c_10 => ?_)
    · refine lv_aload_n hx hb dX4_foldOut_44 rfl (lv_at hl 0 rfl) ?_
      refine lv_iload_n hx hb dX4_foldOut_45 rfl (lv_at hl 1 rfl) ?_
      refine lv_iconst (v := nI 2) hx hb dX4_foldOut_46 (by decide) ?_
      refine lv_iload_n hx hb dX4_foldOut_47 rfl (lv_at hl 2 rfl) ?_
      refine nv_imul hx hb dX4_foldOut_48 ?_
      refine call_v (q := (RX4, TX4, 1)) (As := [.int (nI g), .int (nI (2 * (ln a g)))]) (rest := []) F (c_X4_putLength l D cA h0 h1 h2 b g (2 * (ln a g)) (by omega)) (cwV 2 hts gX4_foldOut_X4_putLength rfl rfl rfl ydv_X4_putLength ⟨Nat.le_of_ble_eq_true rfl, Nat.le_of_ble_eq_true rfl⟩) hK hR hP hD hA hS [0, 1, 2] [0] rfl rfl rfl 0 4 rfl rfl (fun _ => rfl) rfl hl.1 rfl (Nat.le_of_ble_eq_true rfl) dX4_foldOut_49 ⟨Nat.zero_le _, Nat.zero_le _⟩ (fun u_49 H locs hw hP hD hS => ?_)
      have hP : va_P D vwCl [(h2, .inl (cA, 286, .inl (nF (updN b (22 + g) (2 * (ln a g))))))] H := hP
      have hD : va_D A [(h2, .inl (cA, 286, .inl (nF (updN b (22 + g) (2 * (ln a g))))))] := hD
      exact RET _ _ _ _ () dX4_foldOut_52 trivial (by have hE : b = foldA a g := fold_end (by omega) hb_; subst hE; exact hP) hS
    · refine lv_aload_n hx hb dX4_foldOut_13 rfl (lv_at hl 0 rfl) ?_
      refine lv_iload_n hx hb dX4_foldOut_14 rfl (lv_at hl 1 rfl) ?_
      refine lv_iload_n hx hb dX4_foldOut_15 rfl (lv_at hl 2 rfl) ?_
      refine lv_iconst (v := nI 1) hx hb dX4_foldOut_16 (by decide) ?_
      refine nv_isub hx hb dX4_foldOut_17 (by omega) ?_
      refine lv_iload_n hx hb dX4_foldOut_18 rfl (lv_at hl 3 rfl) ?_
      refine nv_isub hx hb dX4_foldOut_19 (by omega) ?_
      refine call_r (q := (RX4, TX4, 1)) (As := [.int (nI g), .int (nI (((ln a g) - 1) - i))]) (rest := []) F (c_X4_dollAt l D cA h0 h1 h2 b g (((ln a g) - 1) - i) (by omega) (by omega)) (cwV 2 hts gX4_foldOut_X4_dollAt rfl rfl rfl ydv_X4_dollAt ⟨Nat.le_of_ble_eq_true rfl, Nat.le_of_ble_eq_true rfl⟩) hK hR hP hD hA hS [0, 1, 2] rfl rfl 0 4 rfl rfl rfl hl.1 rfl (Nat.le_of_ble_eq_true rfl) dX4_foldOut_20 ⟨Nat.zero_le _, Nat.zero_le _⟩ (fun H locs hP hS => ?_)
      refine lv_istore (lv' := [(4, .int (nI (dl b g (((ln a g) - 1) - i)))), (0, .ref h0), (1, .int (nI g)), (2, .int (nI (ln a g))), (3, .int (nI i))]) hx hb dX4_foldOut_23 hl (by decide) rfl (fun ls hl => ?_)
      refine lv_aload_n hx hb dX4_foldOut_25 rfl (lv_at hl 1 rfl) ?_
      refine lv_iload_n hx hb dX4_foldOut_26 rfl (lv_at hl 2 rfl) ?_
      refine lv_iload_n hx hb dX4_foldOut_27 rfl (lv_at hl 3 rfl) ?_
      refine lv_iload_n hx hb dX4_foldOut_28 rfl (lv_at hl 4 rfl) ?_
      refine nv_iadd hx hb dX4_foldOut_29 ?_
      refine lv_iload hx hb dX4_foldOut_30 (lv_at hl 0 rfl) ?_
      refine call_n (As := [.int (nI (dl b g (((ln a g) - 1) - i)))]) (rest := [.int (nI ((ln a g) + i)), .int (nI g), .ref h0]) F (c_X6_mirrorOf l D cA (dl b g (((ln a g) - 1) - i))) ⟨va_cnB 1 hts gX4_foldOut_X6_mirrorOf_n60 rfl rfl rfl (hK.2 _ (List.mem_of_getElem? (i := 5) rfl)) (hts _ (List.mem_of_getElem? (i := 22) rfl)) yd_X6_mirrorOf ⟨Nat.le_of_ble_eq_true rfl, Nat.le_of_ble_eq_true rfl⟩, (hts _ (List.mem_of_getElem? (i := 21) rfl)), trivial⟩ hK hR hP hD hA hS rfl hl.1 rfl (Nat.le_of_ble_eq_true rfl) dX4_foldOut_32 ⟨Nat.zero_le _, Nat.zero_le _⟩ (fun H locs hP hS => ?_)
      refine call_v (q := (RX4, TX4, 1)) (As := [.int (nI g), .int (nI ((ln a g) + i)), .int (nI (mir (dl b g (((ln a g) - 1) - i))))]) (rest := []) F (c_X4_putDoll l D cA h0 h1 h2 b g ((ln a g) + i) (mir (dl b g (((ln a g) - 1) - i))) (by omega) (by omega)) (cwV 3 hts gX4_foldOut_X4_putDoll rfl rfl rfl ydv_X4_putDoll ⟨Nat.le_of_ble_eq_true rfl, Nat.le_of_ble_eq_true rfl⟩) hK hR hP hD hA hS [0, 1, 2] [0] rfl rfl rfl 0 4 rfl rfl (fun _ => rfl) rfl hl.1 rfl (Nat.le_of_ble_eq_true rfl) dX4_foldOut_35 ⟨Nat.zero_le _, Nat.zero_le _⟩ (fun u_35 H locs hw hP hD hS => ?_)
      have hP : va_P D vwCl [(h2, .inl (cA, 286, .inl (nF (updN b (30 + g * 32 + ((ln a g) + i)) (mir (dl b g (((ln a g) - 1) - i)))))))] H := hP
      have hD : va_D A [(h2, .inl (cA, 286, .inl (nF (updN b (30 + g * 32 + ((ln a g) + i)) (mir (dl b g (((ln a g) - 1) - i)))))))] := hD
      refine lv_iinc (v := nI (i + 1)) (lv' := [(3, .int (nI (i + 1))), (4, .int (nI (dl b g (((ln a g) - 1) - i)))), (0, .ref h0), (1, .int (nI g)), (2, .int (nI (ln a g)))]) hx hb dX4_foldOut_38 hl (k := 4) rfl (nI_add _ _) (by decide) rfl (fun ls hl => ?_)
      refine lv_goto (tgt := 8) hx hb dX4_foldOut_41 (by decide) ?_
      exact ih_8 _ (by omega) (i + 1) (updN b (30 + g * 32 + ((ln a g) + i)) (mir (dl b g (((ln a g) - 1) - i)))) _ _ _ rfl (by omega) (fold_step (by omega) h2_ hb_) hP hD hS (lv_sub hl [2, 3, 4, 0] rfl)
  exact LP_8 _ 0 a _ _ _ rfl (by omega) (fun j => by rw [if_neg (by omega)]) hP hD hS (lv_sub hl [2, 3, 1, 0] rfl)
