/-! laid by a program: contracts of X7_undo, X7_keep, X7_restore, X7_type, X7_clearText, X7_takesOne, X7_readsDoll, X7_fault, X7_wrong, X7_readGarland -/
abbrev rm_X7_undo : Room := { frames := 0, cells := 0, slots := 0, locals := 0 }
theorem ydv_X7_undo : yX7_undo.cls = RX7 ∧ yX7_undo.cls ≠ "java/lang/invoke/MethodHandle" ∧ yX7_undo.cls ≠ "java/lang/invoke/VarHandle" ∧ (parseMethodDescriptor yX7_undo.desc).map (fun d => d.parameters.length) = some 0 := by decide +kernel
theorem inf_X7_undo_X7 : ∀ w ∈ wsX70, w ∈ wsX7_undo := fun w h => List.mem_cons_of_mem _ (List.mem_append_right _ (h))
set_option maxHeartbeats 4000000 in
set_option maxRecDepth 100000 in
theorem c_X7_undo (l : Launch) (D : va_G) (cA : ClassId) (m0 m1 m2 m3 m4 m5 m6 m7 m8 m9 yl ik tl sp rd : Nat) (M yh : Nat → Nat) (hyl : yl ≤ 4) : MI l D cA yX7_undo wsX7_undo rm_X7_undo [.ref m0] [(m3, .inl (cA, 1144, .inl (nF yh)))] [(m0, .inr (7, [.ref m1, .ref m2, .ref m3, .int (nI yl), .ref m4, .int (nI ik), .ref m5, .ref m6, .int (nI tl), .int (nI sp), .int (nI rd), .ref m7, .ref m8, .ref m9])), (m1, .inl (cA, 286, .inl (nF M)))] (S := (Nat → Nat)) (fun rr_ (uu_ : (Nat → Nat)) => rr_ = unR yl ∧ ((yl = 0 → uu_ = M) ∧ (yl ≠ 0 → ∀ j, j < 286 → uu_ j = yh (286 * (yl - 1) + j)))) (fun (uu_ : (Nat → Nat)) => [(m0, .inr (7, [.ref m1, .ref m2, .ref m3, .int (nI (yl - 1)), .ref m4, .int (nI ik), .ref m5, .ref m6, .int (nI tl), .int (nI sp), .int (nI rd), .ref m7, .ref m8, .ref m9])), (m1, .inl (cA, 286, .inl (nF uu_)))]) := by
  refine ofWi (cc := cX7_undo) (maxL := 2) (rt := .int) (by decide) rfl (Nat.le_of_ble_eq_true rfl) ?_
  intro p e s m args below meth c Q A ls F hK hR hP hD hA hS hl RET
  obtain ⟨hx, hb, hml, hown, hts⟩ := id F
  have hl : lv_has ls 2 [(0, .ref m0)] := hl
  refine lv_aload_n hx hb dX7_undo_0 rfl (lv_at hl 0 rfl) ?_
  refine va_get (D := D) (cl := vwCl) (ci := 7) (v := .int (nI yl)) (C := RX7) (T := TX7) (N := 14) hx hb hts inf_X7_undo_X7 hown hK.1 hP 0 rfl rfl 3 (by decide) (hts _ (List.mem_of_getElem? (i := 1) rfl)) (fun _ h9 => h9) rfl dX7_undo_1 ?_
  refine nv_if_ne (tgt := 10) hx hb dX7_undo_4 (by decide) (by omega) (fun c_4 => ?_) (fun c_4 => ?_)
  · refine lv_aload_n hx hb dX7_undo_10 rfl (lv_at hl 0 rfl) ?_
    refine lv_dup hx hb dX7_undo_11 rfl ?_
    refine va_get (D := D) (cl := vwCl) (ci := 7) (v := .int (nI yl)) (C := RX7) (T := TX7) (N := 14) hx hb hts inf_X7_undo_X7 hown hK.1 hP 0 rfl rfl 3 (by decide) (hts _ (List.mem_of_getElem? (i := 1) rfl)) (fun _ h9 => h9) rfl dX7_undo_12 ?_
    refine lv_iconst (v := nI 1) hx hb dX7_undo_15 (by decide) ?_
    refine nv_isub hx hb dX7_undo_16 (by omega) ?_
    refine va_put (D := D) (ci := 7) (v := .int (nI (yl - 1))) (ty := .int) (C := RX7) (T := TX7) (N := 14) hx hb hts inf_X7_undo_X7 tyX7 tyX7_ok nmX7 hown hK.1 hP hD hS 0 rfl rfl 3 (by decide) (hts _ (List.mem_of_getElem? (i := 1) rfl)) (fun _ h9 => h9) rfl (by decide +kernel) rfl rfl (Nat.le_of_ble_eq_true rfl) dX7_undo_17 (fun H locs hP hD hS => ?_)
    have hP : va_P D vwCl [(m0, .inr (7, [.ref m1, .ref m2, .ref m3, .int (nI (yl - 1)), .ref m4, .int (nI ik), .ref m5, .ref m6, .int (nI tl), .int (nI sp), .int (nI rd), .ref m7, .ref m8, .ref m9])), (m1, .inl (cA, 286, .inl (nF M)))] H := hP
    have hD : va_D A [(m0, .inr (7, [.ref m1, .ref m2, .ref m3, .int (nI (yl - 1)), .ref m4, .int (nI ik), .ref m5, .ref m6, .int (nI tl), .int (nI sp), .int (nI rd), .ref m7, .ref m8, .ref m9])), (m1, .inl (cA, 286, .inl (nF M)))] := hD
    refine lv_iconst (v := nI 0) hx hb dX7_undo_20 (by decide) ?_
    refine lv_istore_n (lv' := [(1, .int (nI 0)), (0, .ref m0)]) hx hb dX7_undo_21 rfl hl (by decide) rfl (fun ls hl => ?_)
    have LP_22 : ∀ (k_22 : Nat) (i : Nat) (M3 : Nat → Nat) (H : Heap) (locs : List Loc) (ls : Array Slot), 286 - i = k_22 → (i ≤ 286) → (∀ j, j < i → M3 j = yh (286 * (yl - 1) + j)) → va_P D vwCl [(m0, .inr (7, [.ref m1, .ref m2, .ref m3, .int (nI (yl - 1)), .ref m4, .int (nI ik), .ref m5, .ref m6, .int (nI tl), .int (nI sp), .int (nI rd), .ref m7, .ref m8, .ref m9])), (m1, .inl (cA, 286, .inl (nF M3)))] H → va_D A [(m0, .inr (7, [.ref m1, .ref m2, .ref m3, .int (nI (yl - 1)), .ref m4, .int (nI ik), .ref m5, .ref m6, .int (nI tl), .int (nI sp), .int (nI rd), .ref m7, .ref m8, .ref m9])), (m1, .inl (cA, 286, .inl (nF M3)))] → va_S A s.heap H locs → lv_has ls 2 [(0, .ref m0), (1, .int (nI i))] → W p l e rm_X7_undo s m args below meth c H locs 0 0 Q (F0 m 22 ls []) := by
      refine sind (fun k_22 ih_22 => ?_)
      intro i M3 H locs ls hk_22 hi hk_ hP hD hS hl
      refine lv_iload_n hx hb dX7_undo_22 rfl (lv_at hl 1 rfl) ?_
      refine lv_sipush (v := nI 286) hx hb dX7_undo_23 (by decide) ?_
      refine nv_icmp_ge (tgt := 56) hx hb dX7_undo_26 (by decide) (by omega) (by decide) (fun c_26 => ?_) (fun c_26 => ?_)
      · refine lv_aload_n hx hb dX7_undo_56 rfl (lv_at hl 0 rfl) ?_
        refine va_get (D := D) (cl := vwCl) (ci := 7) (v := .int (nI (yl - 1))) (C := RX7) (T := TX7) (N := 14) hx hb hts inf_X7_undo_X7 hown hK.1 hP 0 rfl rfl 3 (by decide) (hts _ (List.mem_of_getElem? (i := 1) rfl)) (fun _ h9 => h9) rfl dX7_undo_57 ?_
        refine tope (y := unR yl) (by rw [unR, if_neg c_4]) ?_
        exact RET _ _ _ _ _ M3 dX7_undo_60 rfl ⟨rfl, ⟨fun h_ => absurd h_ c_4, fun _ j hj => hk_ j (by omega)⟩⟩ hP hS
      · refine lv_aload_n hx hb dX7_undo_29 rfl (lv_at hl 0 rfl) ?_
        refine va_get (D := D) (cl := vwCl) (ci := 7) (v := .ref m1) (C := RX7) (T := TX7) (N := 14) hx hb hts inf_X7_undo_X7 hown hK.1 hP 0 rfl rfl 0 (by decide) (hts _ (List.mem_of_getElem? (i := 2) rfl)) (fun _ h9 => h9) rfl dX7_undo_30 ?_
        refine lv_iload_n hx hb dX7_undo_33 rfl (lv_at hl 1 rfl) ?_
        refine lv_aload_n hx hb dX7_undo_34 rfl (lv_at hl 0 rfl) ?_
        refine va_get (D := D) (cl := vwCl) (ci := 7) (v := .ref m3) (C := RX7) (T := TX7) (N := 14) hx hb hts inf_X7_undo_X7 hown hK.1 hP 0 rfl rfl 2 (by decide) (hts _ (List.mem_of_getElem? (i := 3) rfl)) (fun _ h9 => h9) rfl dX7_undo_35 ?_
        refine lv_sipush (v := nI 286) hx hb dX7_undo_38 (by decide) ?_
        refine lv_aload_n hx hb dX7_undo_41 rfl (lv_at hl 0 rfl) ?_
        refine va_get (D := D) (cl := vwCl) (ci := 7) (v := .int (nI (yl - 1))) (C := RX7) (T := TX7) (N := 14) hx hb hts inf_X7_undo_X7 hown hK.1 hP 0 rfl rfl 3 (by decide) (hts _ (List.mem_of_getElem? (i := 1) rfl)) (fun _ h9 => h9) rfl dX7_undo_42 ?_
        refine nv_imul hx hb dX7_undo_45 ?_
        refine lv_iload_n hx hb dX7_undo_46 rfl (lv_at hl 1 rfl) ?_
        refine nv_iadd hx hb dX7_undo_47 ?_
        refine nv_iald (a := yh) hx hb hK (hR.at hS) 0 rfl (by omega) (by decide) dX7_undo_48 ?_
        refine nv_iast (a := M3) (v := (yh ((286 * (yl - 1)) + i))) hx hb hK hP hD hS 1 rfl (by omega) (by decide) dX7_undo_49 (fun H locs hP hD hS => ?_)
        have hP : va_P D vwCl [(m0, .inr (7, [.ref m1, .ref m2, .ref m3, .int (nI (yl - 1)), .ref m4, .int (nI ik), .ref m5, .ref m6, .int (nI tl), .int (nI sp), .int (nI rd), .ref m7, .ref m8, .ref m9])), (m1, .inl (cA, 286, .inl (nF (updN M3 i (yh ((286 * (yl - 1)) + i))))))] H := hP
        have hD : va_D A [(m0, .inr (7, [.ref m1, .ref m2, .ref m3, .int (nI (yl - 1)), .ref m4, .int (nI ik), .ref m5, .ref m6, .int (nI tl), .int (nI sp), .int (nI rd), .ref m7, .ref m8, .ref m9])), (m1, .inl (cA, 286, .inl (nF (updN M3 i (yh ((286 * (yl - 1)) + i))))))] := hD
        refine lv_iinc (v := nI (i + 1)) (lv' := [(1, .int (nI (i + 1))), (0, .ref m0)]) hx hb dX7_undo_50 hl (k := 1) rfl (nI_add _ _) (by decide) rfl (fun ls hl => ?_)
        refine lv_goto (tgt := 22) hx hb dX7_undo_53 (by decide) ?_
        exact ih_22 _ (by omega) (i + 1) (updN M3 i (yh ((286 * (yl - 1)) + i))) _ _ _ rfl (by omega) (fun j hj => by simp only [updN]; split; (rename_i e_; rw [e_]); exact hk_ j (by omega)) hP hD hS (lv_sub hl [1, 0] rfl)
    exact LP_22 _ 0 M _ _ _ rfl (by omega) (fun j h_ => absurd h_ (Nat.not_lt_zero j)) hP hD hS (lv_sub hl [1, 0] rfl)
  · refine lv_bipush (v := -5) hx hb dX7_undo_7 (by decide) ?_
    refine tope (y := unR yl) (by rw [unR, if_pos c_4]) ?_
    exact RET _ _ _ _ _ M dX7_undo_9 rfl ⟨rfl, ⟨fun _ => rfl, fun h_ => absurd c_4 h_⟩⟩ (by rw [show yl - 1 = yl by omega]; exact hP) hS
abbrev rm_X7_keep : Room := { frames := 1, cells := 0, slots := 0, locals := 22 }
theorem ydv_X7_keep : yX7_keep.cls = RX7 ∧ yX7_keep.cls ≠ "java/lang/invoke/MethodHandle" ∧ yX7_keep.cls ≠ "java/lang/invoke/VarHandle" ∧ (parseMethodDescriptor yX7_keep.desc).map (fun d => d.parameters.length) = some 0 := by decide +kernel
theorem inf_X7_keep_X7 : ∀ w ∈ wsX70, w ∈ wsX7_keep := fun w h => List.mem_cons_of_mem _ (List.mem_append_right _ (h))
set_option maxHeartbeats 4000000 in
set_option maxRecDepth 100000 in
theorem c_X7_keep (l : Launch) (D : va_G) (cA : ClassId) (m0 m1 m2 m3 m4 m5 m6 m7 m8 m9 yl ik tl sp rd : Nat) (a M sm : Nat → Nat) (hV : Vd a) (hM : Rl a M) : MI l D cA yX7_keep wsX7_keep rm_X7_keep [.ref m0] [(m1, .inl (cA, 286, .inl (nF M)))] [(m0, .inr (7, [.ref m1, .ref m2, .ref m3, .int (nI yl), .ref m4, .int (nI ik), .ref m5, .ref m6, .int (nI tl), .int (nI sp), .int (nI rd), .ref m7, .ref m8, .ref m9])), (m4, .inl (cA, 286, .inl (nF sm)))] (S := (Nat → Nat)) (fun rr_ (uu_ : (Nat → Nat)) => rr_ = nI (cntG a) ∧ (∀ j, j < 286 → uu_ j = M j)) (fun (uu_ : (Nat → Nat)) => [(m0, .inr (7, [.ref m1, .ref m2, .ref m3, .int (nI yl), .ref m4, .int (nI 1), .ref m5, .ref m6, .int (nI tl), .int (nI sp), .int (nI rd), .ref m7, .ref m8, .ref m9])), (m4, .inl (cA, 286, .inl (nF uu_)))]) := by
  refine ofWi (cc := cX7_keep) (maxL := 2) (rt := .int) (by decide) rfl (Nat.le_of_ble_eq_true rfl) ?_
  intro p e s m args below meth c Q A ls F hK hR hP hD hA hS hl RET
  obtain ⟨hx, hb, hml, hown, hts⟩ := id F
  have hl : lv_has ls 2 [(0, .ref m0)] := hl
  refine lv_iconst (v := nI 0) hx hb dX7_keep_0 (by decide) ?_
  refine lv_istore_n (lv' := [(1, .int (nI 0)), (0, .ref m0)]) hx hb dX7_keep_1 rfl hl (by decide) rfl (fun ls hl => ?_)
  have LP_2 : ∀ (k_2 : Nat) (i : Nat) (M3 : Nat → Nat) (H : Heap) (locs : List Loc) (ls : Array Slot), 286 - i = k_2 → (i ≤ 286) → (∀ j, j < i → M3 j = M j) → va_P D vwCl [(m0, .inr (7, [.ref m1, .ref m2, .ref m3, .int (nI yl), .ref m4, .int (nI ik), .ref m5, .ref m6, .int (nI tl), .int (nI sp), .int (nI rd), .ref m7, .ref m8, .ref m9])), (m4, .inl (cA, 286, .inl (nF M3)))] H → va_D A [(m0, .inr (7, [.ref m1, .ref m2, .ref m3, .int (nI yl), .ref m4, .int (nI ik), .ref m5, .ref m6, .int (nI tl), .int (nI sp), .int (nI rd), .ref m7, .ref m8, .ref m9])), (m4, .inl (cA, 286, .inl (nF M3)))] → va_S A s.heap H locs → lv_has ls 2 [(0, .ref m0), (1, .int (nI i))] → W p l e rm_X7_keep s m args below meth c H locs 0 0 Q (F0 m 2 ls []) := by
    refine sind (fun k_2 ih_2 => ?_)
    intro i M3 H locs ls hk_2 hi hk_ hP hD hS hl
    refine lv_iload_n hx hb dX7_keep_2 rfl (lv_at hl 1 rfl) ?_
    refine lv_sipush (v := nI 286) hx hb dX7_keep_3 (by decide) ?_
    refine nv_icmp_ge (tgt := 27) hx hb dX7_keep_6 (by decide) (by omega) (by decide) (fun c_6 => ?_) (fun c_6 => ?_)
    · refine lv_aload_n hx hb dX7_keep_27 rfl (lv_at hl 0 rfl) ?_
      refine lv_iconst (v := nI 1) hx hb dX7_keep_28 (by decide) ?_
      refine va_put (D := D) (ci := 7) (v := .int (nI 1)) (ty := .int) (C := RX7) (T := TX7) (N := 14) hx hb hts inf_X7_keep_X7 tyX7 tyX7_ok nmX7 hown hK.1 hP hD hS 0 rfl rfl 5 (by decide) (hts _ (List.mem_of_getElem? (i := 3) rfl)) (fun _ h9 => h9) rfl (by decide +kernel) rfl rfl (Nat.le_of_ble_eq_true rfl) dX7_keep_29 (fun H locs hP hD hS => ?_)
      have hP : va_P D vwCl [(m0, .inr (7, [.ref m1, .ref m2, .ref m3, .int (nI yl), .ref m4, .int (nI 1), .ref m5, .ref m6, .int (nI tl), .int (nI sp), .int (nI rd), .ref m7, .ref m8, .ref m9])), (m4, .inl (cA, 286, .inl (nF M3)))] H := hP
      have hD : va_D A [(m0, .inr (7, [.ref m1, .ref m2, .ref m3, .int (nI yl), .ref m4, .int (nI 1), .ref m5, .ref m6, .int (nI tl), .int (nI sp), .int (nI rd), .ref m7, .ref m8, .ref m9])), (m4, .inl (cA, 286, .inl (nF M3)))] := hD
      refine lv_aload_n hx hb dX7_keep_32 rfl (lv_at hl 0 rfl) ?_
      refine call_r (q := (RX7, TX7, 14)) (As := []) (rest := []) F (c_X7_garlands l D cA m0 m1 ([.ref m2, .ref m3, .int (nI yl), .ref m4, .int (nI 1), .ref m5, .ref m6, .int (nI tl), .int (nI sp), .int (nI rd), .ref m7, .ref m8, .ref m9]) a M (hV) (hM)) (cwV 0 hts gX7_keep_X7_garlands rfl rfl rfl ydv_X7_garlands ⟨Nat.le_of_ble_eq_true rfl, Nat.le_of_ble_eq_true rfl⟩) hK hR hP hD hA hS [1, 0] rfl rfl 1 7 rfl rfl rfl hl.1 rfl (Nat.le_of_ble_eq_true rfl) dX7_keep_33 ⟨Nat.zero_le _, Nat.zero_le _⟩ (fun H locs hP hS => ?_)
      exact RET _ _ _ _ _ M3 dX7_keep_36 rfl ⟨rfl, fun j hj => hk_ j (by omega)⟩ hP hS
    · refine lv_aload_n hx hb dX7_keep_9 rfl (lv_at hl 0 rfl) ?_
      refine va_get (D := D) (cl := vwCl) (ci := 7) (v := .ref m4) (C := RX7) (T := TX7) (N := 14) hx hb hts inf_X7_keep_X7 hown hK.1 hP 0 rfl rfl 4 (by decide) (hts _ (List.mem_of_getElem? (i := 1) rfl)) (fun _ h9 => h9) rfl dX7_keep_10 ?_
      refine lv_iload_n hx hb dX7_keep_13 rfl (lv_at hl 1 rfl) ?_
      refine lv_aload_n hx hb dX7_keep_14 rfl (lv_at hl 0 rfl) ?_
      refine va_get (D := D) (cl := vwCl) (ci := 7) (v := .ref m1) (C := RX7) (T := TX7) (N := 14) hx hb hts inf_X7_keep_X7 hown hK.1 hP 0 rfl rfl 0 (by decide) (hts _ (List.mem_of_getElem? (i := 2) rfl)) (fun _ h9 => h9) rfl dX7_keep_15 ?_
      refine lv_iload_n hx hb dX7_keep_18 rfl (lv_at hl 1 rfl) ?_
      refine nv_iald (a := M) hx hb hK (hR.at hS) 0 rfl (by omega) (by decide) dX7_keep_19 ?_
      refine nv_iast (a := M3) (v := (M i)) hx hb hK hP hD hS 1 rfl (by omega) (by decide) dX7_keep_20 (fun H locs hP hD hS => ?_)
      have hP : va_P D vwCl [(m0, .inr (7, [.ref m1, .ref m2, .ref m3, .int (nI yl), .ref m4, .int (nI ik), .ref m5, .ref m6, .int (nI tl), .int (nI sp), .int (nI rd), .ref m7, .ref m8, .ref m9])), (m4, .inl (cA, 286, .inl (nF (updN M3 i (M i)))))] H := hP
      have hD : va_D A [(m0, .inr (7, [.ref m1, .ref m2, .ref m3, .int (nI yl), .ref m4, .int (nI ik), .ref m5, .ref m6, .int (nI tl), .int (nI sp), .int (nI rd), .ref m7, .ref m8, .ref m9])), (m4, .inl (cA, 286, .inl (nF (updN M3 i (M i)))))] := hD
      refine lv_iinc (v := nI (i + 1)) (lv' := [(1, .int (nI (i + 1))), (0, .ref m0)]) hx hb dX7_keep_21 hl (k := 1) rfl (nI_add _ _) (by decide) rfl (fun ls hl => ?_)
      refine lv_goto (tgt := 2) hx hb dX7_keep_24 (by decide) ?_
      exact ih_2 _ (by omega) (i + 1) (updN M3 i (M i)) _ _ _ rfl (by omega) (fun j hj => by simp only [updN]; split; (rename_i e_; rw [e_]); exact hk_ j (by omega)) hP hD hS (lv_sub hl [1, 0] rfl)
  exact LP_2 _ 0 sm _ _ _ rfl (by omega) (fun j h_ => absurd h_ (Nat.not_lt_zero j)) hP hD hS (lv_sub hl [1, 0] rfl)
abbrev rm_X7_restore : Room := { frames := 2, cells := 0, slots := 0, locals := 42 }
theorem ydv_X7_restore : yX7_restore.cls = RX7 ∧ yX7_restore.cls ≠ "java/lang/invoke/MethodHandle" ∧ yX7_restore.cls ≠ "java/lang/invoke/VarHandle" ∧ (parseMethodDescriptor yX7_restore.desc).map (fun d => d.parameters.length) = some 0 := by decide +kernel
theorem inf_X7_restore_X7 : ∀ w ∈ wsX70, w ∈ wsX7_restore := fun w h => List.mem_cons_of_mem _ (List.mem_append_right _ (h))
set_option maxHeartbeats 4000000 in
set_option maxRecDepth 100000 in
theorem c_X7_restore (l : Launch) (D : va_G) (cA : ClassId) (m0 m1 m2 m3 m4 m5 m6 m7 m8 m9 yl ik tl sp rd : Nat) (a M K yh : Nat → Nat) (sn sm : Nat → Nat) (has : Bool)  (hV : Vd a) (hM : Rl a M) (hyl : yl ≤ 4) (hsn : has = true → Vd sn ∧ Rl sn sm) (hik : ik = b2n has) : MI l D cA yX7_restore wsX7_restore rm_X7_restore [.ref m0] [(m4, .inl (cA, 286, .inl (nF sm)))] [(m0, .inr (7, [.ref m1, .ref m2, .ref m3, .int (nI yl), .ref m4, .int (nI ik), .ref m5, .ref m6, .int (nI tl), .int (nI sp), .int (nI rd), .ref m7, .ref m8, .ref m9])), (m1, .inl (cA, 286, .inl (nF M))), (m2, .inl (cA, 286, .inl (nF K))), (m3, .inl (cA, 1144, .inl (nF yh)))] (S := (Nat) × (Nat → Nat) × (Nat → Nat) × (Nat → Nat)) (fun rr_ (uu_ : (Nat) × (Nat → Nat) × (Nat → Nat) × (Nat → Nat)) => rr_ = (aRest a sn has).1 ∧ (ActM a M yh yl (aRest a sn has).2 uu_.1 uu_.2.2.2 uu_.2.1)) (fun (uu_ : (Nat) × (Nat → Nat) × (Nat → Nat) × (Nat → Nat)) => [(m0, .inr (7, [.ref m1, .ref m2, .ref m3, .int (nI uu_.1), .ref m4, .int (nI ik), .ref m5, .ref m6, .int (nI tl), .int (nI sp), .int (nI rd), .ref m7, .ref m8, .ref m9])), (m1, .inl (cA, 286, .inl (nF uu_.2.1))), (m2, .inl (cA, 286, .inl (nF uu_.2.2.1))), (m3, .inl (cA, 1144, .inl (nF uu_.2.2.2)))]) := by
  refine ofWi (cc := cX7_restore) (maxL := 2) (rt := .int) (by decide) rfl (Nat.le_of_ble_eq_true rfl) ?_
  intro p e s m args below meth c Q A ls F hK hR hP hD hA hS hl RET
  obtain ⟨hx, hb, hml, hown, hts⟩ := id F
  have hl : lv_has ls 2 [(0, .ref m0)] := hl
  refine lv_aload_n hx hb dX7_restore_0 rfl (lv_at hl 0 rfl) ?_
  refine va_get (D := D) (cl := vwCl) (ci := 7) (v := .int (nI ik)) (C := RX7) (T := TX7) (N := 14) hx hb hts inf_X7_restore_X7 hown hK.1 hP 0 rfl rfl 5 (by decide) (hts _ (List.mem_of_getElem? (i := 1) rfl)) (fun _ h9 => h9) rfl dX7_restore_1 ?_
  refine nv_if_ne (tgt := 10) hx hb dX7_restore_4 (by decide) (by rw [hik]; exact Nat.lt_of_le_of_lt (b2n_le has) (by decide)) (fun c_4 => ?_) (fun c_4 => ?_)
  · have hh_ : has = true := b2n_t (by rw [← hik]; exact c_4)
    have hsn_ := hsn hh_
    refine lv_aload_n hx hb dX7_restore_10 rfl (lv_at hl 0 rfl) ?_
    refine call_v (q := (RX7, TX7, 14)) (As := []) (rest := []) F (c_X7_keeps l D cA m0 m1 m2 ([.ref m3, .int (nI yl), .ref m4, .int (nI ik), .ref m5, .ref m6, .int (nI tl), .int (nI sp), .int (nI rd), .ref m7, .ref m8, .ref m9]) M K) (cwV 0 hts gX7_restore_X7_keeps rfl rfl rfl ydv_X7_keeps ⟨Nat.le_of_ble_eq_true rfl, Nat.le_of_ble_eq_true rfl⟩) hK hR hP hD hA hS [1, 2, 3] [2] rfl rfl rfl 1 7 rfl rfl (fun _ => rfl) rfl hl.1 rfl (Nat.le_of_ble_eq_true rfl) dX7_restore_11 ⟨Nat.zero_le _, Nat.zero_le _⟩ (fun u_11 H locs hw hP hD hS => ?_)
    obtain ⟨K2_11, rfl⟩ : ∃ z, z = u_11 := ⟨_, rfl⟩
    have hP : va_P D vwCl [(m0, .inr (7, [.ref m1, .ref m2, .ref m3, .int (nI yl), .ref m4, .int (nI ik), .ref m5, .ref m6, .int (nI tl), .int (nI sp), .int (nI rd), .ref m7, .ref m8, .ref m9])), (m1, .inl (cA, 286, .inl (nF M))), (m2, .inl (cA, 286, .inl (nF K2_11))), (m3, .inl (cA, 1144, .inl (nF yh)))] H := hP
    have hD : va_D A [(m0, .inr (7, [.ref m1, .ref m2, .ref m3, .int (nI yl), .ref m4, .int (nI ik), .ref m5, .ref m6, .int (nI tl), .int (nI sp), .int (nI rd), .ref m7, .ref m8, .ref m9])), (m1, .inl (cA, 286, .inl (nF M))), (m2, .inl (cA, 286, .inl (nF K2_11))), (m3, .inl (cA, 1144, .inl (nF yh)))] := hD
    have hw_11 : ∀ j, j < 286 → K2_11 j = M j := hw
    refine lv_iconst (v := nI 0) hx hb dX7_restore_14 (by decide) ?_
    refine lv_istore_n (lv' := [(1, .int (nI 0)), (0, .ref m0)]) hx hb dX7_restore_15 rfl hl (by decide) rfl (fun ls hl => ?_)
    have LP_16 : ∀ (k_16 : Nat) (i : Nat) (M3 : Nat → Nat) (H : Heap) (locs : List Loc) (ls : Array Slot), 286 - i = k_16 → (i ≤ 286) → (∀ j, j < i → M3 j = sm j) → va_P D vwCl [(m0, .inr (7, [.ref m1, .ref m2, .ref m3, .int (nI yl), .ref m4, .int (nI ik), .ref m5, .ref m6, .int (nI tl), .int (nI sp), .int (nI rd), .ref m7, .ref m8, .ref m9])), (m1, .inl (cA, 286, .inl (nF M3))), (m2, .inl (cA, 286, .inl (nF K2_11))), (m3, .inl (cA, 1144, .inl (nF yh)))] H → va_D A [(m0, .inr (7, [.ref m1, .ref m2, .ref m3, .int (nI yl), .ref m4, .int (nI ik), .ref m5, .ref m6, .int (nI tl), .int (nI sp), .int (nI rd), .ref m7, .ref m8, .ref m9])), (m1, .inl (cA, 286, .inl (nF M3))), (m2, .inl (cA, 286, .inl (nF K2_11))), (m3, .inl (cA, 1144, .inl (nF yh)))] → va_S A s.heap H locs → lv_has ls 2 [(0, .ref m0), (1, .int (nI i))] → W p l e rm_X7_restore s m args below meth c H locs 0 0 Q (F0 m 16 ls []) := by
      refine sind (fun k_16 ih_16 => ?_)
      intro i M3 H locs ls hk_16 hi hk_ hP hD hS hl
      refine lv_iload_n hx hb dX7_restore_16 rfl (lv_at hl 1 rfl) ?_
      refine lv_sipush (v := nI 286) hx hb dX7_restore_17 (by decide) ?_
      refine nv_icmp_ge (tgt := 41) hx hb dX7_restore_20 (by decide) (by omega) (by decide) (fun c_20 => ?_) (fun c_20 => ?_)
      · have hRs_ : Rl (cpyN sn a 0 0 286) M3 := Rl_both hsn_.2 hsn_.1 (fun j hj => by rw [cpyN, if_pos (by omega)]; simp) (fun j hj => hk_ j (by omega))
        have hVs_ : Vd (cpyN sn a 0 0 286) := Vd_congr hsn_.1 (fun j hj => by rw [cpyN, if_pos (by omega)]; simp)
        have hc8_ := cntG_le (cpyN sn a 0 0 286)
        refine lv_aload_n hx hb dX7_restore_41 rfl (lv_at hl 0 rfl) ?_
        refine lv_aload_n hx hb dX7_restore_42 rfl (lv_at hl 0 rfl) ?_
        refine call_r (q := (RX7, TX7, 14)) (As := []) (rest := [.ref m0]) F (c_X7_garlands l D cA m0 m1 ([.ref m2, .ref m3, .int (nI yl), .ref m4, .int (nI ik), .ref m5, .ref m6, .int (nI tl), .int (nI sp), .int (nI rd), .ref m7, .ref m8, .ref m9]) (cpyN sn a 0 0 286) M3 (hVs_) (hRs_)) (cwV 0 hts gX7_restore_X7_garlands rfl rfl rfl ydv_X7_garlands ⟨Nat.le_of_ble_eq_true rfl, Nat.le_of_ble_eq_true rfl⟩) hK hR hP hD hA hS [1, 2] rfl rfl 1 7 rfl rfl rfl hl.1 rfl (Nat.le_of_ble_eq_true rfl) dX7_restore_43 ⟨Nat.zero_le _, Nat.zero_le _⟩ (fun H locs hP hS => ?_)
        refine call_i (q := (RX7, TX7, 14)) (As := [.int (nI (cntG (cpyN sn a 0 0 286)))]) (rest := []) F (c_X7_ends l D cA m0 m1 m2 m3 m4 m5 m6 m7 m8 m9 yl ik tl sp rd M3 K2_11 yh (nI (cntG (cpyN sn a 0 0 286))) (by omega)) (cwV 1 hts gX7_restore_X7_ends rfl rfl rfl ydv_X7_ends ⟨Nat.le_of_ble_eq_true rfl, Nat.le_of_ble_eq_true rfl⟩) hK hR hP hD hA hS [3, 1, 2, 4] [0, 1, 3] rfl rfl rfl 1 7 rfl rfl (fun _ => rfl) rfl hl.1 rfl (Nat.le_of_ble_eq_true rfl) dX7_restore_46 ⟨Nat.zero_le _, Nat.zero_le _⟩ (fun r_46 u_46 H locs hw hP hD hS => ?_)
        obtain ⟨y2_46, M2_46, yh2_46⟩ := u_46
        have hP : va_P D vwCl [(m0, .inr (7, [.ref m1, .ref m2, .ref m3, .int (nI y2_46), .ref m4, .int (nI ik), .ref m5, .ref m6, .int (nI tl), .int (nI sp), .int (nI rd), .ref m7, .ref m8, .ref m9])), (m1, .inl (cA, 286, .inl (nF M2_46))), (m2, .inl (cA, 286, .inl (nF K2_11))), (m3, .inl (cA, 1144, .inl (nF yh2_46)))] H := hP
        have hD : va_D A [(m0, .inr (7, [.ref m1, .ref m2, .ref m3, .int (nI y2_46), .ref m4, .int (nI ik), .ref m5, .ref m6, .int (nI tl), .int (nI sp), .int (nI rd), .ref m7, .ref m8, .ref m9])), (m1, .inl (cA, 286, .inl (nF M2_46))), (m2, .inl (cA, 286, .inl (nF K2_11))), (m3, .inl (cA, 1144, .inl (nF yh2_46)))] := hD
        obtain ⟨hr_46, hw_46⟩ : r_46 = nI (cntG (cpyN sn a 0 0 286)) ∧ ((0 ≤ (nI (cntG (cpyN sn a 0 0 286))) → M2_46 = M3 ∧ y2_46 = hisT yl + 1 ∧ RecM yh K2_11 yl yh2_46) ∧ (¬ 0 ≤ (nI (cntG (cpyN sn a 0 0 286))) → (∀ j, j < 286 → M2_46 j = K2_11 j) ∧ y2_46 = yl ∧ yh2_46 = yh)) := hw
        subst hr_46
        have hE : aRest a sn has = (nI (cntG (cpyN sn a 0 0 286)), some (cpyN sn a 0 0 286)) := by first | (simp only [aRest]; simp [c_4, c_20, hh_]; done) | (simp only [aRest]; simp [c_4, c_20, hh_]; omega)
        refine tope (y := (aRest a sn has).1) (by rw [hE]) ?_
        exact RET _ _ _ _ _ (y2_46, M2_46, K2_11, yh2_46) dX7_restore_49 rfl ⟨rfl, (by rw [hE]; exact ends_yes (hRs_) hw_11 (hw_46.1 (nI_pos' (by omega))))⟩ hP hS
      · refine lv_aload_n hx hb dX7_restore_23 rfl (lv_at hl 0 rfl) ?_
        refine va_get (D := D) (cl := vwCl) (ci := 7) (v := .ref m1) (C := RX7) (T := TX7) (N := 14) hx hb hts inf_X7_restore_X7 hown hK.1 hP 0 rfl rfl 0 (by decide) (hts _ (List.mem_of_getElem? (i := 2) rfl)) (fun _ h9 => h9) rfl dX7_restore_24 ?_
        refine lv_iload_n hx hb dX7_restore_27 rfl (lv_at hl 1 rfl) ?_
        refine lv_aload_n hx hb dX7_restore_28 rfl (lv_at hl 0 rfl) ?_
        refine va_get (D := D) (cl := vwCl) (ci := 7) (v := .ref m4) (C := RX7) (T := TX7) (N := 14) hx hb hts inf_X7_restore_X7 hown hK.1 hP 0 rfl rfl 4 (by decide) (hts _ (List.mem_of_getElem? (i := 3) rfl)) (fun _ h9 => h9) rfl dX7_restore_29 ?_
        refine lv_iload_n hx hb dX7_restore_32 rfl (lv_at hl 1 rfl) ?_
        refine nv_iald (a := sm) hx hb hK (hR.at hS) 0 rfl (by omega) (by decide) dX7_restore_33 ?_
        refine nv_iast (a := M3) (v := (sm i)) hx hb hK hP hD hS 1 rfl (by omega) (by decide) dX7_restore_34 (fun H locs hP hD hS => ?_)
        have hP : va_P D vwCl [(m0, .inr (7, [.ref m1, .ref m2, .ref m3, .int (nI yl), .ref m4, .int (nI ik), .ref m5, .ref m6, .int (nI tl), .int (nI sp), .int (nI rd), .ref m7, .ref m8, .ref m9])), (m1, .inl (cA, 286, .inl (nF (updN M3 i (sm i))))), (m2, .inl (cA, 286, .inl (nF K2_11))), (m3, .inl (cA, 1144, .inl (nF yh)))] H := hP
        have hD : va_D A [(m0, .inr (7, [.ref m1, .ref m2, .ref m3, .int (nI yl), .ref m4, .int (nI ik), .ref m5, .ref m6, .int (nI tl), .int (nI sp), .int (nI rd), .ref m7, .ref m8, .ref m9])), (m1, .inl (cA, 286, .inl (nF (updN M3 i (sm i))))), (m2, .inl (cA, 286, .inl (nF K2_11))), (m3, .inl (cA, 1144, .inl (nF yh)))] := hD
        refine lv_iinc (v := nI (i + 1)) (lv' := [(1, .int (nI (i + 1))), (0, .ref m0)]) hx hb dX7_restore_35 hl (k := 1) rfl (nI_add _ _) (by decide) rfl (fun ls hl => ?_)
        refine lv_goto (tgt := 16) hx hb dX7_restore_38 (by decide) ?_
        exact ih_16 _ (by omega) (i + 1) (updN M3 i (sm i)) _ _ _ rfl (by omega) (fun j hj => by simp only [updN]; split; (rename_i e_; rw [e_]); exact hk_ j (by omega)) hP hD hS (lv_sub hl [1, 0] rfl)
    exact LP_16 _ 0 M _ _ _ rfl (by omega) (fun j h_ => absurd h_ (Nat.not_lt_zero j)) hP hD hS (lv_sub hl [1, 0] rfl)
  · have hh_ : has = false := b2n_f (by rw [← hik]; exact c_4)
    refine lv_bipush (v := -5) hx hb dX7_restore_7 (by decide) ?_
    have hE : aRest a sn has = ((-5), none) := by first | (simp only [aRest]; simp [eq_true c_4, hh_]; done) | (simp only [aRest]; simp [eq_true c_4, hh_]; omega)
    refine tope (y := (aRest a sn has).1) (by rw [hE]) ?_
    exact RET _ _ _ _ _ (yl, M, K, yh) dX7_restore_9 rfl ⟨rfl, (by rw [hE]; exact ⟨rfl, rfl, hM⟩)⟩ hP hS
abbrev rm_X7_type : Room := { frames := 0, cells := 0, slots := 0, locals := 0 }
theorem ydv_X7_type : yX7_type.cls = RX7 ∧ yX7_type.cls ≠ "java/lang/invoke/MethodHandle" ∧ yX7_type.cls ≠ "java/lang/invoke/VarHandle" ∧ (parseMethodDescriptor yX7_type.desc).map (fun d => d.parameters.length) = some 1 := by decide +kernel
theorem inf_X7_type_X7 : ∀ w ∈ wsX70, w ∈ wsX7_type := fun w h => List.mem_cons_of_mem _ (List.mem_append_right _ (h))
set_option maxHeartbeats 4000000 in
set_option maxRecDepth 100000 in
theorem c_X7_type (l : Launch) (D : va_G) (cA : ClassId) (m0 m1 m2 m3 m4 m5 m6 m7 m8 m9 yl ik tl sp rd : Nat) (tm : Nat → Nat) (x : Nat) (htl : tl ≤ 80) : MI l D cA yX7_type wsX7_type rm_X7_type [.ref m0, .int (nI x)] [] [(m0, .inr (7, [.ref m1, .ref m2, .ref m3, .int (nI yl), .ref m4, .int (nI ik), .ref m5, .ref m6, .int (nI tl), .int (nI sp), .int (nI rd), .ref m7, .ref m8, .ref m9])), (m6, .inl (cA, 80, .inl (nF tm)))] (S := Unit) (fun rr_ (uu_ : Unit) => rr_ = txR tl) (fun (uu_ : Unit) => [(m0, .inr (7, [.ref m1, .ref m2, .ref m3, .int (nI yl), .ref m4, .int (nI ik), .ref m5, .ref m6, .int (nI (txZ tl)), .int (nI sp), .int (nI rd), .ref m7, .ref m8, .ref m9])), (m6, .inl (cA, 80, .inl (nF (txC tm tl x))))]) := by
  refine ofWi (cc := cX7_type) (maxL := 2) (rt := .int) (by decide) rfl (Nat.le_of_ble_eq_true rfl) ?_
  intro p e s m args below meth c Q A ls F hK hR hP hD hA hS hl RET
  obtain ⟨hx, hb, hml, hown, hts⟩ := id F
  have hl : lv_has ls 2 [(0, .ref m0), (1, .int (nI x))] := hl
  refine lv_aload_n hx hb dX7_type_0 rfl (lv_at hl 0 rfl) ?_
  refine va_get (D := D) (cl := vwCl) (ci := 7) (v := .int (nI tl)) (C := RX7) (T := TX7) (N := 14) hx hb hts inf_X7_type_X7 hown hK.1 hP 0 rfl rfl 8 (by decide) (hts _ (List.mem_of_getElem? (i := 1) rfl)) (fun _ h9 => h9) rfl dX7_type_1 ?_
  refine lv_bipush (v := nI 80) hx hb dX7_type_4 (by decide) ?_
  refine nv_icmp_ne (tgt := 12) hx hb dX7_type_6 (by decide) (by omega) (by decide) (fun c_6 => ?_) (fun c_6 => ?_)
  · refine lv_aload_n hx hb dX7_type_12 rfl (lv_at hl 0 rfl) ?_
    refine va_get (D := D) (cl := vwCl) (ci := 7) (v := .ref m6) (C := RX7) (T := TX7) (N := 14) hx hb hts inf_X7_type_X7 hown hK.1 hP 0 rfl rfl 7 (by decide) (hts _ (List.mem_of_getElem? (i := 2) rfl)) (fun _ h9 => h9) rfl dX7_type_13 ?_
    refine lv_aload_n hx hb dX7_type_16 rfl (lv_at hl 0 rfl) ?_
    refine va_get (D := D) (cl := vwCl) (ci := 7) (v := .int (nI tl)) (C := RX7) (T := TX7) (N := 14) hx hb hts inf_X7_type_X7 hown hK.1 hP 0 rfl rfl 8 (by decide) (hts _ (List.mem_of_getElem? (i := 1) rfl)) (fun _ h9 => h9) rfl dX7_type_17 ?_
    refine lv_iload_n hx hb dX7_type_20 rfl (lv_at hl 1 rfl) ?_
    refine nv_iast (a := tm) (v := x) hx hb hK hP hD hS 1 rfl (by omega) (by decide) dX7_type_21 (fun H locs hP hD hS => ?_)
    have hP : va_P D vwCl [(m0, .inr (7, [.ref m1, .ref m2, .ref m3, .int (nI yl), .ref m4, .int (nI ik), .ref m5, .ref m6, .int (nI tl), .int (nI sp), .int (nI rd), .ref m7, .ref m8, .ref m9])), (m6, .inl (cA, 80, .inl (nF (updN tm tl x))))] H := hP
    have hD : va_D A [(m0, .inr (7, [.ref m1, .ref m2, .ref m3, .int (nI yl), .ref m4, .int (nI ik), .ref m5, .ref m6, .int (nI tl), .int (nI sp), .int (nI rd), .ref m7, .ref m8, .ref m9])), (m6, .inl (cA, 80, .inl (nF (updN tm tl x))))] := hD
    refine lv_aload_n hx hb dX7_type_22 rfl (lv_at hl 0 rfl) ?_
    refine lv_dup hx hb dX7_type_23 rfl ?_
    refine va_get (D := D) (cl := vwCl) (ci := 7) (v := .int (nI tl)) (C := RX7) (T := TX7) (N := 14) hx hb hts inf_X7_type_X7 hown hK.1 hP 0 rfl rfl 8 (by decide) (hts _ (List.mem_of_getElem? (i := 1) rfl)) (fun _ h9 => h9) rfl dX7_type_24 ?_
    refine lv_iconst (v := nI 1) hx hb dX7_type_27 (by decide) ?_
    refine nv_iadd hx hb dX7_type_28 ?_
    refine va_put (D := D) (ci := 7) (v := .int (nI (tl + 1))) (ty := .int) (C := RX7) (T := TX7) (N := 14) hx hb hts inf_X7_type_X7 tyX7 tyX7_ok nmX7 hown hK.1 hP hD hS 0 rfl rfl 8 (by decide) (hts _ (List.mem_of_getElem? (i := 1) rfl)) (fun _ h9 => h9) rfl (by decide +kernel) rfl rfl (Nat.le_of_ble_eq_true rfl) dX7_type_29 (fun H locs hP hD hS => ?_)
    have hP : va_P D vwCl [(m0, .inr (7, [.ref m1, .ref m2, .ref m3, .int (nI yl), .ref m4, .int (nI ik), .ref m5, .ref m6, .int (nI (tl + 1)), .int (nI sp), .int (nI rd), .ref m7, .ref m8, .ref m9])), (m6, .inl (cA, 80, .inl (nF (updN tm tl x))))] H := hP
    have hD : va_D A [(m0, .inr (7, [.ref m1, .ref m2, .ref m3, .int (nI yl), .ref m4, .int (nI ik), .ref m5, .ref m6, .int (nI (tl + 1)), .int (nI sp), .int (nI rd), .ref m7, .ref m8, .ref m9])), (m6, .inl (cA, 80, .inl (nF (updN tm tl x))))] := hD
    refine lv_aload_n hx hb dX7_type_32 rfl (lv_at hl 0 rfl) ?_
    refine va_get (D := D) (cl := vwCl) (ci := 7) (v := .int (nI (tl + 1))) (C := RX7) (T := TX7) (N := 14) hx hb hts inf_X7_type_X7 hown hK.1 hP 0 rfl rfl 8 (by decide) (hts _ (List.mem_of_getElem? (i := 1) rfl)) (fun _ h9 => h9) rfl dX7_type_33 ?_
    refine tope (y := txR tl) (by rw [txR, if_pos (by omega)]) ?_
    exact RET _ _ _ _ _ () dX7_type_36 rfl rfl (by rw [show txZ tl = tl + 1 from if_pos (by omega), show txC tm tl x = updN tm tl x from if_pos (by omega)]; exact hP) hS
  · refine lv_bipush (v := -3) hx hb dX7_type_9 (by decide) ?_
    refine tope (y := txR tl) (by rw [txR, if_neg (by omega)]) ?_
    exact RET _ _ _ _ _ () dX7_type_11 rfl rfl (by rw [show txZ tl = tl from if_neg (by omega), show txC tm tl x = tm from if_neg (by omega)]; exact hP) hS
abbrev rm_X7_clearText : Room := { frames := 0, cells := 0, slots := 0, locals := 0 }
theorem ydv_X7_clearText : yX7_clearText.cls = RX7 ∧ yX7_clearText.cls ≠ "java/lang/invoke/MethodHandle" ∧ yX7_clearText.cls ≠ "java/lang/invoke/VarHandle" ∧ (parseMethodDescriptor yX7_clearText.desc).map (fun d => d.parameters.length) = some 0 := by decide +kernel
theorem inf_X7_clearText_X7 : ∀ w ∈ wsX70, w ∈ wsX7_clearText := fun w h => List.mem_cons_of_mem _ (List.mem_append_right _ (h))
set_option maxHeartbeats 4000000 in
set_option maxRecDepth 100000 in
theorem c_X7_clearText (l : Launch) (D : va_G) (cA : ClassId) (m0 m1 m2 m3 m4 m5 m6 m7 m8 m9 yl ik tl sp rd : Nat)  : MI l D cA yX7_clearText wsX7_clearText rm_X7_clearText [.ref m0] [] [(m0, .inr (7, [.ref m1, .ref m2, .ref m3, .int (nI yl), .ref m4, .int (nI ik), .ref m5, .ref m6, .int (nI tl), .int (nI sp), .int (nI rd), .ref m7, .ref m8, .ref m9]))] (S := Unit) (fun rr_ (uu_ : Unit) => rr_ = nI tl) (fun (uu_ : Unit) => [(m0, .inr (7, [.ref m1, .ref m2, .ref m3, .int (nI yl), .ref m4, .int (nI ik), .ref m5, .ref m6, .int (nI 0), .int (nI sp), .int (nI rd), .ref m7, .ref m8, .ref m9]))]) := by
  refine ofWi (cc := cX7_clearText) (maxL := 2) (rt := .int) (by decide) rfl (Nat.le_of_ble_eq_true rfl) ?_
  intro p e s m args below meth c Q A ls F hK hR hP hD hA hS hl RET
  obtain ⟨hx, hb, hml, hown, hts⟩ := id F
  have hl : lv_has ls 2 [(0, .ref m0)] := hl
  refine lv_aload_n hx hb dX7_clearText_0 rfl (lv_at hl 0 rfl) ?_
  refine va_get (D := D) (cl := vwCl) (ci := 7) (v := .int (nI tl)) (C := RX7) (T := TX7) (N := 14) hx hb hts inf_X7_clearText_X7 hown hK.1 hP 0 rfl rfl 8 (by decide) (hts _ (List.mem_of_getElem? (i := 1) rfl)) (fun _ h9 => h9) rfl dX7_clearText_1 ?_
  refine lv_istore_n (lv' := [(1, .int (nI tl)), (0, .ref m0)]) hx hb dX7_clearText_4 rfl hl (by decide) rfl (fun ls hl => ?_)
  refine lv_aload_n hx hb dX7_clearText_5 rfl (lv_at hl 1 rfl) ?_
  refine lv_iconst (v := nI 0) hx hb dX7_clearText_6 (by decide) ?_
  refine va_put (D := D) (ci := 7) (v := .int (nI 0)) (ty := .int) (C := RX7) (T := TX7) (N := 14) hx hb hts inf_X7_clearText_X7 tyX7 tyX7_ok nmX7 hown hK.1 hP hD hS 0 rfl rfl 8 (by decide) (hts _ (List.mem_of_getElem? (i := 1) rfl)) (fun _ h9 => h9) rfl (by decide +kernel) rfl rfl (Nat.le_of_ble_eq_true rfl) dX7_clearText_7 (fun H locs hP hD hS => ?_)
  have hP : va_P D vwCl [(m0, .inr (7, [.ref m1, .ref m2, .ref m3, .int (nI yl), .ref m4, .int (nI ik), .ref m5, .ref m6, .int (nI 0), .int (nI sp), .int (nI rd), .ref m7, .ref m8, .ref m9]))] H := hP
  have hD : va_D A [(m0, .inr (7, [.ref m1, .ref m2, .ref m3, .int (nI yl), .ref m4, .int (nI ik), .ref m5, .ref m6, .int (nI 0), .int (nI sp), .int (nI rd), .ref m7, .ref m8, .ref m9]))] := hD
  refine lv_iload_n hx hb dX7_clearText_10 rfl (lv_at hl 0 rfl) ?_
  exact RET _ _ _ _ _ () dX7_clearText_11 rfl rfl hP hS
abbrev rm_X7_takesOne : Room := { frames := 0, cells := 0, slots := 0, locals := 0 }
theorem ydv_X7_takesOne : yX7_takesOne.cls = RX7 ∧ yX7_takesOne.cls ≠ "java/lang/invoke/MethodHandle" ∧ yX7_takesOne.cls ≠ "java/lang/invoke/VarHandle" ∧ (parseMethodDescriptor yX7_takesOne.desc).map (fun d => d.parameters.length) = some 1 := by decide +kernel
theorem inf_X7_takesOne_X7 : ∀ w ∈ wsX70, w ∈ wsX7_takesOne := fun w h => List.mem_cons_of_mem _ (List.mem_append_right _ (h))
set_option maxHeartbeats 4000000 in
set_option maxRecDepth 100000 in
theorem c_X7_takesOne (l : Launch) (D : va_G) (cA : ClassId) (m0 m1 m2 m3 m4 m5 m6 m7 m8 m9 yl ik tl sp rd : Nat) (tm : Nat → Nat) (x : Nat) (htl : tl ≤ 80) (htm : ∀ j, j < tl → tm j < 2 ^ 31) (hsp : sp ≤ 81) (hx_ : x < 2 ^ 31) : MI l D cA yX7_takesOne wsX7_takesOne rm_X7_takesOne [.ref m0, .int (nI x)] [(m6, .inl (cA, 80, .inl (nF tm)))] [(m0, .inr (7, [.ref m1, .ref m2, .ref m3, .int (nI yl), .ref m4, .int (nI ik), .ref m5, .ref m6, .int (nI tl), .int (nI sp), .int (nI rd), .ref m7, .ref m8, .ref m9]))] (S := Unit) (fun rr_ (uu_ : Unit) => rr_ = bI (tkO tm tl sp x)) (fun (uu_ : Unit) => [(m0, .inr (7, [.ref m1, .ref m2, .ref m3, .int (nI yl), .ref m4, .int (nI ik), .ref m5, .ref m6, .int (nI tl), .int (nI (sp + b2n (tkO tm tl sp x))), .int (nI rd), .ref m7, .ref m8, .ref m9]))]) := by
  refine ofWi (cc := cX7_takesOne) (maxL := 3) (rt := .boolean) (by decide) rfl (Nat.le_of_ble_eq_true rfl) ?_
  intro p e s m args below meth c Q A ls F hK hR hP hD hA hS hl RET
  obtain ⟨hx, hb, hml, hown, hts⟩ := id F
  have hl : lv_has ls 3 [(0, .ref m0), (1, .int (nI x))] := hl
  refine lv_aload_n hx hb dX7_takesOne_0 rfl (lv_at hl 0 rfl) ?_
  refine va_get (D := D) (cl := vwCl) (ci := 7) (v := .int (nI sp)) (C := RX7) (T := TX7) (N := 14) hx hb hts inf_X7_takesOne_X7 hown hK.1 hP 0 rfl rfl 9 (by decide) (hts _ (List.mem_of_getElem? (i := 1) rfl)) (fun _ h9 => h9) rfl dX7_takesOne_1 ?_
  refine lv_aload_n hx hb dX7_takesOne_4 rfl (lv_at hl 0 rfl) ?_
  refine va_get (D := D) (cl := vwCl) (ci := 7) (v := .int (nI tl)) (C := RX7) (T := TX7) (N := 14) hx hb hts inf_X7_takesOne_X7 hown hK.1 hP 0 rfl rfl 8 (by decide) (hts _ (List.mem_of_getElem? (i := 2) rfl)) (fun _ h9 => h9) rfl dX7_takesOne_5 ?_
  refine nv_icmp_ge (tgt := 28) hx hb dX7_takesOne_8 (by decide) (by omega) (by omega) (fun c_8 => ?_) (fun c_8 => ?_)
  · refine lv_iconst (v := nI 0) hx hb dX7_takesOne_28 (by decide) ?_
    refine lv_istore_n (lv' := [(2, .int (nI 0)), (0, .ref m0), (1, .int (nI x))]) hx hb dX7_takesOne_29 rfl hl (by decide) rfl (fun ls hl => ?_)
    refine lv_aload_n hx hb dX7_takesOne_30 rfl (lv_at hl 1 rfl) ?_
    refine lv_dup hx hb dX7_takesOne_31 rfl ?_
    refine va_get (D := D) (cl := vwCl) (ci := 7) (v := .int (nI sp)) (C := RX7) (T := TX7) (N := 14) hx hb hts inf_X7_takesOne_X7 hown hK.1 hP 0 rfl rfl 9 (by decide) (hts _ (List.mem_of_getElem? (i := 1) rfl)) (fun _ h9 => h9) rfl dX7_takesOne_32 ?_
    refine lv_iload_n hx hb dX7_takesOne_35 rfl (lv_at hl 0 rfl) ?_
    refine nv_if_eq (tgt := 43) hx hb dX7_takesOne_36 (by decide) (by decide) (fun c_36 => ?_) (fun c_36 => absurd c_36 (by decide))
    refine lv_iconst (v := nI 0) hx hb dX7_takesOne_43 (by decide) ?_
    refine nv_iadd hx hb dX7_takesOne_44 ?_
    refine va_put (D := D) (ci := 7) (v := .int (nI (sp + 0))) (ty := .int) (C := RX7) (T := TX7) (N := 14) hx hb hts inf_X7_takesOne_X7 tyX7 tyX7_ok nmX7 hown hK.1 hP hD hS 0 rfl rfl 9 (by decide) (hts _ (List.mem_of_getElem? (i := 1) rfl)) (fun _ h9 => h9) rfl (by decide +kernel) rfl rfl (Nat.le_of_ble_eq_true rfl) dX7_takesOne_45 (fun H locs hP hD hS => ?_)
    have hP : va_P D vwCl [(m0, .inr (7, [.ref m1, .ref m2, .ref m3, .int (nI yl), .ref m4, .int (nI ik), .ref m5, .ref m6, .int (nI tl), .int (nI (sp + 0)), .int (nI rd), .ref m7, .ref m8, .ref m9]))] H := hP
    have hD : va_D A [(m0, .inr (7, [.ref m1, .ref m2, .ref m3, .int (nI yl), .ref m4, .int (nI ik), .ref m5, .ref m6, .int (nI tl), .int (nI (sp + 0)), .int (nI rd), .ref m7, .ref m8, .ref m9]))] := hD
    refine lv_iload_n hx hb dX7_takesOne_48 rfl (lv_at hl 0 rfl) ?_
    refine tope (y := bI (tkO tm tl sp x)) (by first | exact bI_f (by simp [tkO, c_8, Nat.not_lt.mpr c_8]) | exact bI_t (by simp [tkO, c_8, Nat.not_lt.mpr c_8])) ?_
    exact RET _ _ _ _ _ () dX7_takesOne_49 (nbI _) rfl (by rw [show b2n (tkO tm tl sp x) = 0 from by simp [tkO, b2n, c_8, Nat.not_lt.mpr c_8]]; exact hP) hS
  · have hc_ := htm sp c_8
    refine lv_aload_n hx hb dX7_takesOne_11 rfl (lv_at hl 0 rfl) ?_
    refine va_get (D := D) (cl := vwCl) (ci := 7) (v := .ref m6) (C := RX7) (T := TX7) (N := 14) hx hb hts inf_X7_takesOne_X7 hown hK.1 hP 0 rfl rfl 7 (by decide) (hts _ (List.mem_of_getElem? (i := 3) rfl)) (fun _ h9 => h9) rfl dX7_takesOne_12 ?_
    refine lv_aload_n hx hb dX7_takesOne_15 rfl (lv_at hl 0 rfl) ?_
    refine va_get (D := D) (cl := vwCl) (ci := 7) (v := .int (nI sp)) (C := RX7) (T := TX7) (N := 14) hx hb hts inf_X7_takesOne_X7 hown hK.1 hP 0 rfl rfl 9 (by decide) (hts _ (List.mem_of_getElem? (i := 1) rfl)) (fun _ h9 => h9) rfl dX7_takesOne_16 ?_
    refine nv_iald (a := tm) hx hb hK (hR.at hS) 0 rfl (by omega) (by decide) dX7_takesOne_19 ?_
    refine lv_iload_n hx hb dX7_takesOne_20 rfl (lv_at hl 1 rfl) ?_
    refine nv_icmp_ne (tgt := 28) hx hb dX7_takesOne_21 (by decide) (by omega) (by omega) (fun c_21 => ?_) (fun c_21 => ?_)
    · refine lv_iconst (v := nI 0) hx hb dX7_takesOne_28 (by decide) ?_
      refine lv_istore_n (lv' := [(2, .int (nI 0)), (0, .ref m0), (1, .int (nI x))]) hx hb dX7_takesOne_29 rfl hl (by decide) rfl (fun ls hl => ?_)
      refine lv_aload_n hx hb dX7_takesOne_30 rfl (lv_at hl 1 rfl) ?_
      refine lv_dup hx hb dX7_takesOne_31 rfl ?_
      refine va_get (D := D) (cl := vwCl) (ci := 7) (v := .int (nI sp)) (C := RX7) (T := TX7) (N := 14) hx hb hts inf_X7_takesOne_X7 hown hK.1 hP 0 rfl rfl 9 (by decide) (hts _ (List.mem_of_getElem? (i := 1) rfl)) (fun _ h9 => h9) rfl dX7_takesOne_32 ?_
      refine lv_iload_n hx hb dX7_takesOne_35 rfl (lv_at hl 0 rfl) ?_
      refine nv_if_eq (tgt := 43) hx hb dX7_takesOne_36 (by decide) (by decide) (fun c_36 => ?_) (fun c_36 => absurd c_36 (by decide))
      refine lv_iconst (v := nI 0) hx hb dX7_takesOne_43 (by decide) ?_
      refine nv_iadd hx hb dX7_takesOne_44 ?_
      refine va_put (D := D) (ci := 7) (v := .int (nI (sp + 0))) (ty := .int) (C := RX7) (T := TX7) (N := 14) hx hb hts inf_X7_takesOne_X7 tyX7 tyX7_ok nmX7 hown hK.1 hP hD hS 0 rfl rfl 9 (by decide) (hts _ (List.mem_of_getElem? (i := 1) rfl)) (fun _ h9 => h9) rfl (by decide +kernel) rfl rfl (Nat.le_of_ble_eq_true rfl) dX7_takesOne_45 (fun H locs hP hD hS => ?_)
      have hP : va_P D vwCl [(m0, .inr (7, [.ref m1, .ref m2, .ref m3, .int (nI yl), .ref m4, .int (nI ik), .ref m5, .ref m6, .int (nI tl), .int (nI (sp + 0)), .int (nI rd), .ref m7, .ref m8, .ref m9]))] H := hP
      have hD : va_D A [(m0, .inr (7, [.ref m1, .ref m2, .ref m3, .int (nI yl), .ref m4, .int (nI ik), .ref m5, .ref m6, .int (nI tl), .int (nI (sp + 0)), .int (nI rd), .ref m7, .ref m8, .ref m9]))] := hD
      refine lv_iload_n hx hb dX7_takesOne_48 rfl (lv_at hl 0 rfl) ?_
      refine tope (y := bI (tkO tm tl sp x)) (by first | exact bI_f (by simp [tkO, c_8, c_21]) | exact bI_t (by simp [tkO, c_8, c_21])) ?_
      exact RET _ _ _ _ _ () dX7_takesOne_49 (nbI _) rfl (by rw [show b2n (tkO tm tl sp x) = 0 from by simp [tkO, b2n, c_8, c_21]]; exact hP) hS
    · refine lv_iconst (v := nI 1) hx hb dX7_takesOne_24 (by decide) ?_
      refine lv_goto (tgt := 29) hx hb dX7_takesOne_25 (by decide) ?_
      refine lv_istore_n (lv' := [(2, .int (nI 1)), (0, .ref m0), (1, .int (nI x))]) hx hb dX7_takesOne_29 rfl hl (by decide) rfl (fun ls hl => ?_)
      refine lv_aload_n hx hb dX7_takesOne_30 rfl (lv_at hl 1 rfl) ?_
      refine lv_dup hx hb dX7_takesOne_31 rfl ?_
      refine va_get (D := D) (cl := vwCl) (ci := 7) (v := .int (nI sp)) (C := RX7) (T := TX7) (N := 14) hx hb hts inf_X7_takesOne_X7 hown hK.1 hP 0 rfl rfl 9 (by decide) (hts _ (List.mem_of_getElem? (i := 1) rfl)) (fun _ h9 => h9) rfl dX7_takesOne_32 ?_
      refine lv_iload_n hx hb dX7_takesOne_35 rfl (lv_at hl 0 rfl) ?_
      refine nv_if_eq (tgt := 43) hx hb dX7_takesOne_36 (by decide) (by decide) (fun c_36 => absurd c_36 (by decide)) (fun c_36 => ?_)
      refine lv_iconst (v := nI 1) hx hb dX7_takesOne_39 (by decide) ?_
      refine lv_goto (tgt := 44) hx hb dX7_takesOne_40 (by decide) ?_
      refine nv_iadd hx hb dX7_takesOne_44 ?_
      refine va_put (D := D) (ci := 7) (v := .int (nI (sp + 1))) (ty := .int) (C := RX7) (T := TX7) (N := 14) hx hb hts inf_X7_takesOne_X7 tyX7 tyX7_ok nmX7 hown hK.1 hP hD hS 0 rfl rfl 9 (by decide) (hts _ (List.mem_of_getElem? (i := 1) rfl)) (fun _ h9 => h9) rfl (by decide +kernel) rfl rfl (Nat.le_of_ble_eq_true rfl) dX7_takesOne_45 (fun H locs hP hD hS => ?_)
      have hP : va_P D vwCl [(m0, .inr (7, [.ref m1, .ref m2, .ref m3, .int (nI yl), .ref m4, .int (nI ik), .ref m5, .ref m6, .int (nI tl), .int (nI (sp + 1)), .int (nI rd), .ref m7, .ref m8, .ref m9]))] H := hP
      have hD : va_D A [(m0, .inr (7, [.ref m1, .ref m2, .ref m3, .int (nI yl), .ref m4, .int (nI ik), .ref m5, .ref m6, .int (nI tl), .int (nI (sp + 1)), .int (nI rd), .ref m7, .ref m8, .ref m9]))] := hD
      refine lv_iload_n hx hb dX7_takesOne_48 rfl (lv_at hl 0 rfl) ?_
      refine tope (y := bI (tkO tm tl sp x)) (by first | exact bI_f (by simp [tkO, c_8, eq_true c_21]) | exact bI_t (by simp [tkO, c_8, eq_true c_21])) ?_
      exact RET _ _ _ _ _ () dX7_takesOne_49 (nbI _) rfl (by rw [show b2n (tkO tm tl sp x) = 1 from by simp [tkO, b2n, c_8, eq_true c_21]]; exact hP) hS
abbrev rm_X7_readsDoll : Room := { frames := 1, cells := 0, slots := 0, locals := 25 }
theorem ydv_X7_readsDoll : yX7_readsDoll.cls = RX7 ∧ yX7_readsDoll.cls ≠ "java/lang/invoke/MethodHandle" ∧ yX7_readsDoll.cls ≠ "java/lang/invoke/VarHandle" ∧ (parseMethodDescriptor yX7_readsDoll.desc).map (fun d => d.parameters.length) = some 0 := by decide +kernel
theorem inf_X7_readsDoll_X7 : ∀ w ∈ wsX70, w ∈ wsX7_readsDoll := fun w h => List.mem_cons_of_mem _ (List.mem_append_right _ (h))
set_option maxHeartbeats 4000000 in
set_option maxRecDepth 100000 in
theorem c_X7_readsDoll (l : Launch) (D : va_G) (cA : ClassId) (m0 m1 m2 m3 m4 m5 m6 m7 m8 m9 yl ik tl sp rd : Nat) (tm w0 : Nat → Nat) (htl : tl ≤ 80) (htm : ∀ j, j < tl → tm j < 2 ^ 31) (hsp : sp ≤ tl) (hrd : rd < 32) : MI l D cA yX7_readsDoll wsX7_readsDoll rm_X7_readsDoll [.ref m0] [(m6, .inl (cA, 80, .inl (nF tm)))] [(m0, .inr (7, [.ref m1, .ref m2, .ref m3, .int (nI yl), .ref m4, .int (nI ik), .ref m5, .ref m6, .int (nI tl), .int (nI sp), .int (nI rd), .ref m7, .ref m8, .ref m9])), (m5, .inl (cA, 32, .inl (nF w0)))] (S := (Nat) × (Nat) × (Nat → Nat)) (fun rr_ (uu_ : (Nat) × (Nat) × (Nat → Nat)) => rr_ = bI (rdO tm tl sp) ∧ ((rdO tm tl sp = false → uu_.1 = sp ∧ uu_.2.1 = rd ∧ uu_.2.2 = w0) ∧ (rdO tm tl sp = true → uu_.1 = sp + 1 + b2n (tkO tm tl (sp + 1) 39) ∧ uu_.2.1 = rd + 1 ∧ uu_.2.2 rd = 2 * (tm sp - 48) + b2n (tkO tm tl (sp + 1) 39) ∧ ∀ j, j ≠ rd → uu_.2.2 j = w0 j))) (fun (uu_ : (Nat) × (Nat) × (Nat → Nat)) => [(m0, .inr (7, [.ref m1, .ref m2, .ref m3, .int (nI yl), .ref m4, .int (nI ik), .ref m5, .ref m6, .int (nI tl), .int (nI uu_.1), .int (nI uu_.2.1), .ref m7, .ref m8, .ref m9])), (m5, .inl (cA, 32, .inl (nF uu_.2.2)))]) := by
  refine ofWi (cc := cX7_readsDoll) (maxL := 1) (rt := .boolean) (by decide) rfl (Nat.le_of_ble_eq_true rfl) ?_
  intro p e s m args below meth c Q A ls F hK hR hP hD hA hS hl RET
  obtain ⟨hx, hb, hml, hown, hts⟩ := id F
  have hl : lv_has ls 1 [(0, .ref m0)] := hl
  refine lv_aload_n hx hb dX7_readsDoll_0 rfl (lv_at hl 0 rfl) ?_
  refine va_get (D := D) (cl := vwCl) (ci := 7) (v := .int (nI sp)) (C := RX7) (T := TX7) (N := 14) hx hb hts inf_X7_readsDoll_X7 hown hK.1 hP 0 rfl rfl 9 (by decide) (hts _ (List.mem_of_getElem? (i := 1) rfl)) (fun _ h9 => h9) rfl dX7_readsDoll_1 ?_
  refine lv_aload_n hx hb dX7_readsDoll_4 rfl (lv_at hl 0 rfl) ?_
  refine va_get (D := D) (cl := vwCl) (ci := 7) (v := .int (nI tl)) (C := RX7) (T := TX7) (N := 14) hx hb hts inf_X7_readsDoll_X7 hown hK.1 hP 0 rfl rfl 8 (by decide) (hts _ (List.mem_of_getElem? (i := 2) rfl)) (fun _ h9 => h9) rfl dX7_readsDoll_5 ?_
  refine nv_icmp_eq (tgt := 33) hx hb dX7_readsDoll_8 (by decide) (by omega) (by omega) (fun c_8 => ?_) (fun c_8 => ?_)
  · have hr_ : rdO tm tl sp = false := by simp [rdO, c_8]
    refine lv_iconst (v := nI 0) hx hb dX7_readsDoll_33 (by decide) ?_
    refine tope (y := bI (rdO tm tl sp)) (bI_f hr_) ?_
    exact RET _ _ _ _ _ (sp, rd, w0) dX7_readsDoll_34 (nbI _) ⟨rfl, ⟨fun _ => ⟨rfl, rfl, rfl⟩, fun h_ => absurd (hr_.symm.trans h_) (by decide)⟩⟩ hP hS
  · have hc_ := htm sp (by omega)
    refine lv_aload_n hx hb dX7_readsDoll_11 rfl (lv_at hl 0 rfl) ?_
    refine va_get (D := D) (cl := vwCl) (ci := 7) (v := .ref m6) (C := RX7) (T := TX7) (N := 14) hx hb hts inf_X7_readsDoll_X7 hown hK.1 hP 0 rfl rfl 7 (by decide) (hts _ (List.mem_of_getElem? (i := 3) rfl)) (fun _ h9 => h9) rfl dX7_readsDoll_12 ?_
    refine lv_aload_n hx hb dX7_readsDoll_15 rfl (lv_at hl 0 rfl) ?_
    refine va_get (D := D) (cl := vwCl) (ci := 7) (v := .int (nI sp)) (C := RX7) (T := TX7) (N := 14) hx hb hts inf_X7_readsDoll_X7 hown hK.1 hP 0 rfl rfl 9 (by decide) (hts _ (List.mem_of_getElem? (i := 1) rfl)) (fun _ h9 => h9) rfl dX7_readsDoll_16 ?_
    refine nv_iald (a := tm) hx hb hK (hR.at hS) 0 rfl (by omega) (by decide) dX7_readsDoll_19 ?_
    refine lv_i2l (v := lN (tm sp)) hx hb dX7_readsDoll_20 (nI_l (by omega)) ?_
    refine lv_ldc2 (v := lN 48) hx hb hown (hts _ (List.mem_of_getElem? (i := 4) rfl)) dX7_readsDoll_21 ?_
    refine lv_ldc2 (v := lN 57) hx hb hown (hts _ (List.mem_of_getElem? (i := 5) rfl)) dX7_readsDoll_24 ?_
    refine call_s (As := [.long (lN (tm sp)), .long (lN 48), .long (lN 57)]) (rest := []) F (c_X7_in l D cA (lN (tm sp)) (lN 48) (lN 57)) (va_cwS 3 hts gX7_readsDoll_X7_in rfl rfl rfl yd_X7_in ⟨Nat.le_of_ble_eq_true rfl, Nat.le_of_ble_eq_true rfl⟩) hK hR hP hD hA hS rfl hl.1 rfl (Nat.le_of_ble_eq_true rfl) dX7_readsDoll_27 ⟨Nat.zero_le _, Nat.zero_le _⟩ (fun H locs hP hS => ?_)
    refine tope (y := bI (dig (tm sp))) (congrArg bI (inL_D (by omega))) ?_
    refine bv_if_ne (tgt := 35) hx hb dX7_readsDoll_30 (by decide) (fun c_30 => ?_) (fun c_30 => ?_)
    · have hr_ : rdO tm tl sp = true := by rw [rdO, decide_eq_true (by omega), c_30]; rfl
      have h48_ : 48 ≤ tm sp := by have := c_30; simp [dig] at this; omega
      refine lv_aload_n hx hb dX7_readsDoll_35 rfl (lv_at hl 0 rfl) ?_
      refine va_get (D := D) (cl := vwCl) (ci := 7) (v := .ref m5) (C := RX7) (T := TX7) (N := 14) hx hb hts inf_X7_readsDoll_X7 hown hK.1 hP 0 rfl rfl 6 (by decide) (hts _ (List.mem_of_getElem? (i := 6) rfl)) (fun _ h9 => h9) rfl dX7_readsDoll_36 ?_
      refine lv_aload_n hx hb dX7_readsDoll_39 rfl (lv_at hl 0 rfl) ?_
      refine va_get (D := D) (cl := vwCl) (ci := 7) (v := .int (nI rd)) (C := RX7) (T := TX7) (N := 14) hx hb hts inf_X7_readsDoll_X7 hown hK.1 hP 0 rfl rfl 10 (by decide) (hts _ (List.mem_of_getElem? (i := 7) rfl)) (fun _ h9 => h9) rfl dX7_readsDoll_40 ?_
      refine lv_iconst (v := nI 2) hx hb dX7_readsDoll_43 (by decide) ?_
      refine lv_aload_n hx hb dX7_readsDoll_44 rfl (lv_at hl 0 rfl) ?_
      refine va_get (D := D) (cl := vwCl) (ci := 7) (v := .ref m6) (C := RX7) (T := TX7) (N := 14) hx hb hts inf_X7_readsDoll_X7 hown hK.1 hP 0 rfl rfl 7 (by decide) (hts _ (List.mem_of_getElem? (i := 3) rfl)) (fun _ h9 => h9) rfl dX7_readsDoll_45 ?_
      refine lv_aload_n hx hb dX7_readsDoll_48 rfl (lv_at hl 0 rfl) ?_
      refine va_get (D := D) (cl := vwCl) (ci := 7) (v := .int (nI sp)) (C := RX7) (T := TX7) (N := 14) hx hb hts inf_X7_readsDoll_X7 hown hK.1 hP 0 rfl rfl 9 (by decide) (hts _ (List.mem_of_getElem? (i := 1) rfl)) (fun _ h9 => h9) rfl dX7_readsDoll_49 ?_
      refine nv_iald (a := tm) hx hb hK (hR.at hS) 0 rfl (by omega) (by decide) dX7_readsDoll_52 ?_
      refine lv_bipush (v := nI 48) hx hb dX7_readsDoll_53 (by decide) ?_
      refine nv_isub hx hb dX7_readsDoll_55 (by omega) ?_
      refine nv_imul hx hb dX7_readsDoll_56 ?_
      refine nv_iast (a := w0) (v := (2 * ((tm sp) - 48))) hx hb hK hP hD hS 1 rfl (by omega) (by decide) dX7_readsDoll_57 (fun H locs hP hD hS => ?_)
      have hP : va_P D vwCl [(m0, .inr (7, [.ref m1, .ref m2, .ref m3, .int (nI yl), .ref m4, .int (nI ik), .ref m5, .ref m6, .int (nI tl), .int (nI sp), .int (nI rd), .ref m7, .ref m8, .ref m9])), (m5, .inl (cA, 32, .inl (nF (updN w0 rd (2 * ((tm sp) - 48))))))] H := hP
      have hD : va_D A [(m0, .inr (7, [.ref m1, .ref m2, .ref m3, .int (nI yl), .ref m4, .int (nI ik), .ref m5, .ref m6, .int (nI tl), .int (nI sp), .int (nI rd), .ref m7, .ref m8, .ref m9])), (m5, .inl (cA, 32, .inl (nF (updN w0 rd (2 * ((tm sp) - 48))))))] := hD
      refine lv_aload_n hx hb dX7_readsDoll_58 rfl (lv_at hl 0 rfl) ?_
      refine lv_dup hx hb dX7_readsDoll_59 rfl ?_
      refine va_get (D := D) (cl := vwCl) (ci := 7) (v := .int (nI sp)) (C := RX7) (T := TX7) (N := 14) hx hb hts inf_X7_readsDoll_X7 hown hK.1 hP 0 rfl rfl 9 (by decide) (hts _ (List.mem_of_getElem? (i := 1) rfl)) (fun _ h9 => h9) rfl dX7_readsDoll_60 ?_
      refine lv_iconst (v := nI 1) hx hb dX7_readsDoll_63 (by decide) ?_
      refine nv_iadd hx hb dX7_readsDoll_64 ?_
      refine va_put (D := D) (ci := 7) (v := .int (nI (sp + 1))) (ty := .int) (C := RX7) (T := TX7) (N := 14) hx hb hts inf_X7_readsDoll_X7 tyX7 tyX7_ok nmX7 hown hK.1 hP hD hS 0 rfl rfl 9 (by decide) (hts _ (List.mem_of_getElem? (i := 1) rfl)) (fun _ h9 => h9) rfl (by decide +kernel) rfl rfl (Nat.le_of_ble_eq_true rfl) dX7_readsDoll_65 (fun H locs hP hD hS => ?_)
      have hP : va_P D vwCl [(m0, .inr (7, [.ref m1, .ref m2, .ref m3, .int (nI yl), .ref m4, .int (nI ik), .ref m5, .ref m6, .int (nI tl), .int (nI (sp + 1)), .int (nI rd), .ref m7, .ref m8, .ref m9])), (m5, .inl (cA, 32, .inl (nF (updN w0 rd (2 * ((tm sp) - 48))))))] H := hP
      have hD : va_D A [(m0, .inr (7, [.ref m1, .ref m2, .ref m3, .int (nI yl), .ref m4, .int (nI ik), .ref m5, .ref m6, .int (nI tl), .int (nI (sp + 1)), .int (nI rd), .ref m7, .ref m8, .ref m9])), (m5, .inl (cA, 32, .inl (nF (updN w0 rd (2 * ((tm sp) - 48))))))] := hD
      refine lv_aload_n hx hb dX7_readsDoll_68 rfl (lv_at hl 0 rfl) ?_
      refine va_get (D := D) (cl := vwCl) (ci := 7) (v := .ref m5) (C := RX7) (T := TX7) (N := 14) hx hb hts inf_X7_readsDoll_X7 hown hK.1 hP 0 rfl rfl 6 (by decide) (hts _ (List.mem_of_getElem? (i := 6) rfl)) (fun _ h9 => h9) rfl dX7_readsDoll_69 ?_
      refine lv_aload_n hx hb dX7_readsDoll_72 rfl (lv_at hl 0 rfl) ?_
      refine va_get (D := D) (cl := vwCl) (ci := 7) (v := .int (nI rd)) (C := RX7) (T := TX7) (N := 14) hx hb hts inf_X7_readsDoll_X7 hown hK.1 hP 0 rfl rfl 10 (by decide) (hts _ (List.mem_of_getElem? (i := 7) rfl)) (fun _ h9 => h9) rfl dX7_readsDoll_73 ?_
      refine lv_dup2_11 hx hb dX7_readsDoll_76 rfl rfl ?_
      refine nv_iald (a := updN w0 rd (2 * ((tm sp) - 48))) hx hb hK hP 1 rfl (by omega) (by decide) dX7_readsDoll_77 ?_
      refine tope (y := nI (2 * (tm sp - 48))) (congrArg nI (updN_s _ _ _)) ?_
      refine lv_aload_n hx hb dX7_readsDoll_78 rfl (lv_at hl 0 rfl) ?_
      refine lv_bipush (v := nI 39) hx hb dX7_readsDoll_79 (by decide) ?_
      refine call_i (q := (RX7, TX7, 14)) (As := [.int (nI 39)]) (rest := [.int (nI (2 * (tm sp - 48))), .int (nI rd), .ref m5]) F (c_X7_takesOne l D cA m0 m1 m2 m3 m4 m5 m6 m7 m8 m9 yl ik tl (sp + 1) rd tm 39 (by omega) (htm) (by omega) (by decide)) (cwV 1 hts gX7_readsDoll_X7_takesOne rfl rfl rfl ydv_X7_takesOne ⟨Nat.le_of_ble_eq_true rfl, Nat.le_of_ble_eq_true rfl⟩) hK hR hP hD hA hS [0, 1] [0] rfl rfl rfl 1 7 rfl rfl (fun _ => rfl) rfl hl.1 rfl (Nat.le_of_ble_eq_true rfl) dX7_readsDoll_81 ⟨Nat.zero_le _, Nat.zero_le _⟩ (fun r_81 u_81 H locs hw hP hD hS => ?_)
      have hP : va_P D vwCl [(m0, .inr (7, [.ref m1, .ref m2, .ref m3, .int (nI yl), .ref m4, .int (nI ik), .ref m5, .ref m6, .int (nI tl), .int (nI ((sp + 1) + b2n (tkO tm tl (sp + 1) 39))), .int (nI rd), .ref m7, .ref m8, .ref m9])), (m5, .inl (cA, 32, .inl (nF (updN w0 rd (2 * ((tm sp) - 48))))))] H := hP
      have hD : va_D A [(m0, .inr (7, [.ref m1, .ref m2, .ref m3, .int (nI yl), .ref m4, .int (nI ik), .ref m5, .ref m6, .int (nI tl), .int (nI ((sp + 1) + b2n (tkO tm tl (sp + 1) 39))), .int (nI rd), .ref m7, .ref m8, .ref m9])), (m5, .inl (cA, 32, .inl (nF (updN w0 rd (2 * ((tm sp) - 48))))))] := hD
      obtain rfl : r_81 = bI (tkO tm tl (sp + 1) 39) := hw
      refine bv_if_eq (tgt := 91) hx hb dX7_readsDoll_84 (by decide) (fun c_84 => ?_) (fun c_84 => ?_)
      · refine lv_iconst (v := nI 0) hx hb dX7_readsDoll_91 (by decide) ?_
        refine nv_iadd hx hb dX7_readsDoll_92 ?_
        refine nv_iast (a := (updN w0 rd (2 * ((tm sp) - 48)))) (v := ((2 * (tm sp - 48)) + 0)) hx hb hK hP hD hS 1 rfl (by omega) (by decide) dX7_readsDoll_93 (fun H locs hP hD hS => ?_)
        have hP : va_P D vwCl [(m0, .inr (7, [.ref m1, .ref m2, .ref m3, .int (nI yl), .ref m4, .int (nI ik), .ref m5, .ref m6, .int (nI tl), .int (nI ((sp + 1) + b2n (tkO tm tl (sp + 1) 39))), .int (nI rd), .ref m7, .ref m8, .ref m9])), (m5, .inl (cA, 32, .inl (nF (updN (updN w0 rd (2 * ((tm sp) - 48))) rd ((2 * (tm sp - 48)) + 0)))))] H := hP
        have hD : va_D A [(m0, .inr (7, [.ref m1, .ref m2, .ref m3, .int (nI yl), .ref m4, .int (nI ik), .ref m5, .ref m6, .int (nI tl), .int (nI ((sp + 1) + b2n (tkO tm tl (sp + 1) 39))), .int (nI rd), .ref m7, .ref m8, .ref m9])), (m5, .inl (cA, 32, .inl (nF (updN (updN w0 rd (2 * ((tm sp) - 48))) rd ((2 * (tm sp - 48)) + 0)))))] := hD
        refine lv_aload_n hx hb dX7_readsDoll_94 rfl (lv_at hl 0 rfl) ?_
        refine lv_dup hx hb dX7_readsDoll_95 rfl ?_
        refine va_get (D := D) (cl := vwCl) (ci := 7) (v := .int (nI rd)) (C := RX7) (T := TX7) (N := 14) hx hb hts inf_X7_readsDoll_X7 hown hK.1 hP 0 rfl rfl 10 (by decide) (hts _ (List.mem_of_getElem? (i := 7) rfl)) (fun _ h9 => h9) rfl dX7_readsDoll_96 ?_
        refine lv_iconst (v := nI 1) hx hb dX7_readsDoll_99 (by decide) ?_
        refine nv_iadd hx hb dX7_readsDoll_100 ?_
        refine va_put (D := D) (ci := 7) (v := .int (nI (rd + 1))) (ty := .int) (C := RX7) (T := TX7) (N := 14) hx hb hts inf_X7_readsDoll_X7 tyX7 tyX7_ok nmX7 hown hK.1 hP hD hS 0 rfl rfl 10 (by decide) (hts _ (List.mem_of_getElem? (i := 7) rfl)) (fun _ h9 => h9) rfl (by decide +kernel) rfl rfl (Nat.le_of_ble_eq_true rfl) dX7_readsDoll_101 (fun H locs hP hD hS => ?_)
        have hP : va_P D vwCl [(m0, .inr (7, [.ref m1, .ref m2, .ref m3, .int (nI yl), .ref m4, .int (nI ik), .ref m5, .ref m6, .int (nI tl), .int (nI ((sp + 1) + b2n (tkO tm tl (sp + 1) 39))), .int (nI (rd + 1)), .ref m7, .ref m8, .ref m9])), (m5, .inl (cA, 32, .inl (nF (updN (updN w0 rd (2 * ((tm sp) - 48))) rd ((2 * (tm sp - 48)) + 0)))))] H := hP
        have hD : va_D A [(m0, .inr (7, [.ref m1, .ref m2, .ref m3, .int (nI yl), .ref m4, .int (nI ik), .ref m5, .ref m6, .int (nI tl), .int (nI ((sp + 1) + b2n (tkO tm tl (sp + 1) 39))), .int (nI (rd + 1)), .ref m7, .ref m8, .ref m9])), (m5, .inl (cA, 32, .inl (nF (updN (updN w0 rd (2 * ((tm sp) - 48))) rd ((2 * (tm sp - 48)) + 0)))))] := hD
        refine lv_iconst (v := nI 1) hx hb dX7_readsDoll_104 (by decide) ?_
        refine tope (y := bI (rdO tm tl sp)) (bI_t hr_) ?_
        exact RET _ _ _ _ _ ((sp + 1) + b2n (tkO tm tl (sp + 1) 39), rd + 1, updN (updN w0 rd (2 * ((tm sp) - 48))) rd ((2 * (tm sp - 48)) + 0)) dX7_readsDoll_105 (nbI _) ⟨rfl, ⟨fun h_ => absurd (hr_.symm.trans h_) (by decide), fun _ => ⟨rfl, rfl, by show updN _ _ _ _ = _; rw [updN_s, c_84]; rfl, fun j hj => by show updN _ _ _ _ = _; rw [updN_n hj, updN_n hj]⟩⟩⟩ hP hS
      · refine lv_iconst (v := nI 1) hx hb dX7_readsDoll_87 (by decide) ?_
        refine lv_goto (tgt := 92) hx hb dX7_readsDoll_88 (by decide) ?_
        refine nv_iadd hx hb dX7_readsDoll_92 ?_
        refine nv_iast (a := (updN w0 rd (2 * ((tm sp) - 48)))) (v := ((2 * (tm sp - 48)) + 1)) hx hb hK hP hD hS 1 rfl (by omega) (by decide) dX7_readsDoll_93 (fun H locs hP hD hS => ?_)
        have hP : va_P D vwCl [(m0, .inr (7, [.ref m1, .ref m2, .ref m3, .int (nI yl), .ref m4, .int (nI ik), .ref m5, .ref m6, .int (nI tl), .int (nI ((sp + 1) + b2n (tkO tm tl (sp + 1) 39))), .int (nI rd), .ref m7, .ref m8, .ref m9])), (m5, .inl (cA, 32, .inl (nF (updN (updN w0 rd (2 * ((tm sp) - 48))) rd ((2 * (tm sp - 48)) + 1)))))] H := hP
        have hD : va_D A [(m0, .inr (7, [.ref m1, .ref m2, .ref m3, .int (nI yl), .ref m4, .int (nI ik), .ref m5, .ref m6, .int (nI tl), .int (nI ((sp + 1) + b2n (tkO tm tl (sp + 1) 39))), .int (nI rd), .ref m7, .ref m8, .ref m9])), (m5, .inl (cA, 32, .inl (nF (updN (updN w0 rd (2 * ((tm sp) - 48))) rd ((2 * (tm sp - 48)) + 1)))))] := hD
        refine lv_aload_n hx hb dX7_readsDoll_94 rfl (lv_at hl 0 rfl) ?_
        refine lv_dup hx hb dX7_readsDoll_95 rfl ?_
        refine va_get (D := D) (cl := vwCl) (ci := 7) (v := .int (nI rd)) (C := RX7) (T := TX7) (N := 14) hx hb hts inf_X7_readsDoll_X7 hown hK.1 hP 0 rfl rfl 10 (by decide) (hts _ (List.mem_of_getElem? (i := 7) rfl)) (fun _ h9 => h9) rfl dX7_readsDoll_96 ?_
        refine lv_iconst (v := nI 1) hx hb dX7_readsDoll_99 (by decide) ?_
        refine nv_iadd hx hb dX7_readsDoll_100 ?_
        refine va_put (D := D) (ci := 7) (v := .int (nI (rd + 1))) (ty := .int) (C := RX7) (T := TX7) (N := 14) hx hb hts inf_X7_readsDoll_X7 tyX7 tyX7_ok nmX7 hown hK.1 hP hD hS 0 rfl rfl 10 (by decide) (hts _ (List.mem_of_getElem? (i := 7) rfl)) (fun _ h9 => h9) rfl (by decide +kernel) rfl rfl (Nat.le_of_ble_eq_true rfl) dX7_readsDoll_101 (fun H locs hP hD hS => ?_)
        have hP : va_P D vwCl [(m0, .inr (7, [.ref m1, .ref m2, .ref m3, .int (nI yl), .ref m4, .int (nI ik), .ref m5, .ref m6, .int (nI tl), .int (nI ((sp + 1) + b2n (tkO tm tl (sp + 1) 39))), .int (nI (rd + 1)), .ref m7, .ref m8, .ref m9])), (m5, .inl (cA, 32, .inl (nF (updN (updN w0 rd (2 * ((tm sp) - 48))) rd ((2 * (tm sp - 48)) + 1)))))] H := hP
        have hD : va_D A [(m0, .inr (7, [.ref m1, .ref m2, .ref m3, .int (nI yl), .ref m4, .int (nI ik), .ref m5, .ref m6, .int (nI tl), .int (nI ((sp + 1) + b2n (tkO tm tl (sp + 1) 39))), .int (nI (rd + 1)), .ref m7, .ref m8, .ref m9])), (m5, .inl (cA, 32, .inl (nF (updN (updN w0 rd (2 * ((tm sp) - 48))) rd ((2 * (tm sp - 48)) + 1)))))] := hD
        refine lv_iconst (v := nI 1) hx hb dX7_readsDoll_104 (by decide) ?_
        refine tope (y := bI (rdO tm tl sp)) (bI_t hr_) ?_
        exact RET _ _ _ _ _ ((sp + 1) + b2n (tkO tm tl (sp + 1) 39), rd + 1, updN (updN w0 rd (2 * ((tm sp) - 48))) rd ((2 * (tm sp - 48)) + 1)) dX7_readsDoll_105 (nbI _) ⟨rfl, ⟨fun h_ => absurd (hr_.symm.trans h_) (by decide), fun _ => ⟨rfl, rfl, by show updN _ _ _ _ = _; rw [updN_s, c_84]; rfl, fun j hj => by show updN _ _ _ _ = _; rw [updN_n hj, updN_n hj]⟩⟩⟩ hP hS
    · have hr_ : rdO tm tl sp = false := by simp [rdO, c_30]
      refine lv_iconst (v := nI 0) hx hb dX7_readsDoll_33 (by decide) ?_
      refine tope (y := bI (rdO tm tl sp)) (bI_f hr_) ?_
      exact RET _ _ _ _ _ (sp, rd, w0) dX7_readsDoll_34 (nbI _) ⟨rfl, ⟨fun _ => ⟨rfl, rfl, rfl⟩, fun h_ => absurd (hr_.symm.trans h_) (by decide)⟩⟩ hP hS
abbrev rm_X7_fault : Room := { frames := 2, cells := 0, slots := 0, locals := 45 }
theorem ydv_X7_fault : yX7_fault.cls = RX7 ∧ yX7_fault.cls ≠ "java/lang/invoke/MethodHandle" ∧ yX7_fault.cls ≠ "java/lang/invoke/VarHandle" ∧ (parseMethodDescriptor yX7_fault.desc).map (fun d => d.parameters.length) = some 0 := by decide +kernel
theorem inf_X7_fault_X7 : ∀ w ∈ wsX70, w ∈ wsX7_fault := fun w h => List.mem_cons_of_mem _ (List.mem_append_right _ (h))
set_option maxHeartbeats 4000000 in
set_option maxRecDepth 100000 in
theorem c_X7_fault (l : Launch) (D : va_G) (cA : ClassId) (m0 m1 m2 m3 m4 m5 m6 m7 m8 m9 yl ik tl sp rd : Nat) (tm w0 : Nat → Nat) (htl : tl ≤ 80) (htm : ∀ j, j < tl → tm j < 2 ^ 31) : MI l D cA yX7_fault wsX7_fault rm_X7_fault [.ref m0] [(m6, .inl (cA, 80, .inl (nF tm)))] [(m0, .inr (7, [.ref m1, .ref m2, .ref m3, .int (nI yl), .ref m4, .int (nI ik), .ref m5, .ref m6, .int (nI tl), .int (nI sp), .int (nI rd), .ref m7, .ref m8, .ref m9])), (m5, .inl (cA, 32, .inl (nF w0)))] (S := (Nat) × (Nat) × (Nat → Nat)) (fun rr_ (uu_ : (Nat) × (Nat) × (Nat → Nat)) => rr_ = fltM tl (flt tm tl 0 0 true false) ∧ (flt tm tl 0 0 true false = tl + 1 → ∀ b : Nat → Nat, uu_.2.1 = (spl tm tl 0 0 b).1 ∧ ∀ j, j < uu_.2.1 → uu_.2.2 j = (spl tm tl 0 0 b).2 j)) (fun (uu_ : (Nat) × (Nat) × (Nat → Nat)) => [(m0, .inr (7, [.ref m1, .ref m2, .ref m3, .int (nI yl), .ref m4, .int (nI ik), .ref m5, .ref m6, .int (nI tl), .int (nI uu_.1), .int (nI uu_.2.1), .ref m7, .ref m8, .ref m9])), (m5, .inl (cA, 32, .inl (nF uu_.2.2)))]) := by
  refine ofWi (cc := cX7_fault) (maxL := 2) (rt := .int) (by decide) rfl (Nat.le_of_ble_eq_true rfl) ?_
  intro p e s m args below meth c Q A ls F hK hR hP hD hA hS hl RET
  obtain ⟨hx, hb, hml, hown, hts⟩ := id F
  have hl : lv_has ls 2 [(0, .ref m0)] := hl
  refine lv_aload_n hx hb dX7_fault_0 rfl (lv_at hl 0 rfl) ?_
  refine lv_iconst (v := nI 0) hx hb dX7_fault_1 (by decide) ?_
  refine va_put (D := D) (ci := 7) (v := .int (nI 0)) (ty := .int) (C := RX7) (T := TX7) (N := 14) hx hb hts inf_X7_fault_X7 tyX7 tyX7_ok nmX7 hown hK.1 hP hD hS 0 rfl rfl 9 (by decide) (hts _ (List.mem_of_getElem? (i := 1) rfl)) (fun _ h9 => h9) rfl (by decide +kernel) rfl rfl (Nat.le_of_ble_eq_true rfl) dX7_fault_2 (fun H locs hP hD hS => ?_)
  have hP : va_P D vwCl [(m0, .inr (7, [.ref m1, .ref m2, .ref m3, .int (nI yl), .ref m4, .int (nI ik), .ref m5, .ref m6, .int (nI tl), .int (nI 0), .int (nI rd), .ref m7, .ref m8, .ref m9])), (m5, .inl (cA, 32, .inl (nF w0)))] H := hP
  have hD : va_D A [(m0, .inr (7, [.ref m1, .ref m2, .ref m3, .int (nI yl), .ref m4, .int (nI ik), .ref m5, .ref m6, .int (nI tl), .int (nI 0), .int (nI rd), .ref m7, .ref m8, .ref m9])), (m5, .inl (cA, 32, .inl (nF w0)))] := hD
  refine lv_aload_n hx hb dX7_fault_5 rfl (lv_at hl 0 rfl) ?_
  refine lv_iconst (v := nI 0) hx hb dX7_fault_6 (by decide) ?_
  refine va_put (D := D) (ci := 7) (v := .int (nI 0)) (ty := .int) (C := RX7) (T := TX7) (N := 14) hx hb hts inf_X7_fault_X7 tyX7 tyX7_ok nmX7 hown hK.1 hP hD hS 0 rfl rfl 10 (by decide) (hts _ (List.mem_of_getElem? (i := 2) rfl)) (fun _ h9 => h9) rfl (by decide +kernel) rfl rfl (Nat.le_of_ble_eq_true rfl) dX7_fault_7 (fun H locs hP hD hS => ?_)
  have hP : va_P D vwCl [(m0, .inr (7, [.ref m1, .ref m2, .ref m3, .int (nI yl), .ref m4, .int (nI ik), .ref m5, .ref m6, .int (nI tl), .int (nI 0), .int (nI 0), .ref m7, .ref m8, .ref m9])), (m5, .inl (cA, 32, .inl (nF w0)))] H := hP
  have hD : va_D A [(m0, .inr (7, [.ref m1, .ref m2, .ref m3, .int (nI yl), .ref m4, .int (nI ik), .ref m5, .ref m6, .int (nI tl), .int (nI 0), .int (nI 0), .ref m7, .ref m8, .ref m9])), (m5, .inl (cA, 32, .inl (nF w0)))] := hD
  refine lv_iconst (v := nI 1) hx hb dX7_fault_10 (by decide) ?_
  refine lv_istore_n (lv' := [(1, .int (nI 1)), (0, .ref m0)]) hx hb dX7_fault_11 rfl hl (by decide) rfl (fun ls hl => ?_)
  have LP_12 : ∀ (k_12 : Nat) (v : Bool) (s_ : Nat) (d_ : Nat) (w3 : Nat → Nat) (H : Heap) (locs : List Loc) (ls : Array Slot), tl - s_ = k_12 → (s_ ≤ tl) → (v = true → d_ < 32 ∧ flt tm (tl - s_) s_ d_ true false = flt tm tl 0 0 true false) → (v = false → (1 ≤ d_ ∧ d_ ≤ 32) ∧ flt tm (tl - s_) s_ d_ false false = flt tm tl 0 0 true false ∧ (s_ < tl → ¬ (tm s_ = 44 ∧ d_ < 32))) → (SplR tm tl s_ d_ w3) → va_P D vwCl [(m0, .inr (7, [.ref m1, .ref m2, .ref m3, .int (nI yl), .ref m4, .int (nI ik), .ref m5, .ref m6, .int (nI tl), .int (nI s_), .int (nI d_), .ref m7, .ref m8, .ref m9])), (m5, .inl (cA, 32, .inl (nF w3)))] H → va_D A [(m0, .inr (7, [.ref m1, .ref m2, .ref m3, .int (nI yl), .ref m4, .int (nI ik), .ref m5, .ref m6, .int (nI tl), .int (nI s_), .int (nI d_), .ref m7, .ref m8, .ref m9])), (m5, .inl (cA, 32, .inl (nF w3)))] → va_S A s.heap H locs → lv_has ls 2 [(0, .ref m0), (1, .int (bI v))] → W p l e rm_X7_fault s m args below meth c H locs 0 0 Q (F0 m 12 ls []) := by
    refine sind (fun k_12 ih_12 => ?_)
    intro v s_ d_ w3 H locs ls hk_12 hs_ hv1_ hv2_ hS_ hP hD hS hl
    refine lv_iload_n hx hb dX7_fault_12 rfl (lv_at hl 1 rfl) ?_
    refine bv_if_eq (tgt := 55) hx hb dX7_fault_13 (by decide) (fun c_13 => ?_) (fun c_13 => ?_)
    · have hv_ := hv2_ c_13
      have hE_ := pars_end hs_ hv_.2.1 hv_.2.2
      refine lv_aload_n hx hb dX7_fault_55 rfl (lv_at hl 0 rfl) ?_
      refine va_get (D := D) (cl := vwCl) (ci := 7) (v := .int (nI s_)) (C := RX7) (T := TX7) (N := 14) hx hb hts inf_X7_fault_X7 hown hK.1 hP 0 rfl rfl 9 (by decide) (hts _ (List.mem_of_getElem? (i := 1) rfl)) (fun _ h9 => h9) rfl dX7_fault_56 ?_
      refine lv_aload_n hx hb dX7_fault_59 rfl (lv_at hl 0 rfl) ?_
      refine va_get (D := D) (cl := vwCl) (ci := 7) (v := .int (nI tl)) (C := RX7) (T := TX7) (N := 14) hx hb hts inf_X7_fault_X7 hown hK.1 hP 0 rfl rfl 8 (by decide) (hts _ (List.mem_of_getElem? (i := 3) rfl)) (fun _ h9 => h9) rfl dX7_fault_60 ?_
      refine nv_icmp_ne (tgt := 71) hx hb dX7_fault_63 (by decide) (by omega) (by omega) (fun c_63 => ?_) (fun c_63 => ?_)
      · refine lv_aload_n hx hb dX7_fault_71 rfl (lv_at hl 0 rfl) ?_
        refine va_get (D := D) (cl := vwCl) (ci := 7) (v := .int (nI s_)) (C := RX7) (T := TX7) (N := 14) hx hb hts inf_X7_fault_X7 hown hK.1 hP 0 rfl rfl 9 (by decide) (hts _ (List.mem_of_getElem? (i := 1) rfl)) (fun _ h9 => h9) rfl dX7_fault_72 ?_
        refine tope (y := fltM tl (flt tm tl 0 0 true false)) (by rw [hE_.2 c_63]; exact (fltM_n hs_).symm) ?_
        exact RET _ _ _ _ _ (s_, d_, w3) dX7_fault_75 rfl ⟨rfl, fun h_ => absurd ((hE_.2 c_63).symm.trans h_) (by omega)⟩ hP hS
      · refine lv_bipush (v := -5) hx hb dX7_fault_66 (by decide) ?_
        refine lv_goto (tgt := 75) hx hb dX7_fault_68 (by decide) ?_
        refine tope (y := fltM tl (flt tm tl 0 0 true false)) (by rw [hE_.1 c_63]; exact (fltM_y rfl).symm) ?_
        exact RET _ _ _ _ _ (s_, d_, w3) dX7_fault_75 rfl ⟨rfl, fun _ b => SplR.fin (by have h9_ := hS_; rw [c_63] at h9_; exact h9_) b⟩ hP hS
    · have hv_ := hv1_ c_13
      refine lv_aload_n hx hb dX7_fault_16 rfl (lv_at hl 0 rfl) ?_
      refine call_i (q := (RX7, TX7, 14)) (As := []) (rest := []) F (c_X7_readsDoll l D cA m0 m1 m2 m3 m4 m5 m6 m7 m8 m9 yl ik tl s_ d_ tm w3 (by omega) (htm) (by omega) (by omega)) (cwV 0 hts gX7_fault_X7_readsDoll rfl rfl rfl ydv_X7_readsDoll ⟨Nat.le_of_ble_eq_true rfl, Nat.le_of_ble_eq_true rfl⟩) hK hR hP hD hA hS [0, 1, 2] [0, 1] rfl rfl rfl 1 7 rfl rfl (fun _ => rfl) rfl hl.1 rfl (Nat.le_of_ble_eq_true rfl) dX7_fault_17 ⟨Nat.zero_le _, Nat.zero_le _⟩ (fun r_17 u_17 H locs hw hP hD hS => ?_)
      obtain ⟨sp2_17, rd2_17, w2_17⟩ := u_17
      have hP : va_P D vwCl [(m0, .inr (7, [.ref m1, .ref m2, .ref m3, .int (nI yl), .ref m4, .int (nI ik), .ref m5, .ref m6, .int (nI tl), .int (nI sp2_17), .int (nI rd2_17), .ref m7, .ref m8, .ref m9])), (m5, .inl (cA, 32, .inl (nF w2_17)))] H := hP
      have hD : va_D A [(m0, .inr (7, [.ref m1, .ref m2, .ref m3, .int (nI yl), .ref m4, .int (nI ik), .ref m5, .ref m6, .int (nI tl), .int (nI sp2_17), .int (nI rd2_17), .ref m7, .ref m8, .ref m9])), (m5, .inl (cA, 32, .inl (nF w2_17)))] := hD
      obtain ⟨hr_17, hw_17⟩ : r_17 = bI (rdO tm tl s_) ∧ ((rdO tm tl s_ = false → sp2_17 = s_ ∧ rd2_17 = d_ ∧ w2_17 = w3) ∧ (rdO tm tl s_ = true → sp2_17 = s_ + 1 + b2n (tkO tm tl (s_ + 1) 39) ∧ rd2_17 = d_ + 1 ∧ w2_17 d_ = 2 * (tm s_ - 48) + b2n (tkO tm tl (s_ + 1) 39) ∧ ∀ j, j ≠ d_ → w2_17 j = w3 j)) := hw
      subst hr_17
      refine bv_if_ne (tgt := 28) hx hb dX7_fault_20 (by decide) (fun c_20 => ?_) (fun c_20 => ?_)
      · obtain ⟨rfl, rfl, hw1_, hw2_⟩ := hw_17.2 c_20
        have hq1_ := pars_doll hv_.2 c_20
        have hp_ := b2n_le (tkO tm tl (s_ + 1) 39)
        have hD1_ := hS_.doll c_20 hw1_ hw2_
        refine lv_aload_n hx hb dX7_fault_28 rfl (lv_at hl 0 rfl) ?_
        refine va_get (D := D) (cl := vwCl) (ci := 7) (v := .int (nI (d_ + 1))) (C := RX7) (T := TX7) (N := 14) hx hb hts inf_X7_fault_X7 hown hK.1 hP 0 rfl rfl 10 (by decide) (hts _ (List.mem_of_getElem? (i := 2) rfl)) (fun _ h9 => h9) rfl dX7_fault_29 ?_
        refine lv_bipush (v := nI 32) hx hb dX7_fault_32 (by decide) ?_
        refine nv_icmp_ge (tgt := 50) hx hb dX7_fault_34 (by decide) (by omega) (by decide) (fun c_34 => ?_) (fun c_34 => ?_)
        · have hq3_ : (1 ≤ d_ + 1 ∧ d_ + 1 ≤ 32) ∧ flt tm (tl - (s_ + 1 + b2n (tkO tm tl (s_ + 1) 39))) (s_ + 1 + b2n (tkO tm tl (s_ + 1) 39)) (d_ + 1) false false = flt tm tl 0 0 true false ∧ (s_ + 1 + b2n (tkO tm tl (s_ + 1) 39) < tl → ¬ (tm (s_ + 1 + b2n (tkO tm tl (s_ + 1) 39)) = 44 ∧ d_ + 1 < 32)) := ⟨⟨by omega, by omega⟩, hq1_.2, fun _ h2_ => by omega⟩
          have hq4_ : SplR tm tl (s_ + 1 + b2n (tkO tm tl (s_ + 1) 39)) (d_ + 1) w2_17 := hD1_
          refine lv_iconst (v := nI 0) hx hb dX7_fault_50 (by decide) ?_
          refine lv_istore_n (lv' := [(1, .int (nI 0)), (0, .ref m0)]) hx hb dX7_fault_51 rfl hl (by decide) rfl (fun ls hl => ?_)
          refine lv_goto (tgt := 12) hx hb dX7_fault_52 (by decide) ?_
          exact ih_12 _ (by omega) false (s_ + 1 + b2n (tkO tm tl (s_ + 1) 39)) (d_ + 1) w2_17 _ _ _ rfl (hq1_.1) (fun h_ => absurd h_ (by decide)) (fun _ => hq3_) (hq4_) hP hD hS (lv_sub hl [1, 0] rfl)
        · refine lv_aload_n hx hb dX7_fault_37 rfl (lv_at hl 0 rfl) ?_
          refine lv_bipush (v := nI 44) hx hb dX7_fault_38 (by decide) ?_
          refine call_i (q := (RX7, TX7, 14)) (As := [.int (nI 44)]) (rest := []) F (c_X7_takesOne l D cA m0 m1 m2 m3 m4 m5 m6 m7 m8 m9 yl ik tl (s_ + 1 + b2n (tkO tm tl (s_ + 1) 39)) (d_ + 1) tm 44 (htl) (htm) (by omega) (by decide)) (cwV 1 hts gX7_fault_X7_takesOne rfl rfl rfl ydv_X7_takesOne ⟨Nat.le_of_ble_eq_true rfl, Nat.le_of_ble_eq_true rfl⟩) hK hR hP hD hA hS [0, 1] [0] rfl rfl rfl 1 7 rfl rfl (fun _ => rfl) rfl hl.1 rfl (Nat.le_of_ble_eq_true rfl) dX7_fault_40 ⟨Nat.zero_le _, Nat.zero_le _⟩ (fun r_40 u_40 H locs hw hP hD hS => ?_)
          have hP : va_P D vwCl [(m0, .inr (7, [.ref m1, .ref m2, .ref m3, .int (nI yl), .ref m4, .int (nI ik), .ref m5, .ref m6, .int (nI tl), .int (nI ((s_ + 1 + b2n (tkO tm tl (s_ + 1) 39)) + b2n (tkO tm tl (s_ + 1 + b2n (tkO tm tl (s_ + 1) 39)) 44))), .int (nI (d_ + 1)), .ref m7, .ref m8, .ref m9])), (m5, .inl (cA, 32, .inl (nF w2_17)))] H := hP
          have hD : va_D A [(m0, .inr (7, [.ref m1, .ref m2, .ref m3, .int (nI yl), .ref m4, .int (nI ik), .ref m5, .ref m6, .int (nI tl), .int (nI ((s_ + 1 + b2n (tkO tm tl (s_ + 1) 39)) + b2n (tkO tm tl (s_ + 1 + b2n (tkO tm tl (s_ + 1) 39)) 44))), .int (nI (d_ + 1)), .ref m7, .ref m8, .ref m9])), (m5, .inl (cA, 32, .inl (nF w2_17)))] := hD
          obtain rfl : r_40 = bI (tkO tm tl (s_ + 1 + b2n (tkO tm tl (s_ + 1) 39)) 44) := hw
          refine bv_if_eq (tgt := 50) hx hb dX7_fault_43 (by decide) (fun c_43 => ?_) (fun c_43 => ?_)
          · have hq_c : b2n (tkO tm tl (s_ + 1 + b2n (tkO tm tl (s_ + 1) 39)) 44) = 0 := by rw [c_43]; rfl
            have hq3_ : (1 ≤ d_ + 1 ∧ d_ + 1 ≤ 32) ∧ flt tm (tl - ((s_ + 1 + b2n (tkO tm tl (s_ + 1) 39)) + b2n (tkO tm tl (s_ + 1 + b2n (tkO tm tl (s_ + 1) 39)) 44))) ((s_ + 1 + b2n (tkO tm tl (s_ + 1) 39)) + b2n (tkO tm tl (s_ + 1 + b2n (tkO tm tl (s_ + 1) 39)) 44)) (d_ + 1) false false = flt tm tl 0 0 true false ∧ ((s_ + 1 + b2n (tkO tm tl (s_ + 1) 39)) + b2n (tkO tm tl (s_ + 1 + b2n (tkO tm tl (s_ + 1) 39)) 44) < tl → ¬ (tm ((s_ + 1 + b2n (tkO tm tl (s_ + 1) 39)) + b2n (tkO tm tl (s_ + 1 + b2n (tkO tm tl (s_ + 1) 39)) 44)) = 44 ∧ d_ + 1 < 32)) := ⟨⟨by omega, by omega⟩, by rw [hq_c]; simpa using hq1_.2, by rw [hq_c]; exact fun h1_ h2_ => tkO_no c_43 h1_ h2_.1⟩
            have hq4_ : SplR tm tl ((s_ + 1 + b2n (tkO tm tl (s_ + 1) 39)) + b2n (tkO tm tl (s_ + 1 + b2n (tkO tm tl (s_ + 1) 39)) 44)) (d_ + 1) w2_17 := by rw [hq_c]; simpa using hD1_
            refine lv_iconst (v := nI 0) hx hb dX7_fault_50 (by decide) ?_
            refine lv_istore_n (lv' := [(1, .int (nI 0)), (0, .ref m0)]) hx hb dX7_fault_51 rfl hl (by decide) rfl (fun ls hl => ?_)
            refine lv_goto (tgt := 12) hx hb dX7_fault_52 (by decide) ?_
            exact ih_12 _ (by omega) false ((s_ + 1 + b2n (tkO tm tl (s_ + 1) 39)) + b2n (tkO tm tl (s_ + 1 + b2n (tkO tm tl (s_ + 1) 39)) 44)) (d_ + 1) w2_17 _ _ _ rfl (by rw [hq_c]; simpa [b2n] using hq1_.1) (fun h_ => absurd h_ (by decide)) (fun _ => hq3_) (hq4_) hP hD hS (lv_sub hl [1, 0] rfl)
          · have hq_t : b2n (tkO tm tl (s_ + 1 + b2n (tkO tm tl (s_ + 1) 39)) 44) = 1 := by rw [c_43]; rfl
            have hq2_ : (s_ + 1 + b2n (tkO tm tl (s_ + 1) 39)) + b2n (tkO tm tl (s_ + 1 + b2n (tkO tm tl (s_ + 1) 39)) 44) ≤ tl ∧ flt tm (tl - ((s_ + 1 + b2n (tkO tm tl (s_ + 1) 39)) + b2n (tkO tm tl (s_ + 1 + b2n (tkO tm tl (s_ + 1) 39)) 44))) ((s_ + 1 + b2n (tkO tm tl (s_ + 1) 39)) + b2n (tkO tm tl (s_ + 1 + b2n (tkO tm tl (s_ + 1) 39)) 44)) (d_ + 1) true false = flt tm tl 0 0 true false := by rw [hq_t]; exact pars_comma hq1_.2 (by omega) c_43
            have hq4_ : SplR tm tl ((s_ + 1 + b2n (tkO tm tl (s_ + 1) 39)) + b2n (tkO tm tl (s_ + 1 + b2n (tkO tm tl (s_ + 1) 39)) 44)) (d_ + 1) w2_17 := by rw [hq_t]; exact hD1_.comma c_43
            refine lv_iconst (v := nI 1) hx hb dX7_fault_46 (by decide) ?_
            refine lv_goto (tgt := 51) hx hb dX7_fault_47 (by decide) ?_
            refine lv_istore_n (lv' := [(1, .int (nI 1)), (0, .ref m0)]) hx hb dX7_fault_51 rfl hl (by decide) rfl (fun ls hl => ?_)
            refine lv_goto (tgt := 12) hx hb dX7_fault_52 (by decide) ?_
            exact ih_12 _ (by omega) true ((s_ + 1 + b2n (tkO tm tl (s_ + 1) 39)) + b2n (tkO tm tl (s_ + 1 + b2n (tkO tm tl (s_ + 1) 39)) 44)) (d_ + 1) w2_17 _ _ _ rfl (hq2_.1) (fun _ => ⟨by omega, hq2_.2⟩) (fun h_ => absurd h_ (by decide)) (hq4_) hP hD hS (lv_sub hl [1, 0] rfl)
      · have hF_ := pars_no hs_ hv_.2 c_20
        have hw_e := hw_17.1 c_20
        refine lv_aload_n hx hb dX7_fault_23 rfl (lv_at hl 0 rfl) ?_
        refine va_get (D := D) (cl := vwCl) (ci := 7) (v := .int (nI sp2_17)) (C := RX7) (T := TX7) (N := 14) hx hb hts inf_X7_fault_X7 hown hK.1 hP 0 rfl rfl 9 (by decide) (hts _ (List.mem_of_getElem? (i := 1) rfl)) (fun _ h9 => h9) rfl dX7_fault_24 ?_
        refine tope (y := fltM tl (flt tm tl 0 0 true false)) (by rw [hw_e.1, hF_, fltM_n hs_]) ?_
        exact RET _ _ _ _ _ (sp2_17, rd2_17, w2_17) dX7_fault_27 rfl ⟨rfl, fun h_ => absurd h_ (by omega)⟩ hP hS
  exact LP_12 _ true 0 0 w0 _ _ _ rfl (by omega) (fun _ => ⟨by decide, rfl⟩) (fun h_ => absurd h_ (by decide)) (SplR.init w0) hP hD hS (lv_sub hl [1, 0] rfl)
abbrev rm_X7_wrong : Room := { frames := 2, cells := 0, slots := 0, locals := 46 }
theorem ydv_X7_wrong : yX7_wrong.cls = RX7 ∧ yX7_wrong.cls ≠ "java/lang/invoke/MethodHandle" ∧ yX7_wrong.cls ≠ "java/lang/invoke/VarHandle" ∧ (parseMethodDescriptor yX7_wrong.desc).map (fun d => d.parameters.length) = some 0 := by decide +kernel
theorem inf_X7_wrong_X7 : ∀ w ∈ wsX70, w ∈ wsX7_wrong := fun w h => List.mem_cons_of_mem _ (List.mem_append_right _ (h))
set_option maxHeartbeats 4000000 in
set_option maxRecDepth 100000 in
theorem c_X7_wrong (l : Launch) (D : va_G) (cA : ClassId) (m0 m1 m2 m3 m4 m5 m6 m7 m8 m9 yl ik tl sp rd : Nat) (a M w : Nat → Nat) (hV : Vd a) (hM : Rl a M) (hrd : rd ≤ 32) (hw20 : ∀ j, j < rd → w j < 20) : RO l D cA yX7_wrong wsX7_wrong rm_X7_wrong [.ref m0] [(m0, .inr (7, [.ref m1, .ref m2, .ref m3, .int (nI yl), .ref m4, .int (nI ik), .ref m5, .ref m6, .int (nI tl), .int (nI sp), .int (nI rd), .ref m7, .ref m8, .ref m9])), (m1, .inl (cA, 286, .inl (nF M))), (m5, .inl (cA, 32, .inl (nF w)))] (wrI a w rd) := by
  refine ofWi (cc := cX7_wrong) (maxL := 3) (rt := .int) (by decide) rfl (Nat.le_of_ble_eq_true rfl) ?_
  intro p e s m args below meth c Q A ls F hK hR hP hD hA hS hl RET
  obtain ⟨hx, hb, hml, hown, hts⟩ := id F
  have hl : lv_has ls 3 [(0, .ref m0)] := hl
  refine lv_iconst (v := nI 0) hx hb dX7_wrong_0 (by decide) ?_
  refine lv_istore_n (lv' := [(1, .int (nI 0)), (0, .ref m0)]) hx hb dX7_wrong_1 rfl hl (by decide) rfl (fun ls hl => ?_)
  refine lv_iconst (v := nI 0) hx hb dX7_wrong_2 (by decide) ?_
  refine lv_istore_n (lv' := [(2, .int (nI 0)), (1, .int (nI 0)), (0, .ref m0)]) hx hb dX7_wrong_3 rfl hl (by decide) rfl (fun ls hl => ?_)
  have LP_4 : ∀ (k_4 : Nat) (i : Nat) (v : Bool) (H : Heap) (locs : List Loc) (ls : Array Slot), rd - i = k_4 → (i ≤ rd) → (∀ j, j < i → decide (w j / 2 < a 1) = true) → (v = anyB (fun j => cl a (w (0 + (j + 1) - 1)) (w (0 + (j + 1)))) (i - 1)) → va_P D vwCl [] H → va_D A [] → va_S A s.heap H locs → lv_has ls 3 [(0, .ref m0), (1, .int (bI v)), (2, .int (nI i))] → W p l e rm_X7_wrong s m args below meth c H locs 0 0 Q (F0 m 4 ls []) := by
    refine sind (fun k_4 ih_4 => ?_)
    intro i v H locs ls hk_4 hi hk2_ hv_ hP hD hS hl
    refine lv_iload_n hx hb dX7_wrong_4 rfl (lv_at hl 2 rfl) ?_
    refine lv_aload_n hx hb dX7_wrong_5 rfl (lv_at hl 0 rfl) ?_
    refine va_get (D := D) (cl := vwCl) (ci := 7) (v := .int (nI rd)) (C := RX7) (T := TX7) (N := 14) hx hb hts inf_X7_wrong_X7 hown hK.1 (hR.at hS) 0 rfl rfl 10 (by decide) (hts _ (List.mem_of_getElem? (i := 1) rfl)) (fun _ h9 => h9) rfl dX7_wrong_6 ?_
    refine nv_icmp_ge (tgt := 70) hx hb dX7_wrong_9 (by decide) (by omega) (by omega) (fun c_9 => ?_) (fun c_9 => ?_)
    · refine lv_iload_n hx hb dX7_wrong_70 rfl (lv_at hl 1 rfl) ?_
      refine bv_if_eq (tgt := 79) hx hb dX7_wrong_71 (by decide) (fun c_71 => ?_) (fun c_71 => ?_)
      · refine lv_aload_n hx hb dX7_wrong_79 rfl (lv_at hl 0 rfl) ?_
        refine call_r (q := (RX7, TX7, 14)) (As := []) (rest := []) F (c_X7_freeNumber l D cA m0 m1 ([.ref m2, .ref m3, .int (nI yl), .ref m4, .int (nI ik), .ref m5, .ref m6, .int (nI tl), .int (nI sp), .int (nI rd), .ref m7, .ref m8, .ref m9]) a M (hV) (hM)) (cwV 0 hts gX7_wrong_X7_freeNumber rfl rfl rfl ydv_X7_freeNumber ⟨Nat.le_of_ble_eq_true rfl, Nat.le_of_ble_eq_true rfl⟩) hK hR hP hD hA hS [0, 1] rfl rfl 0 7 rfl rfl rfl hl.1 rfl (Nat.le_of_ble_eq_true rfl) dX7_wrong_80 ⟨Nat.zero_le _, Nat.zero_le _⟩ (fun H locs hP hS => ?_)
        rcases fr_c a with hf8 | hf8
        · refine tope (y := -5) (frM_8 hf8) ?_
          refine lv_bipush (v := -5) hx hb dX7_wrong_83 (by decide) ?_
          refine lv_icmp_ne (tgt := 93) hx hb dX7_wrong_85 (by decide) (fun c_85 => absurd c_85 ((fun h => h rfl))) (fun c_85 => ?_)
          refine lv_bipush (v := -3) hx hb dX7_wrong_88 (by decide) ?_
          refine lv_goto (tgt := 94) hx hb dX7_wrong_90 (by decide) ?_
          refine tope (y := wrI a w rd) (by rw [wrI, if_neg (by rw [show hasKs a w rd = true from allB_t (fun j hj => hk2_ j (by omega))]; decide), if_neg (show ¬ clIn a w 0 rd = true from by rw [show clIn a w 0 rd = v from by rw [hv_, show i = rd by omega]; rfl, c_71]; decide), if_pos hf8]) ?_
          exact RET _ _ _ _ _ () dX7_wrong_94 rfl rfl hP hS
        · refine tope (y := nI (fr a)) (frM_n hf8) ?_
          refine lv_bipush (v := -5) hx hb dX7_wrong_83 (by decide) ?_
          refine lv_icmp_ne (tgt := 93) hx hb dX7_wrong_85 (by decide) (fun c_85 => ?_) (fun c_85 => absurd c_85 ((nI_m5 (by omega))))
          refine lv_iconst (v := nI 0) hx hb dX7_wrong_93 (by decide) ?_
          refine tope (y := wrI a w rd) (by rw [wrI, if_neg (by rw [show hasKs a w rd = true from allB_t (fun j hj => hk2_ j (by omega))]; decide), if_neg (show ¬ clIn a w 0 rd = true from by rw [show clIn a w 0 rd = v from by rw [hv_, show i = rd by omega]; rfl, c_71]; decide), if_neg (by omega)]) ?_
          exact RET _ _ _ _ _ () dX7_wrong_94 rfl rfl hP hS
      · refine lv_bipush (v := -4) hx hb dX7_wrong_74 (by decide) ?_
        refine lv_goto (tgt := 94) hx hb dX7_wrong_76 (by decide) ?_
        refine tope (y := wrI a w rd) (by rw [wrI, if_neg (by rw [show hasKs a w rd = true from allB_t (fun j hj => hk2_ j (by omega))]; decide), if_pos (show clIn a w 0 rd = true from by rw [← c_71, hv_, show i = rd by omega]; rfl)]) ?_
        exact RET _ _ _ _ _ () dX7_wrong_94 rfl rfl hP hS
    · have hk_ := hV.k
      have h20_ := hw20 i c_9
      refine lv_aload_n hx hb dX7_wrong_12 rfl (lv_at hl 0 rfl) ?_
      refine lv_aload_n hx hb dX7_wrong_13 rfl (lv_at hl 0 rfl) ?_
      refine va_get (D := D) (cl := vwCl) (ci := 7) (v := .ref m5) (C := RX7) (T := TX7) (N := 14) hx hb hts inf_X7_wrong_X7 hown hK.1 (hR.at hS) 0 rfl rfl 6 (by decide) (hts _ (List.mem_of_getElem? (i := 2) rfl)) (fun _ h9 => h9) rfl dX7_wrong_14 ?_
      refine lv_iload_n hx hb dX7_wrong_17 rfl (lv_at hl 2 rfl) ?_
      refine nv_iald (a := w) hx hb hK (hR.at hS) 2 rfl (by omega) (by decide) dX7_wrong_18 ?_
      refine lv_iconst (v := nI 2) hx hb dX7_wrong_19 (by decide) ?_
      refine nv_idiv hx hb dX7_wrong_20 (by omega) (by decide) (by decide) ?_
      refine call_r (q := (RX7, TX7, 14)) (As := [.int (nI ((w i) / 2))]) (rest := []) F (c_X7_isKind l D cA m0 m1 ([.ref m2, .ref m3, .int (nI yl), .ref m4, .int (nI ik), .ref m5, .ref m6, .int (nI tl), .int (nI sp), .int (nI rd), .ref m7, .ref m8, .ref m9]) a M (nI ((w i) / 2)) (hV) (hM)) (cwV 1 hts gX7_wrong_X7_isKind rfl rfl rfl ydv_X7_isKind ⟨Nat.le_of_ble_eq_true rfl, Nat.le_of_ble_eq_true rfl⟩) hK hR hP hD hA hS [0, 1] rfl rfl 0 7 rfl rfl rfl hl.1 rfl (Nat.le_of_ble_eq_true rfl) dX7_wrong_21 ⟨Nat.zero_le _, Nat.zero_le _⟩ (fun H locs hP hS => ?_)
      refine bv_if_ne (tgt := 29) hx hb dX7_wrong_24 (by decide) (fun c_24 => ?_) (fun c_24 => ?_)
      · refine lv_iload_n hx hb dX7_wrong_29 rfl (lv_at hl 1 rfl) ?_
        refine bv_if_ne (tgt := 58) hx hb dX7_wrong_30 (by decide) (fun c_30 => ?_) (fun c_30 => ?_)
        · refine lv_iconst (v := nI 1) hx hb dX7_wrong_58 (by decide) ?_
          refine lv_goto (tgt := 63) hx hb dX7_wrong_59 (by decide) ?_
          refine lv_istore_n (lv' := [(1, .int (nI 1)), (0, .ref m0), (2, .int (nI i))]) hx hb dX7_wrong_63 rfl hl (by decide) rfl (fun ls hl => ?_)
          refine lv_iinc (v := nI (i + 1)) (lv' := [(2, .int (nI (i + 1))), (1, .int (nI 1)), (0, .ref m0)]) hx hb dX7_wrong_64 hl (k := 2) rfl (nI_add _ _) (by decide) rfl (fun ls hl => ?_)
          refine lv_goto (tgt := 4) hx hb dX7_wrong_67 (by decide) ?_
          exact ih_4 _ (by omega) (i + 1) true _ _ _ rfl (by omega) (fun j hj => by by_cases e_ : j = i; (rw [e_]; exact ((isB_nI (by have := hw20 i c_9; omega)).symm.trans c_24)); exact hk2_ j (by omega)) (wr_step hv_ (by first | (simp only [c_30, Bool.true_or]; done) | (rw [c_30, decide_eq_true c_34, c_55]; rfl) | (rw [c_30, c_34]; rfl))) hP hD hS (lv_sub hl [2, 1, 0] rfl)
        · refine lv_iload_n hx hb dX7_wrong_33 rfl (lv_at hl 2 rfl) ?_
          refine nv_if_le (tgt := 62) hx hb dX7_wrong_34 (by decide) (by omega) (fun c_34 => ?_) (fun c_34 => ?_)
          · refine lv_iconst (v := nI 0) hx hb dX7_wrong_62 (by decide) ?_
            refine lv_istore_n (lv' := [(1, .int (nI 0)), (0, .ref m0), (2, .int (nI i))]) hx hb dX7_wrong_63 rfl hl (by decide) rfl (fun ls hl => ?_)
            refine lv_iinc (v := nI (i + 1)) (lv' := [(2, .int (nI (i + 1))), (1, .int (nI 0)), (0, .ref m0)]) hx hb dX7_wrong_64 hl (k := 2) rfl (nI_add _ _) (by decide) rfl (fun ls hl => ?_)
            refine lv_goto (tgt := 4) hx hb dX7_wrong_67 (by decide) ?_
            exact ih_4 _ (by omega) (i + 1) false _ _ _ rfl (by omega) (fun j hj => by by_cases e_ : j = i; (rw [e_]; exact ((isB_nI (by have := hw20 i c_9; omega)).symm.trans c_24)); exact hk2_ j (by omega)) (wr_step hv_ (by first | (simp only [c_30, Bool.true_or]; done) | (rw [c_30, decide_eq_true c_34, c_55]; rfl) | (rw [c_30, c_34]; rfl))) hP hD hS (lv_sub hl [2, 1, 0] rfl)
          · have h20b_ := hw20 (i - 1) (by omega)
            refine lv_aload_n hx hb dX7_wrong_37 rfl (lv_at hl 0 rfl) ?_
            refine lv_aload_n hx hb dX7_wrong_38 rfl (lv_at hl 0 rfl) ?_
            refine va_get (D := D) (cl := vwCl) (ci := 7) (v := .ref m5) (C := RX7) (T := TX7) (N := 14) hx hb hts inf_X7_wrong_X7 hown hK.1 (hR.at hS) 0 rfl rfl 6 (by decide) (hts _ (List.mem_of_getElem? (i := 2) rfl)) (fun _ h9 => h9) rfl dX7_wrong_39 ?_
            refine lv_iload_n hx hb dX7_wrong_42 rfl (lv_at hl 2 rfl) ?_
            refine lv_iconst (v := nI 1) hx hb dX7_wrong_43 (by decide) ?_
            refine nv_isub hx hb dX7_wrong_44 (by omega) ?_
            refine nv_iald (a := w) hx hb hK (hR.at hS) 2 rfl (by omega) (by decide) dX7_wrong_45 ?_
            refine lv_aload_n hx hb dX7_wrong_46 rfl (lv_at hl 0 rfl) ?_
            refine va_get (D := D) (cl := vwCl) (ci := 7) (v := .ref m5) (C := RX7) (T := TX7) (N := 14) hx hb hts inf_X7_wrong_X7 hown hK.1 (hR.at hS) 0 rfl rfl 6 (by decide) (hts _ (List.mem_of_getElem? (i := 2) rfl)) (fun _ h9 => h9) rfl dX7_wrong_47 ?_
            refine lv_iload_n hx hb dX7_wrong_50 rfl (lv_at hl 2 rfl) ?_
            refine nv_iald (a := w) hx hb hK (hR.at hS) 2 rfl (by omega) (by decide) dX7_wrong_51 ?_
            refine call_r (q := (RX7, TX7, 14)) (As := [.int (nI (w (i - 1))), .int (nI (w i))]) (rest := []) F (c_X7_clash l D cA m0 m1 ([.ref m2, .ref m3, .int (nI yl), .ref m4, .int (nI ik), .ref m5, .ref m6, .int (nI tl), .int (nI sp), .int (nI rd), .ref m7, .ref m8, .ref m9]) a M (w (i - 1)) (w i) (hV) (hM) (by omega) (by omega)) (cwV 2 hts gX7_wrong_X7_clash rfl rfl rfl ydv_X7_clash ⟨Nat.le_of_ble_eq_true rfl, Nat.le_of_ble_eq_true rfl⟩) hK hR hP hD hA hS [0, 1] rfl rfl 0 7 rfl rfl rfl hl.1 rfl (Nat.le_of_ble_eq_true rfl) dX7_wrong_52 ⟨Nat.zero_le _, Nat.zero_le _⟩ (fun H locs hP hS => ?_)
            refine bv_if_eq (tgt := 62) hx hb dX7_wrong_55 (by decide) (fun c_55 => ?_) (fun c_55 => ?_)
            · refine lv_iconst (v := nI 0) hx hb dX7_wrong_62 (by decide) ?_
              refine lv_istore_n (lv' := [(1, .int (nI 0)), (0, .ref m0), (2, .int (nI i))]) hx hb dX7_wrong_63 rfl hl (by decide) rfl (fun ls hl => ?_)
              refine lv_iinc (v := nI (i + 1)) (lv' := [(2, .int (nI (i + 1))), (1, .int (nI 0)), (0, .ref m0)]) hx hb dX7_wrong_64 hl (k := 2) rfl (nI_add _ _) (by decide) rfl (fun ls hl => ?_)
              refine lv_goto (tgt := 4) hx hb dX7_wrong_67 (by decide) ?_
              exact ih_4 _ (by omega) (i + 1) false _ _ _ rfl (by omega) (fun j hj => by by_cases e_ : j = i; (rw [e_]; exact ((isB_nI (by have := hw20 i c_9; omega)).symm.trans c_24)); exact hk2_ j (by omega)) (wr_step hv_ (by first | (simp only [c_30, Bool.true_or]; done) | (rw [c_30, decide_eq_true c_34, c_55]; rfl) | (rw [c_30, c_34]; rfl))) hP hD hS (lv_sub hl [2, 1, 0] rfl)
            · refine lv_iconst (v := nI 1) hx hb dX7_wrong_58 (by decide) ?_
              refine lv_goto (tgt := 63) hx hb dX7_wrong_59 (by decide) ?_
              refine lv_istore_n (lv' := [(1, .int (nI 1)), (0, .ref m0), (2, .int (nI i))]) hx hb dX7_wrong_63 rfl hl (by decide) rfl (fun ls hl => ?_)
              refine lv_iinc (v := nI (i + 1)) (lv' := [(2, .int (nI (i + 1))), (1, .int (nI 1)), (0, .ref m0)]) hx hb dX7_wrong_64 hl (k := 2) rfl (nI_add _ _) (by decide) rfl (fun ls hl => ?_)
              refine lv_goto (tgt := 4) hx hb dX7_wrong_67 (by decide) ?_
              exact ih_4 _ (by omega) (i + 1) true _ _ _ rfl (by omega) (fun j hj => by by_cases e_ : j = i; (rw [e_]; exact ((isB_nI (by have := hw20 i c_9; omega)).symm.trans c_24)); exact hk2_ j (by omega)) (wr_step hv_ (by first | (simp only [c_30, Bool.true_or]; done) | (rw [c_30, decide_eq_true c_34, c_55]; rfl) | (rw [c_30, c_34]; rfl))) hP hD hS (lv_sub hl [2, 1, 0] rfl)
      · refine lv_iconst (v := -1) hx hb dX7_wrong_27 (by decide) ?_
        refine tope (y := wrI a w rd) (by rw [wrI, if_pos (show hasKs a w rd = false from allB_f i c_9 ((isB_nI (by omega)).symm.trans c_24))]) ?_
        exact RET _ _ _ _ _ () dX7_wrong_28 rfl rfl hP hS
  exact LP_4 _ 0 false _ _ _ rfl (by omega) (fun j h_ => absurd h_ (Nat.not_lt_zero j)) (rfl) hP hD hS (lv_sub hl [2, 1, 0] rfl)
abbrev rm_X7_readGarland : Room := { frames := 3, cells := 0, slots := 0, locals := 68 }
theorem ydv_X7_readGarland : yX7_readGarland.cls = RX7 ∧ yX7_readGarland.cls ≠ "java/lang/invoke/MethodHandle" ∧ yX7_readGarland.cls ≠ "java/lang/invoke/VarHandle" ∧ (parseMethodDescriptor yX7_readGarland.desc).map (fun d => d.parameters.length) = some 0 := by decide +kernel
theorem inf_X7_readGarland_X7 : ∀ w ∈ wsX70, w ∈ wsX7_readGarland := fun w h => List.mem_cons_of_mem _ (List.mem_append_right _ (h))
set_option maxHeartbeats 4000000 in
set_option maxRecDepth 100000 in
theorem c_X7_readGarland (l : Launch) (D : va_G) (cA : ClassId) (m0 m1 m2 m3 m4 m5 m6 m7 m8 m9 yl ik tl sp rd : Nat) (a M K yh : Nat → Nat) (tm b rw0 : Nat → Nat)  (hV : Vd a) (hM : Rl a M) (hyl : yl ≤ 4) (htl : tl ≤ 80) (htm : ∀ j, j < tl → tm j < 2 ^ 31) : MI l D cA yX7_readGarland wsX7_readGarland rm_X7_readGarland [.ref m0] [(m6, .inl (cA, 80, .inl (nF tm)))] [(m0, .inr (7, [.ref m1, .ref m2, .ref m3, .int (nI yl), .ref m4, .int (nI ik), .ref m5, .ref m6, .int (nI tl), .int (nI sp), .int (nI rd), .ref m7, .ref m8, .ref m9])), (m1, .inl (cA, 286, .inl (nF M))), (m2, .inl (cA, 286, .inl (nF K))), (m3, .inl (cA, 1144, .inl (nF yh))), (m5, .inl (cA, 32, .inl (nF rw0)))] (S := (Nat) × (Nat → Nat) × (Nat → Nat) × (Nat → Nat) × (Nat) × (Nat) × (Nat → Nat)) (fun rr_ (uu_ : (Nat) × (Nat → Nat) × (Nat → Nat) × (Nat → Nat) × (Nat) × (Nat) × (Nat → Nat)) => rr_ = (aRead a tm tl b).1 ∧ (ActM a M yh yl (aRead a tm tl b).2 uu_.1 uu_.2.2.2.1 uu_.2.1)) (fun (uu_ : (Nat) × (Nat → Nat) × (Nat → Nat) × (Nat → Nat) × (Nat) × (Nat) × (Nat → Nat)) => [(m0, .inr (7, [.ref m1, .ref m2, .ref m3, .int (nI uu_.1), .ref m4, .int (nI ik), .ref m5, .ref m6, .int (nI tl), .int (nI uu_.2.2.2.2.1), .int (nI uu_.2.2.2.2.2.1), .ref m7, .ref m8, .ref m9])), (m1, .inl (cA, 286, .inl (nF uu_.2.1))), (m2, .inl (cA, 286, .inl (nF uu_.2.2.1))), (m3, .inl (cA, 1144, .inl (nF uu_.2.2.2.1))), (m5, .inl (cA, 32, .inl (nF uu_.2.2.2.2.2.2)))]) := by
  refine ofWi (cc := cX7_readGarland) (maxL := 5) (rt := .int) (by decide) rfl (Nat.le_of_ble_eq_true rfl) ?_
  intro p e s m args below meth c Q A ls F hK hR hP hD hA hS hl RET
  obtain ⟨hx, hb, hml, hown, hts⟩ := id F
  have hl : lv_has ls 5 [(0, .ref m0)] := hl
  refine lv_aload_n hx hb dX7_readGarland_0 rfl (lv_at hl 0 rfl) ?_
  refine call_i (q := (RX7, TX7, 14)) (As := []) (rest := []) F (c_X7_fault l D cA m0 m1 m2 m3 m4 m5 m6 m7 m8 m9 yl ik tl sp rd tm rw0 (by omega) (htm)) (cwV 0 hts gX7_readGarland_X7_fault rfl rfl rfl ydv_X7_fault ⟨Nat.le_of_ble_eq_true rfl, Nat.le_of_ble_eq_true rfl⟩) hK hR hP hD hA hS [0, 1, 5] [0, 4] rfl rfl rfl 1 7 rfl rfl (fun _ => rfl) rfl hl.1 rfl (Nat.le_of_ble_eq_true rfl) dX7_readGarland_1 ⟨Nat.zero_le _, Nat.zero_le _⟩ (fun r_1 u_1 H locs hw hP hD hS => ?_)
  obtain ⟨sp2_1, rd2_1, w2_1⟩ := u_1
  have hP : va_P D vwCl [(m0, .inr (7, [.ref m1, .ref m2, .ref m3, .int (nI yl), .ref m4, .int (nI ik), .ref m5, .ref m6, .int (nI tl), .int (nI sp2_1), .int (nI rd2_1), .ref m7, .ref m8, .ref m9])), (m1, .inl (cA, 286, .inl (nF M))), (m2, .inl (cA, 286, .inl (nF K))), (m3, .inl (cA, 1144, .inl (nF yh))), (m5, .inl (cA, 32, .inl (nF w2_1)))] H := hP
  have hD : va_D A [(m0, .inr (7, [.ref m1, .ref m2, .ref m3, .int (nI yl), .ref m4, .int (nI ik), .ref m5, .ref m6, .int (nI tl), .int (nI sp2_1), .int (nI rd2_1), .ref m7, .ref m8, .ref m9])), (m1, .inl (cA, 286, .inl (nF M))), (m2, .inl (cA, 286, .inl (nF K))), (m3, .inl (cA, 1144, .inl (nF yh))), (m5, .inl (cA, 32, .inl (nF w2_1)))] := hD
  obtain ⟨hr_1, hw_1⟩ : r_1 = fltM tl (flt tm tl 0 0 true false) ∧ (flt tm tl 0 0 true false = tl + 1 → ∀ b : Nat → Nat, rd2_1 = (spl tm tl 0 0 b).1 ∧ ∀ j, j < rd2_1 → w2_1 j = (spl tm tl 0 0 b).2 j) := hw
  subst hr_1
  rcases flt_c tm tl with hfl | hfl
  · refine tope (y := -5) (fltM_y hfl) ?_
    refine lv_istore_n (lv' := [(1, .int ((-5))), (0, .ref m0)]) hx hb dX7_readGarland_4 rfl hl (by decide) rfl (fun ls hl => ?_)
    refine lv_iload_n hx hb dX7_readGarland_5 rfl (lv_at hl 0 rfl) ?_
    refine lv_bipush (v := -5) hx hb dX7_readGarland_6 (by decide) ?_
    refine lv_icmp_eq (tgt := 16) hx hb dX7_readGarland_8 (by decide) (fun c_8 => ?_) (fun c_8 => absurd c_8 ((not_not_intro rfl)))
    have hsp_ := hw_1 hfl b
    have hok_ := spl_ok0 b hfl
    rw [← hsp_.1] at hok_
    have hks_ : hasKs a (spl tm tl 0 0 b).2 (spl tm tl 0 0 b).1 = hasKs a w2_1 rd2_1 := by rw [← hsp_.1]; exact hasKs_congr hsp_.2
    have hcl_ : clIn a (spl tm tl 0 0 b).2 0 (spl tm tl 0 0 b).1 = clIn a w2_1 0 rd2_1 := by rw [← hsp_.1]; exact clIn_congr hsp_.2
    refine lv_aload_n hx hb dX7_readGarland_16 rfl (lv_at hl 1 rfl) ?_
    refine call_r (q := (RX7, TX7, 14)) (As := []) (rest := []) F (c_X7_wrong l D cA m0 m1 m2 m3 m4 m5 m6 m7 m8 m9 yl ik tl sp2_1 rd2_1 a M w2_1 (hV) (hM) (by omega) (fun j hj => by rw [hsp_.2 j hj]; exact hok_.2.2 j hj)) (cwV 0 hts gX7_readGarland_X7_wrong rfl rfl rfl ydv_X7_wrong ⟨Nat.le_of_ble_eq_true rfl, Nat.le_of_ble_eq_true rfl⟩) hK hR hP hD hA hS [1, 2, 5] rfl rfl 1 7 rfl rfl rfl hl.1 rfl (Nat.le_of_ble_eq_true rfl) dX7_readGarland_17 ⟨Nat.zero_le _, Nat.zero_le _⟩ (fun H locs hP hS => ?_)
    rcases wrI_c a w2_1 rd2_1 with hwr_ | hwr_ | hwr_ | hwr_
    · obtain ⟨hq1_, hq9_⟩ := hwr_
      refine tope (y := (-1)) hq9_ ?_
      refine lv_istore_n (lv' := [(2, .int ((-1))), (1, .int ((-5))), (0, .ref m0)]) hx hb dX7_readGarland_20 rfl hl (by decide) rfl (fun ls hl => ?_)
      refine lv_iload_n hx hb dX7_readGarland_21 rfl (lv_at hl 0 rfl) ?_
      refine lv_if_ge (tgt := 27) hx hb dX7_readGarland_22 (by decide) (fun c_22 => absurd c_22 ((by decide))) (fun c_22 => ?_)
      refine lv_iload_n hx hb dX7_readGarland_25 rfl (lv_at hl 0 rfl) ?_
      have hE : aRead a tm tl b = ((-1), none) := by first | (simp only [aRead]; simp [c_8, c_22, hfl, hq1_, hks_, hcl_]; done) | (simp only [aRead]; simp [c_8, c_22, hfl, hq1_, hks_, hcl_]; omega)
      refine tope (y := (aRead a tm tl b).1) (by rw [hE]) ?_
      exact RET _ _ _ _ _ (yl, M, K, yh, sp2_1, rd2_1, w2_1) dX7_readGarland_26 rfl ⟨rfl, (by rw [hE]; exact ⟨rfl, rfl, hM⟩)⟩ hP hS
    · obtain ⟨hq1_, hq2_, hq9_⟩ := hwr_
      refine tope (y := (-4)) hq9_ ?_
      refine lv_istore_n (lv' := [(2, .int ((-4))), (1, .int ((-5))), (0, .ref m0)]) hx hb dX7_readGarland_20 rfl hl (by decide) rfl (fun ls hl => ?_)
      refine lv_iload_n hx hb dX7_readGarland_21 rfl (lv_at hl 0 rfl) ?_
      refine lv_if_ge (tgt := 27) hx hb dX7_readGarland_22 (by decide) (fun c_22 => absurd c_22 ((by decide))) (fun c_22 => ?_)
      refine lv_iload_n hx hb dX7_readGarland_25 rfl (lv_at hl 0 rfl) ?_
      have hE : aRead a tm tl b = ((-4), none) := by first | (simp only [aRead]; simp [c_8, c_22, hfl, hq1_, hq2_, hks_, hcl_]; done) | (simp only [aRead]; simp [c_8, c_22, hfl, hq1_, hq2_, hks_, hcl_]; omega)
      refine tope (y := (aRead a tm tl b).1) (by rw [hE]) ?_
      exact RET _ _ _ _ _ (yl, M, K, yh, sp2_1, rd2_1, w2_1) dX7_readGarland_26 rfl ⟨rfl, (by rw [hE]; exact ⟨rfl, rfl, hM⟩)⟩ hP hS
    · obtain ⟨hq1_, hq2_, hq3_, hq9_⟩ := hwr_
      refine tope (y := (-3)) hq9_ ?_
      refine lv_istore_n (lv' := [(2, .int ((-3))), (1, .int ((-5))), (0, .ref m0)]) hx hb dX7_readGarland_20 rfl hl (by decide) rfl (fun ls hl => ?_)
      refine lv_iload_n hx hb dX7_readGarland_21 rfl (lv_at hl 0 rfl) ?_
      refine lv_if_ge (tgt := 27) hx hb dX7_readGarland_22 (by decide) (fun c_22 => absurd c_22 ((by decide))) (fun c_22 => ?_)
      refine lv_iload_n hx hb dX7_readGarland_25 rfl (lv_at hl 0 rfl) ?_
      have hE : aRead a tm tl b = ((-3), none) := by first | (simp only [aRead]; simp [c_8, c_22, hfl, hq1_, hq2_, hq3_, hks_, hcl_]; done) | (simp only [aRead]; simp [c_8, c_22, hfl, hq1_, hq2_, hq3_, hks_, hcl_]; omega)
      refine tope (y := (aRead a tm tl b).1) (by rw [hE]) ?_
      exact RET _ _ _ _ _ (yl, M, K, yh, sp2_1, rd2_1, w2_1) dX7_readGarland_26 rfl ⟨rfl, (by rw [hE]; exact ⟨rfl, rfl, hM⟩)⟩ hP hS
    · obtain ⟨hq1_, hq2_, hf8, hq9_⟩ := hwr_
      refine tope (y := nI 0) hq9_ ?_
      refine lv_istore_n (lv' := [(2, .int (nI 0)), (1, .int ((-5))), (0, .ref m0)]) hx hb dX7_readGarland_20 rfl hl (by decide) rfl (fun ls hl => ?_)
      refine lv_iload_n hx hb dX7_readGarland_21 rfl (lv_at hl 0 rfl) ?_
      refine nv_if_ge (tgt := 27) hx hb dX7_readGarland_22 (by decide) (by decide) (fun _ => ?_)
      refine lv_aload_n hx hb dX7_readGarland_27 rfl (lv_at hl 2 rfl) ?_
      refine call_v (q := (RX7, TX7, 14)) (As := []) (rest := []) F (c_X7_keeps l D cA m0 m1 m2 ([.ref m3, .int (nI yl), .ref m4, .int (nI ik), .ref m5, .ref m6, .int (nI tl), .int (nI sp2_1), .int (nI rd2_1), .ref m7, .ref m8, .ref m9]) M K) (cwV 0 hts gX7_readGarland_X7_keeps rfl rfl rfl ydv_X7_keeps ⟨Nat.le_of_ble_eq_true rfl, Nat.le_of_ble_eq_true rfl⟩) hK hR hP hD hA hS [1, 2, 3] [2] rfl rfl rfl 1 7 rfl rfl (fun _ => rfl) rfl hl.1 rfl (Nat.le_of_ble_eq_true rfl) dX7_readGarland_28 ⟨Nat.zero_le _, Nat.zero_le _⟩ (fun u_28 H locs hw hP hD hS => ?_)
      obtain ⟨K2_28, rfl⟩ : ∃ z, z = u_28 := ⟨_, rfl⟩
      have hP : va_P D vwCl [(m0, .inr (7, [.ref m1, .ref m2, .ref m3, .int (nI yl), .ref m4, .int (nI ik), .ref m5, .ref m6, .int (nI tl), .int (nI sp2_1), .int (nI rd2_1), .ref m7, .ref m8, .ref m9])), (m1, .inl (cA, 286, .inl (nF M))), (m2, .inl (cA, 286, .inl (nF K2_28))), (m3, .inl (cA, 1144, .inl (nF yh))), (m5, .inl (cA, 32, .inl (nF w2_1)))] H := hP
      have hD : va_D A [(m0, .inr (7, [.ref m1, .ref m2, .ref m3, .int (nI yl), .ref m4, .int (nI ik), .ref m5, .ref m6, .int (nI tl), .int (nI sp2_1), .int (nI rd2_1), .ref m7, .ref m8, .ref m9])), (m1, .inl (cA, 286, .inl (nF M))), (m2, .inl (cA, 286, .inl (nF K2_28))), (m3, .inl (cA, 1144, .inl (nF yh))), (m5, .inl (cA, 32, .inl (nF w2_1)))] := hD
      have hw_28 : ∀ j, j < 286 → K2_28 j = M j := hw
      refine lv_aload_n hx hb dX7_readGarland_31 rfl (lv_at hl 2 rfl) ?_
      refine call_r (q := (RX7, TX7, 14)) (As := []) (rest := []) F (c_X7_freeNumber l D cA m0 m1 ([.ref m2, .ref m3, .int (nI yl), .ref m4, .int (nI ik), .ref m5, .ref m6, .int (nI tl), .int (nI sp2_1), .int (nI rd2_1), .ref m7, .ref m8, .ref m9]) a M (hV) (hM)) (cwV 0 hts gX7_readGarland_X7_freeNumber rfl rfl rfl ydv_X7_freeNumber ⟨Nat.le_of_ble_eq_true rfl, Nat.le_of_ble_eq_true rfl⟩) hK hR hP hD hA hS [1, 2] rfl rfl 1 7 rfl rfl rfl hl.1 rfl (Nat.le_of_ble_eq_true rfl) dX7_readGarland_32 ⟨Nat.zero_le _, Nat.zero_le _⟩ (fun H locs hP hS => ?_)
      refine tope (y := nI (fr a)) (frM_n hf8) ?_
      refine lv_istore_n (lv' := [(3, .int (nI (fr a))), (2, .int (nI 0)), (1, .int ((-5))), (0, .ref m0)]) hx hb dX7_readGarland_35 rfl hl (by decide) rfl (fun ls hl => ?_)
      refine lv_aload_n hx hb dX7_readGarland_36 rfl (lv_at hl 3 rfl) ?_
      refine va_get (D := D) (cl := vwCl) (ci := 7) (v := .ref m1) (C := RX7) (T := TX7) (N := 14) hx hb hts inf_X7_readGarland_X7 hown hK.1 hP 0 rfl rfl 0 (by decide) (hts _ (List.mem_of_getElem? (i := 1) rfl)) (fun _ h9 => h9) rfl dX7_readGarland_37 ?_
      refine lv_bipush (v := nI 22) hx hb dX7_readGarland_40 (by decide) ?_
      refine lv_iload_n hx hb dX7_readGarland_42 rfl (lv_at hl 0 rfl) ?_
      refine nv_iadd hx hb dX7_readGarland_43 ?_
      refine lv_aload_n hx hb dX7_readGarland_44 rfl (lv_at hl 3 rfl) ?_
      refine va_get (D := D) (cl := vwCl) (ci := 7) (v := .int (nI rd2_1)) (C := RX7) (T := TX7) (N := 14) hx hb hts inf_X7_readGarland_X7 hown hK.1 hP 0 rfl rfl 10 (by decide) (hts _ (List.mem_of_getElem? (i := 2) rfl)) (fun _ h9 => h9) rfl dX7_readGarland_45 ?_
      refine nv_iast (a := M) (v := rd2_1) hx hb hK hP hD hS 1 rfl (by omega) (by decide) dX7_readGarland_48 (fun H locs hP hD hS => ?_)
      have hP : va_P D vwCl [(m0, .inr (7, [.ref m1, .ref m2, .ref m3, .int (nI yl), .ref m4, .int (nI ik), .ref m5, .ref m6, .int (nI tl), .int (nI sp2_1), .int (nI rd2_1), .ref m7, .ref m8, .ref m9])), (m1, .inl (cA, 286, .inl (nF (updN M (22 + (fr a)) rd2_1)))), (m2, .inl (cA, 286, .inl (nF K2_28))), (m3, .inl (cA, 1144, .inl (nF yh))), (m5, .inl (cA, 32, .inl (nF w2_1)))] H := hP
      have hD : va_D A [(m0, .inr (7, [.ref m1, .ref m2, .ref m3, .int (nI yl), .ref m4, .int (nI ik), .ref m5, .ref m6, .int (nI tl), .int (nI sp2_1), .int (nI rd2_1), .ref m7, .ref m8, .ref m9])), (m1, .inl (cA, 286, .inl (nF (updN M (22 + (fr a)) rd2_1)))), (m2, .inl (cA, 286, .inl (nF K2_28))), (m3, .inl (cA, 1144, .inl (nF yh))), (m5, .inl (cA, 32, .inl (nF w2_1)))] := hD
      refine lv_iconst (v := nI 0) hx hb dX7_readGarland_49 (by decide) ?_
      refine lv_istore (lv' := [(4, .int (nI 0)), (3, .int (nI (fr a))), (2, .int (nI 0)), (1, .int ((-5))), (0, .ref m0)]) hx hb dX7_readGarland_50 hl (by decide) rfl (fun ls hl => ?_)
      have LP_52 : ∀ (k_52 : Nat) (i : Nat) (M3 : Nat → Nat) (H : Heap) (locs : List Loc) (ls : Array Slot), rd2_1 - i = k_52 → (i ≤ rd2_1) → (∀ j, M3 j = if j = 22 + fr a then rd2_1 else if 30 + 32 * fr a ≤ j ∧ j < 30 + 32 * fr a + i then w2_1 (j - (30 + 32 * fr a)) else M j) → va_P D vwCl [(m0, .inr (7, [.ref m1, .ref m2, .ref m3, .int (nI yl), .ref m4, .int (nI ik), .ref m5, .ref m6, .int (nI tl), .int (nI sp2_1), .int (nI rd2_1), .ref m7, .ref m8, .ref m9])), (m1, .inl (cA, 286, .inl (nF M3))), (m2, .inl (cA, 286, .inl (nF K2_28))), (m3, .inl (cA, 1144, .inl (nF yh))), (m5, .inl (cA, 32, .inl (nF w2_1)))] H → va_D A [(m0, .inr (7, [.ref m1, .ref m2, .ref m3, .int (nI yl), .ref m4, .int (nI ik), .ref m5, .ref m6, .int (nI tl), .int (nI sp2_1), .int (nI rd2_1), .ref m7, .ref m8, .ref m9])), (m1, .inl (cA, 286, .inl (nF M3))), (m2, .inl (cA, 286, .inl (nF K2_28))), (m3, .inl (cA, 1144, .inl (nF yh))), (m5, .inl (cA, 32, .inl (nF w2_1)))] → va_S A s.heap H locs → lv_has ls 5 [(0, .ref m0), (1, .int ((-5))), (2, .int (nI 0)), (3, .int (nI (fr a))), (4, .int (nI i))] → W p l e rm_X7_readGarland s m args below meth c H locs 0 0 Q (F0 m 52 ls []) := by
        refine sind (fun k_52 ih_52 => ?_)
        intro i M3 H locs ls hk_52 hi hm3_ hP hD hS hl
        refine lv_iload hx hb dX7_readGarland_52 (lv_at hl 4 rfl) ?_
        refine lv_aload_n hx hb dX7_readGarland_54 rfl (lv_at hl 0 rfl) ?_
        refine va_get (D := D) (cl := vwCl) (ci := 7) (v := .int (nI rd2_1)) (C := RX7) (T := TX7) (N := 14) hx hb hts inf_X7_readGarland_X7 hown hK.1 hP 0 rfl rfl 10 (by decide) (hts _ (List.mem_of_getElem? (i := 2) rfl)) (fun _ h9 => h9) rfl dX7_readGarland_55 ?_
        refine nv_icmp_ge (tgt := 81) hx hb dX7_readGarland_58 (by decide) (by omega) (by omega) (fun c_58 => ?_) (fun c_58 => ?_)
        · refine lv_aload_n hx hb dX7_readGarland_81 rfl (lv_at hl 0 rfl) ?_
          refine lv_iload_n hx hb dX7_readGarland_82 rfl (lv_at hl 3 rfl) ?_
          refine call_i (q := (RX7, TX7, 14)) (As := [.int (nI (fr a))]) (rest := []) F (c_X7_ends l D cA m0 m1 m2 m3 m4 m5 m6 m7 m8 m9 yl ik tl sp2_1 rd2_1 M3 K2_28 yh (nI (fr a)) (by omega)) (cwV 1 hts gX7_readGarland_X7_ends rfl rfl rfl ydv_X7_ends ⟨Nat.le_of_ble_eq_true rfl, Nat.le_of_ble_eq_true rfl⟩) hK hR hP hD hA hS [3, 1, 2, 4] [0, 1, 3] rfl rfl rfl 1 7 rfl rfl (fun _ => rfl) rfl hl.1 rfl (Nat.le_of_ble_eq_true rfl) dX7_readGarland_83 ⟨Nat.zero_le _, Nat.zero_le _⟩ (fun r_83 u_83 H locs hw hP hD hS => ?_)
          obtain ⟨y2_83, M2_83, yh2_83⟩ := u_83
          have hP : va_P D vwCl [(m0, .inr (7, [.ref m1, .ref m2, .ref m3, .int (nI y2_83), .ref m4, .int (nI ik), .ref m5, .ref m6, .int (nI tl), .int (nI sp2_1), .int (nI rd2_1), .ref m7, .ref m8, .ref m9])), (m1, .inl (cA, 286, .inl (nF M2_83))), (m2, .inl (cA, 286, .inl (nF K2_28))), (m3, .inl (cA, 1144, .inl (nF yh2_83))), (m5, .inl (cA, 32, .inl (nF w2_1)))] H := hP
          have hD : va_D A [(m0, .inr (7, [.ref m1, .ref m2, .ref m3, .int (nI y2_83), .ref m4, .int (nI ik), .ref m5, .ref m6, .int (nI tl), .int (nI sp2_1), .int (nI rd2_1), .ref m7, .ref m8, .ref m9])), (m1, .inl (cA, 286, .inl (nF M2_83))), (m2, .inl (cA, 286, .inl (nF K2_28))), (m3, .inl (cA, 1144, .inl (nF yh2_83))), (m5, .inl (cA, 32, .inl (nF w2_1)))] := hD
          obtain ⟨hr_83, hw_83⟩ : r_83 = nI (fr a) ∧ ((0 ≤ (nI (fr a)) → M2_83 = M3 ∧ y2_83 = hisT yl + 1 ∧ RecM yh K2_28 yl yh2_83) ∧ (¬ 0 ≤ (nI (fr a)) → (∀ j, j < 286 → M2_83 j = K2_28 j) ∧ y2_83 = yl ∧ yh2_83 = yh)) := hw
          subst hr_83
          have hE : aRead a tm tl b = (nI (fr a), some (updN (cpyN (spl tm tl 0 0 b).2 a 0 (30 + fr a * 32 + 0) (spl tm tl 0 0 b).1) (22 + fr a) (spl tm tl 0 0 b).1)) := by first | (simp only [aRead]; simp [c_8, c_58, hfl, hq1_, hq2_, Nat.ne_of_lt hf8, hks_, hcl_]; done) | (simp only [aRead]; simp [c_8, c_58, hfl, hq1_, hq2_, Nat.ne_of_lt hf8, hks_, hcl_]; omega)
          refine tope (y := (aRead a tm tl b).1) (by rw [hE]) ?_
          exact RET _ _ _ _ _ (y2_83, M2_83, K2_28, yh2_83, sp2_1, rd2_1, w2_1) dX7_readGarland_86 rfl ⟨rfl, (by rw [hE]; exact ends_yes (by rw [← hsp_.1]; exact Rl_read hM hV.1 hf8 (by omega) hsp_.2 (fun j => by rw [hm3_, show i = rd2_1 by omega])) hw_28 (hw_83.1 (nI_pos' (by omega))))⟩ hP hS
        · refine lv_aload_n hx hb dX7_readGarland_61 rfl (lv_at hl 0 rfl) ?_
          refine lv_iload_n hx hb dX7_readGarland_62 rfl (lv_at hl 3 rfl) ?_
          refine lv_iload hx hb dX7_readGarland_63 (lv_at hl 4 rfl) ?_
          refine lv_aload_n hx hb dX7_readGarland_65 rfl (lv_at hl 0 rfl) ?_
          refine va_get (D := D) (cl := vwCl) (ci := 7) (v := .ref m5) (C := RX7) (T := TX7) (N := 14) hx hb hts inf_X7_readGarland_X7 hown hK.1 hP 0 rfl rfl 6 (by decide) (hts _ (List.mem_of_getElem? (i := 3) rfl)) (fun _ h9 => h9) rfl dX7_readGarland_66 ?_
          refine lv_iload hx hb dX7_readGarland_69 (lv_at hl 4 rfl) ?_
          refine nv_iald (a := w2_1) hx hb hK hP 4 rfl (by omega) (by decide) dX7_readGarland_71 ?_
          refine call_v (q := (RX7, TX7, 14)) (As := [.int (nI (fr a)), .int (nI i), .int (nI (w2_1 i))]) (rest := []) F (c_X7_lays l D cA m0 m1 ([.ref m2, .ref m3, .int (nI yl), .ref m4, .int (nI ik), .ref m5, .ref m6, .int (nI tl), .int (nI sp2_1), .int (nI rd2_1), .ref m7, .ref m8, .ref m9]) M3 (fr a) i (w2_1 i) (by omega) (by omega)) (cwV 3 hts gX7_readGarland_X7_lays rfl rfl rfl ydv_X7_lays ⟨Nat.le_of_ble_eq_true rfl, Nat.le_of_ble_eq_true rfl⟩) hK hR hP hD hA hS [1, 2] [1] rfl rfl rfl 1 7 rfl rfl (fun _ => rfl) rfl hl.1 rfl (Nat.le_of_ble_eq_true rfl) dX7_readGarland_72 ⟨Nat.zero_le _, Nat.zero_le _⟩ (fun u_72 H locs hw hP hD hS => ?_)
          have hP : va_P D vwCl [(m0, .inr (7, [.ref m1, .ref m2, .ref m3, .int (nI yl), .ref m4, .int (nI ik), .ref m5, .ref m6, .int (nI tl), .int (nI sp2_1), .int (nI rd2_1), .ref m7, .ref m8, .ref m9])), (m1, .inl (cA, 286, .inl (nF (updN M3 (30 + 32 * (fr a) + i) (w2_1 i))))), (m2, .inl (cA, 286, .inl (nF K2_28))), (m3, .inl (cA, 1144, .inl (nF yh))), (m5, .inl (cA, 32, .inl (nF w2_1)))] H := hP
          have hD : va_D A [(m0, .inr (7, [.ref m1, .ref m2, .ref m3, .int (nI yl), .ref m4, .int (nI ik), .ref m5, .ref m6, .int (nI tl), .int (nI sp2_1), .int (nI rd2_1), .ref m7, .ref m8, .ref m9])), (m1, .inl (cA, 286, .inl (nF (updN M3 (30 + 32 * (fr a) + i) (w2_1 i))))), (m2, .inl (cA, 286, .inl (nF K2_28))), (m3, .inl (cA, 1144, .inl (nF yh))), (m5, .inl (cA, 32, .inl (nF w2_1)))] := hD
          refine lv_iinc (v := nI (i + 1)) (lv' := [(4, .int (nI (i + 1))), (0, .ref m0), (1, .int ((-5))), (2, .int (nI 0)), (3, .int (nI (fr a)))]) hx hb dX7_readGarland_75 hl (k := 4) rfl (nI_add _ _) (by decide) rfl (fun ls hl => ?_)
          refine lv_goto (tgt := 52) hx hb dX7_readGarland_78 (by decide) ?_
          exact ih_52 _ (by omega) (i + 1) (updN M3 (30 + 32 * (fr a) + i) (w2_1 i)) _ _ _ rfl (by omega) (fun j => by simp only [updN]; by_cases e_ : j = 30 + 32 * fr a + i; (rw [if_pos e_, if_neg (by omega), if_pos (by omega), show j - (30 + 32 * fr a) = i by omega]); (rw [if_neg e_, hm3_]; by_cases e1_ : j = 22 + fr a; (rw [if_pos e1_, if_pos e1_]); (rw [if_neg e1_, if_neg e1_]; by_cases e2_ : 30 + 32 * fr a ≤ j ∧ j < 30 + 32 * fr a + i; (rw [if_pos e2_, if_pos (by omega)]); (rw [if_neg e2_, if_neg (by omega)])))) hP hD hS (lv_sub hl [1, 2, 3, 4, 0] rfl)
      exact LP_52 _ 0 (updN M (22 + fr a) rd2_1) _ _ _ rfl (by omega) (fun j => by simp only [updN]; by_cases e_ : j = 22 + fr a; (rw [if_pos e_, if_pos e_]); (rw [if_neg e_, if_neg e_, if_neg (by omega)])) hP hD hS (lv_sub hl [4, 3, 2, 1, 0] rfl)
  · have hfn : flt tm tl 0 0 true false ≠ tl + 1 := by omega
    refine tope (y := nI (flt tm tl 0 0 true false)) (fltM_n hfl) ?_
    refine lv_istore_n (lv' := [(1, .int (nI (flt tm tl 0 0 true false))), (0, .ref m0)]) hx hb dX7_readGarland_4 rfl hl (by decide) rfl (fun ls hl => ?_)
    refine lv_iload_n hx hb dX7_readGarland_5 rfl (lv_at hl 0 rfl) ?_
    refine lv_bipush (v := -5) hx hb dX7_readGarland_6 (by decide) ?_
    refine lv_icmp_eq (tgt := 16) hx hb dX7_readGarland_8 (by decide) (fun c_8 => absurd c_8 (nI_m5 (by omega))) (fun c_8 => ?_)
    refine lv_bipush (v := -100) hx hb dX7_readGarland_11 (by decide) ?_
    refine lv_iload_n hx hb dX7_readGarland_13 rfl (lv_at hl 0 rfl) ?_
    refine lv_isub hx hb dX7_readGarland_14 ?_
    have hE : aRead a tm tl b = (((-100)) - (nI (flt tm tl 0 0 true false)), none) := by first | (simp only [aRead]; simp [c_8, hfn]; done) | (simp only [aRead]; simp [c_8, hfn]; omega)
    refine tope (y := (aRead a tm tl b).1) (by rw [hE]) ?_
    exact RET _ _ _ _ _ (yl, M, K, yh, sp2_1, rd2_1, w2_1) dX7_readGarland_15 rfl ⟨rfl, (by rw [hE]; exact ⟨rfl, rfl, hM⟩)⟩ hP hS
