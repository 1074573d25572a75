/-! laid by a program: contracts of X7_keeps, X7_comesBack, X7_records, X7_ends, X7_lays, X7_takes, X7_dollAtR -/
abbrev rm_X7_keeps : Room := { frames := 0, cells := 0, slots := 0, locals := 0 }
theorem ydv_X7_keeps : yX7_keeps.cls = RX7 ∧ yX7_keeps.cls ≠ "java/lang/invoke/MethodHandle" ∧ yX7_keeps.cls ≠ "java/lang/invoke/VarHandle" ∧ (parseMethodDescriptor yX7_keeps.desc).map (fun d => d.parameters.length) = some 0 := by decide +kernel
theorem inf_X7_keeps_X7 : ∀ w ∈ wsX70, w ∈ wsX7_keeps := fun w h => List.mem_cons_of_mem _ (List.mem_append_right _ (h))
set_option maxHeartbeats 4000000 in
set_option maxRecDepth 100000 in
theorem c_X7_keeps (l : Launch) (D : va_G) (cA : ClassId) (m0 m1 m2 : Nat) (fs : List Value) (M K : Nat → Nat)  : MV l D cA yX7_keeps wsX7_keeps rm_X7_keeps [.ref m0] [(m0, .inr (7, .ref m1 :: .ref m2 :: fs)), (m1, .inl (cA, 286, .inl (nF M)))] [(m2, .inl (cA, 286, .inl (nF K)))] (S := (Nat → Nat)) (fun (uu_ : (Nat → Nat)) => ∀ j, j < 286 → uu_ j = M j) (fun (uu_ : (Nat → Nat)) => [(m2, .inl (cA, 286, .inl (nF uu_)))]) := by
  refine ofWv (cc := cX7_keeps) (maxL := 2) (by decide) rfl (Nat.le_of_ble_eq_true rfl) ?_
  intro p e s m args below meth c Q A ls F hK hR hP hD hA hS hl RET
  obtain ⟨hx, hb, hml, hown, hts⟩ := id F
  have hl : lv_has ls 2 [(0, .ref m0)] := hl
  refine lv_iconst (v := nI 0) hx hb dX7_keeps_0 (by decide) ?_
  refine lv_istore_n (lv' := [(1, .int (nI 0)), (0, .ref m0)]) hx hb dX7_keeps_1 rfl hl (by decide) rfl (fun ls hl => ?_)
  have LP_2 : ∀ (k_2 : Nat) (i : Nat) (K3 : Nat → Nat) (H : Heap) (locs : List Loc) (ls : Array Slot), 286 - i = k_2 → (i ≤ 286) → (∀ j, j < i → K3 j = M j) → va_P D vwCl [(m2, .inl (cA, 286, .inl (nF K3)))] H → va_D A [(m2, .inl (cA, 286, .inl (nF K3)))] → va_S A s.heap H locs → lv_has ls 2 [(0, .ref m0), (1, .int (nI i))] → W p l e rm_X7_keeps s m args below meth c H locs 0 0 Q (F0 m 2 ls []) := by
    refine sind (fun k_2 ih_2 => ?_)
    intro i K3 H locs ls hk_2 hi hk_ hP hD hS hl
    refine lv_iload_n hx hb dX7_keeps_2 rfl (lv_at hl 1 rfl) ?_
    refine lv_sipush (v := nI 286) hx hb dX7_keeps_3 (by decide) ?_
    refine nv_icmp_ge (tgt := 27) hx hb dX7_keeps_6 (by decide) (by omega) (by decide) (fun c_6 => ?_) (fun c_6 => ?_)
    · exact RET _ _ _ _ K3 dX7_keeps_27 (fun j hj => hk_ j (by omega)) hP hS
    · refine lv_aload_n hx hb dX7_keeps_9 rfl (lv_at hl 0 rfl) ?_
      refine va_get (D := D) (cl := vwCl) (ci := 7) (v := .ref m2) (C := RX7) (T := TX7) (N := 14) hx hb hts inf_X7_keeps_X7 hown hK.1 (hR.at hS) 0 rfl rfl 1 (by decide) (hts _ (List.mem_of_getElem? (i := 1) rfl)) (fun _ h9 => h9) rfl dX7_keeps_10 ?_
      refine lv_iload_n hx hb dX7_keeps_13 rfl (lv_at hl 1 rfl) ?_
      refine lv_aload_n hx hb dX7_keeps_14 rfl (lv_at hl 0 rfl) ?_
      refine va_get (D := D) (cl := vwCl) (ci := 7) (v := .ref m1) (C := RX7) (T := TX7) (N := 14) hx hb hts inf_X7_keeps_X7 hown hK.1 (hR.at hS) 0 rfl rfl 0 (by decide) (hts _ (List.mem_of_getElem? (i := 2) rfl)) (fun _ h9 => h9) rfl dX7_keeps_15 ?_
      refine lv_iload_n hx hb dX7_keeps_18 rfl (lv_at hl 1 rfl) ?_
      refine nv_iald (a := M) hx hb hK (hR.at hS) 1 rfl (by omega) (by decide) dX7_keeps_19 ?_
      refine nv_iast (a := K3) (v := (M i)) hx hb hK hP hD hS 0 rfl (by omega) (by decide) dX7_keeps_20 (fun H locs hP hD hS => ?_)
      have hP : va_P D vwCl [(m2, .inl (cA, 286, .inl (nF (updN K3 i (M i)))))] H := hP
      have hD : va_D A [(m2, .inl (cA, 286, .inl (nF (updN K3 i (M i)))))] := hD
      refine lv_iinc (v := nI (i + 1)) (lv' := [(1, .int (nI (i + 1))), (0, .ref m0)]) hx hb dX7_keeps_21 hl (k := 1) rfl (nI_add _ _) (by decide) rfl (fun ls hl => ?_)
      refine lv_goto (tgt := 2) hx hb dX7_keeps_24 (by decide) ?_
      exact ih_2 _ (by omega) (i + 1) (updN K3 i (M i)) _ _ _ rfl (by omega) (fun j hj => by simp only [updN]; split; (rename_i e_; rw [e_]); exact hk_ j (by omega)) hP hD hS (lv_sub hl [1, 0] rfl)
  exact LP_2 _ 0 K _ _ _ rfl (by omega) (fun j h_ => absurd h_ (Nat.not_lt_zero j)) hP hD hS (lv_sub hl [1, 0] rfl)
abbrev rm_X7_comesBack : Room := { frames := 0, cells := 0, slots := 0, locals := 0 }
theorem ydv_X7_comesBack : yX7_comesBack.cls = RX7 ∧ yX7_comesBack.cls ≠ "java/lang/invoke/MethodHandle" ∧ yX7_comesBack.cls ≠ "java/lang/invoke/VarHandle" ∧ (parseMethodDescriptor yX7_comesBack.desc).map (fun d => d.parameters.length) = some 0 := by decide +kernel
theorem inf_X7_comesBack_X7 : ∀ w ∈ wsX70, w ∈ wsX7_comesBack := fun w h => List.mem_cons_of_mem _ (List.mem_append_right _ (h))
set_option maxHeartbeats 4000000 in
set_option maxRecDepth 100000 in
theorem c_X7_comesBack (l : Launch) (D : va_G) (cA : ClassId) (m0 m1 m2 : Nat) (fs : List Value) (M K : Nat → Nat)  : MV l D cA yX7_comesBack wsX7_comesBack rm_X7_comesBack [.ref m0] [(m0, .inr (7, .ref m1 :: .ref m2 :: fs)), (m2, .inl (cA, 286, .inl (nF K)))] [(m1, .inl (cA, 286, .inl (nF M)))] (S := (Nat → Nat)) (fun (uu_ : (Nat → Nat)) => ∀ j, j < 286 → uu_ j = K j) (fun (uu_ : (Nat → Nat)) => [(m1, .inl (cA, 286, .inl (nF uu_)))]) := by
  refine ofWv (cc := cX7_comesBack) (maxL := 2) (by decide) rfl (Nat.le_of_ble_eq_true rfl) ?_
  intro p e s m args below meth c Q A ls F hK hR hP hD hA hS hl RET
  obtain ⟨hx, hb, hml, hown, hts⟩ := id F
  have hl : lv_has ls 2 [(0, .ref m0)] := hl
  refine lv_iconst (v := nI 0) hx hb dX7_comesBack_0 (by decide) ?_
  refine lv_istore_n (lv' := [(1, .int (nI 0)), (0, .ref m0)]) hx hb dX7_comesBack_1 rfl hl (by decide) rfl (fun ls hl => ?_)
  have LP_2 : ∀ (k_2 : Nat) (i : Nat) (M3 : Nat → Nat) (H : Heap) (locs : List Loc) (ls : Array Slot), 286 - i = k_2 → (i ≤ 286) → (∀ j, j < i → M3 j = K j) → va_P D vwCl [(m1, .inl (cA, 286, .inl (nF M3)))] H → va_D A [(m1, .inl (cA, 286, .inl (nF M3)))] → va_S A s.heap H locs → lv_has ls 2 [(0, .ref m0), (1, .int (nI i))] → W p l e rm_X7_comesBack s m args below meth c H locs 0 0 Q (F0 m 2 ls []) := by
    refine sind (fun k_2 ih_2 => ?_)
    intro i M3 H locs ls hk_2 hi hk_ hP hD hS hl
    refine lv_iload_n hx hb dX7_comesBack_2 rfl (lv_at hl 1 rfl) ?_
    refine lv_sipush (v := nI 286) hx hb dX7_comesBack_3 (by decide) ?_
    refine nv_icmp_ge (tgt := 27) hx hb dX7_comesBack_6 (by decide) (by omega) (by decide) (fun c_6 => ?_) (fun c_6 => ?_)
    · exact RET _ _ _ _ M3 dX7_comesBack_27 (fun j hj => hk_ j (by omega)) hP hS
    · refine lv_aload_n hx hb dX7_comesBack_9 rfl (lv_at hl 0 rfl) ?_
      refine va_get (D := D) (cl := vwCl) (ci := 7) (v := .ref m1) (C := RX7) (T := TX7) (N := 14) hx hb hts inf_X7_comesBack_X7 hown hK.1 (hR.at hS) 0 rfl rfl 0 (by decide) (hts _ (List.mem_of_getElem? (i := 1) rfl)) (fun _ h9 => h9) rfl dX7_comesBack_10 ?_
      refine lv_iload_n hx hb dX7_comesBack_13 rfl (lv_at hl 1 rfl) ?_
      refine lv_aload_n hx hb dX7_comesBack_14 rfl (lv_at hl 0 rfl) ?_
      refine va_get (D := D) (cl := vwCl) (ci := 7) (v := .ref m2) (C := RX7) (T := TX7) (N := 14) hx hb hts inf_X7_comesBack_X7 hown hK.1 (hR.at hS) 0 rfl rfl 1 (by decide) (hts _ (List.mem_of_getElem? (i := 2) rfl)) (fun _ h9 => h9) rfl dX7_comesBack_15 ?_
      refine lv_iload_n hx hb dX7_comesBack_18 rfl (lv_at hl 1 rfl) ?_
      refine nv_iald (a := K) hx hb hK (hR.at hS) 1 rfl (by omega) (by decide) dX7_comesBack_19 ?_
      refine nv_iast (a := M3) (v := (K i)) hx hb hK hP hD hS 0 rfl (by omega) (by decide) dX7_comesBack_20 (fun H locs hP hD hS => ?_)
      have hP : va_P D vwCl [(m1, .inl (cA, 286, .inl (nF (updN M3 i (K i)))))] H := hP
      have hD : va_D A [(m1, .inl (cA, 286, .inl (nF (updN M3 i (K i)))))] := hD
      refine lv_iinc (v := nI (i + 1)) (lv' := [(1, .int (nI (i + 1))), (0, .ref m0)]) hx hb dX7_comesBack_21 hl (k := 1) rfl (nI_add _ _) (by decide) rfl (fun ls hl => ?_)
      refine lv_goto (tgt := 2) hx hb dX7_comesBack_24 (by decide) ?_
      exact ih_2 _ (by omega) (i + 1) (updN M3 i (K i)) _ _ _ rfl (by omega) (fun j hj => by simp only [updN]; split; (rename_i e_; rw [e_]); exact hk_ j (by omega)) hP hD hS (lv_sub hl [1, 0] rfl)
  exact LP_2 _ 0 M _ _ _ rfl (by omega) (fun j h_ => absurd h_ (Nat.not_lt_zero j)) hP hD hS (lv_sub hl [1, 0] rfl)
abbrev rm_X7_records : Room := { frames := 0, cells := 0, slots := 0, locals := 0 }
theorem ydv_X7_records : yX7_records.cls = RX7 ∧ yX7_records.cls ≠ "java/lang/invoke/MethodHandle" ∧ yX7_records.cls ≠ "java/lang/invoke/VarHandle" ∧ (parseMethodDescriptor yX7_records.desc).map (fun d => d.parameters.length) = some 0 := by decide +kernel
theorem inf_X7_records_X7 : ∀ w ∈ wsX70, w ∈ wsX7_records := fun w h => List.mem_cons_of_mem _ (List.mem_append_right _ (h))
set_option maxHeartbeats 4000000 in
set_option maxRecDepth 100000 in
theorem c_X7_records (l : Launch) (D : va_G) (cA : ClassId) (m0 m1 m2 m3 m4 m5 m6 m7 m8 m9 yl ik tl sp rd : Nat) (K yh : Nat → Nat) (hyl : yl ≤ 4) : MV l D cA yX7_records wsX7_records rm_X7_records [.ref m0] [(m2, .inl (cA, 286, .inl (nF K)))] [(m0, .inr (7, [.ref m1, .ref m2, .ref m3, .int (nI yl), .ref m4, .int (nI ik), .ref m5, .ref m6, .int (nI tl), .int (nI sp), .int (nI rd), .ref m7, .ref m8, .ref m9])), (m3, .inl (cA, 1144, .inl (nF yh)))] (S := (Nat → Nat)) (fun (uu_ : (Nat → Nat)) => RecM yh K yl uu_) (fun (uu_ : (Nat → Nat)) => [(m0, .inr (7, [.ref m1, .ref m2, .ref m3, .int (nI (hisT yl + 1)), .ref m4, .int (nI ik), .ref m5, .ref m6, .int (nI tl), .int (nI sp), .int (nI rd), .ref m7, .ref m8, .ref m9])), (m3, .inl (cA, 1144, .inl (nF uu_)))]) := by
  refine ofWv (cc := cX7_records) (maxL := 2) (by decide) rfl (Nat.le_of_ble_eq_true rfl) ?_
  intro p e s m args below meth c Q A ls F hK hR hP hD hA hS hl RET
  obtain ⟨hx, hb, hml, hown, hts⟩ := id F
  have hl : lv_has ls 2 [(0, .ref m0)] := hl
  refine lv_aload_n hx hb dX7_records_0 rfl (lv_at hl 0 rfl) ?_
  refine va_get (D := D) (cl := vwCl) (ci := 7) (v := .int (nI yl)) (C := RX7) (T := TX7) (N := 14) hx hb hts inf_X7_records_X7 hown hK.1 hP 0 rfl rfl 3 (by decide) (hts _ (List.mem_of_getElem? (i := 1) rfl)) (fun _ h9 => h9) rfl dX7_records_1 ?_
  refine lv_iconst (v := nI 4) hx hb dX7_records_4 (by decide) ?_
  refine nv_icmp_ne (tgt := 49) hx hb dX7_records_5 (by decide) (by omega) (by decide) (fun c_5 => ?_) (fun c_5 => ?_)
  · refine lv_iconst (v := nI 0) hx hb dX7_records_49 (by decide) ?_
    refine lv_istore_n (lv' := [(1, .int (nI 0)), (0, .ref m0)]) hx hb dX7_records_50 rfl hl (by decide) rfl (fun ls hl => ?_)
    have LP_51 : ∀ (k_51 : Nat) (i2 : Nat) (h4 : Nat → Nat) (H : Heap) (locs : List Loc) (ls : Array Slot), 286 - i2 = k_51 → (i2 ≤ 286) → (∀ j, j < 286 * yl → h4 j = yh j) → (∀ j, j < i2 → h4 (286 * yl + j) = K j) → va_P D vwCl [(m0, .inr (7, [.ref m1, .ref m2, .ref m3, .int (nI yl), .ref m4, .int (nI ik), .ref m5, .ref m6, .int (nI tl), .int (nI sp), .int (nI rd), .ref m7, .ref m8, .ref m9])), (m3, .inl (cA, 1144, .inl (nF h4)))] H → va_D A [(m0, .inr (7, [.ref m1, .ref m2, .ref m3, .int (nI yl), .ref m4, .int (nI ik), .ref m5, .ref m6, .int (nI tl), .int (nI sp), .int (nI rd), .ref m7, .ref m8, .ref m9])), (m3, .inl (cA, 1144, .inl (nF h4)))] → va_S A s.heap H locs → lv_has ls 2 [(0, .ref m0), (1, .int (nI i2))] → W p l e rm_X7_records s m args below meth c H locs 0 0 Q (F0 m 51 ls []) := by
      refine sind (fun k_51 ih_51 => ?_)
      intro i2 h4 H locs ls hk_51 hi2_ hb4_ hk4_ hP hD hS hl
      refine lv_iload_n hx hb dX7_records_51 rfl (lv_at hl 1 rfl) ?_
      refine lv_sipush (v := nI 286) hx hb dX7_records_52 (by decide) ?_
      refine nv_icmp_ge (tgt := 85) hx hb dX7_records_55 (by decide) (by omega) (by decide) (fun c_55 => ?_) (fun c_55 => ?_)
      · refine lv_aload_n hx hb dX7_records_85 rfl (lv_at hl 0 rfl) ?_
        refine lv_dup hx hb dX7_records_86 rfl ?_
        refine va_get (D := D) (cl := vwCl) (ci := 7) (v := .int (nI yl)) (C := RX7) (T := TX7) (N := 14) hx hb hts inf_X7_records_X7 hown hK.1 hP 0 rfl rfl 3 (by decide) (hts _ (List.mem_of_getElem? (i := 1) rfl)) (fun _ h9 => h9) rfl dX7_records_87 ?_
        refine lv_iconst (v := nI 1) hx hb dX7_records_90 (by decide) ?_
        refine nv_iadd hx hb dX7_records_91 ?_
        refine va_put (D := D) (ci := 7) (v := .int (nI (yl + 1))) (ty := .int) (C := RX7) (T := TX7) (N := 14) hx hb hts inf_X7_records_X7 tyX7 tyX7_ok nmX7 hown hK.1 hP hD hS 0 rfl rfl 3 (by decide) (hts _ (List.mem_of_getElem? (i := 1) rfl)) (fun _ h9 => h9) rfl (by decide +kernel) rfl rfl (Nat.le_of_ble_eq_true rfl) dX7_records_92 (fun H locs hP hD hS => ?_)
        have hP : va_P D vwCl [(m0, .inr (7, [.ref m1, .ref m2, .ref m3, .int (nI (yl + 1)), .ref m4, .int (nI ik), .ref m5, .ref m6, .int (nI tl), .int (nI sp), .int (nI rd), .ref m7, .ref m8, .ref m9])), (m3, .inl (cA, 1144, .inl (nF h4)))] H := hP
        have hD : va_D A [(m0, .inr (7, [.ref m1, .ref m2, .ref m3, .int (nI (yl + 1)), .ref m4, .int (nI ik), .ref m5, .ref m6, .int (nI tl), .int (nI sp), .int (nI rd), .ref m7, .ref m8, .ref m9])), (m3, .inl (cA, 1144, .inl (nF h4)))] := hD
        exact RET _ _ _ _ h4 dX7_records_95 (⟨fun j hj => by rw [show hisT yl = yl from (by simp [hisT, c_5])] at hj; rw [hb4_ j hj, if_neg c_5], fun j hj => by rw [show hisT yl = yl from (by simp [hisT, c_5])]; exact hk4_ j (by omega)⟩) (by have e2 : hisT yl = yl := (by simp [hisT, c_5]); rw [e2]; exact hP) hS
      · refine lv_aload_n hx hb dX7_records_58 rfl (lv_at hl 0 rfl) ?_
        refine va_get (D := D) (cl := vwCl) (ci := 7) (v := .ref m3) (C := RX7) (T := TX7) (N := 14) hx hb hts inf_X7_records_X7 hown hK.1 hP 0 rfl rfl 2 (by decide) (hts _ (List.mem_of_getElem? (i := 2) rfl)) (fun _ h9 => h9) rfl dX7_records_59 ?_
        refine lv_sipush (v := nI 286) hx hb dX7_records_62 (by decide) ?_
        refine lv_aload_n hx hb dX7_records_65 rfl (lv_at hl 0 rfl) ?_
        refine va_get (D := D) (cl := vwCl) (ci := 7) (v := .int (nI yl)) (C := RX7) (T := TX7) (N := 14) hx hb hts inf_X7_records_X7 hown hK.1 hP 0 rfl rfl 3 (by decide) (hts _ (List.mem_of_getElem? (i := 1) rfl)) (fun _ h9 => h9) rfl dX7_records_66 ?_
        refine nv_imul hx hb dX7_records_69 ?_
        refine lv_iload_n hx hb dX7_records_70 rfl (lv_at hl 1 rfl) ?_
        refine nv_iadd hx hb dX7_records_71 ?_
        refine lv_aload_n hx hb dX7_records_72 rfl (lv_at hl 0 rfl) ?_
        refine va_get (D := D) (cl := vwCl) (ci := 7) (v := .ref m2) (C := RX7) (T := TX7) (N := 14) hx hb hts inf_X7_records_X7 hown hK.1 hP 0 rfl rfl 1 (by decide) (hts _ (List.mem_of_getElem? (i := 3) rfl)) (fun _ h9 => h9) rfl dX7_records_73 ?_
        refine lv_iload_n hx hb dX7_records_76 rfl (lv_at hl 1 rfl) ?_
        refine nv_iald (a := K) hx hb hK (hR.at hS) 0 rfl (by omega) (by decide) dX7_records_77 ?_
        refine nv_iast (a := h4) (v := (K i2)) hx hb hK hP hD hS 1 rfl (by omega) (by decide) dX7_records_78 (fun H locs hP hD hS => ?_)
        have hP : va_P D vwCl [(m0, .inr (7, [.ref m1, .ref m2, .ref m3, .int (nI yl), .ref m4, .int (nI ik), .ref m5, .ref m6, .int (nI tl), .int (nI sp), .int (nI rd), .ref m7, .ref m8, .ref m9])), (m3, .inl (cA, 1144, .inl (nF (updN h4 ((286 * yl) + i2) (K i2)))))] H := hP
        have hD : va_D A [(m0, .inr (7, [.ref m1, .ref m2, .ref m3, .int (nI yl), .ref m4, .int (nI ik), .ref m5, .ref m6, .int (nI tl), .int (nI sp), .int (nI rd), .ref m7, .ref m8, .ref m9])), (m3, .inl (cA, 1144, .inl (nF (updN h4 ((286 * yl) + i2) (K i2)))))] := hD
        refine lv_iinc (v := nI (i2 + 1)) (lv' := [(1, .int (nI (i2 + 1))), (0, .ref m0)]) hx hb dX7_records_79 hl (k := 1) rfl (nI_add _ _) (by decide) rfl (fun ls hl => ?_)
        refine lv_goto (tgt := 51) hx hb dX7_records_82 (by decide) ?_
        exact ih_51 _ (by omega) (i2 + 1) (updN h4 ((286 * yl) + i2) (K i2)) _ _ _ rfl (by omega) (fun j hj => (updN_n (by omega)).trans (hb4_ j hj)) (fun j hj => by by_cases e_ : j = i2; (rw [e_, updN_s]); exact (updN_n (by omega)).trans (hk4_ j (by omega))) hP hD hS (lv_sub hl [1, 0] rfl)
    exact LP_51 _ 0 yh _ _ _ rfl (by omega) (fun j hj => rfl) (fun j h_ => absurd h_ (Nat.not_lt_zero j)) hP hD hS (lv_sub hl [1, 0] rfl)
  · refine lv_iconst (v := nI 0) hx hb dX7_records_8 (by decide) ?_
    refine lv_istore_n (lv' := [(1, .int (nI 0)), (0, .ref m0)]) hx hb dX7_records_9 rfl hl (by decide) rfl (fun ls hl => ?_)
    have LP_10 : ∀ (k_10 : Nat) (i : Nat) (h3 : Nat → Nat) (H : Heap) (locs : List Loc) (ls : Array Slot), 858 - i = k_10 → (i ≤ 858) → (∀ j, h3 j = if j < i then yh (j + 286) else yh j) → va_P D vwCl [(m0, .inr (7, [.ref m1, .ref m2, .ref m3, .int (nI yl), .ref m4, .int (nI ik), .ref m5, .ref m6, .int (nI tl), .int (nI sp), .int (nI rd), .ref m7, .ref m8, .ref m9])), (m3, .inl (cA, 1144, .inl (nF h3)))] H → va_D A [(m0, .inr (7, [.ref m1, .ref m2, .ref m3, .int (nI yl), .ref m4, .int (nI ik), .ref m5, .ref m6, .int (nI tl), .int (nI sp), .int (nI rd), .ref m7, .ref m8, .ref m9])), (m3, .inl (cA, 1144, .inl (nF h3)))] → va_S A s.heap H locs → lv_has ls 2 [(0, .ref m0), (1, .int (nI i))] → W p l e rm_X7_records s m args below meth c H locs 0 0 Q (F0 m 10 ls []) := by
      refine sind (fun k_10 ih_10 => ?_)
      intro i h3 H locs ls hk_10 hi hs_ hP hD hS hl
      refine lv_iload_n hx hb dX7_records_10 rfl (lv_at hl 1 rfl) ?_
      refine lv_sipush (v := nI 858) hx hb dX7_records_11 (by decide) ?_
      refine nv_icmp_ge (tgt := 39) hx hb dX7_records_14 (by decide) (by omega) (by decide) (fun c_14 => ?_) (fun c_14 => ?_)
      · refine lv_aload_n hx hb dX7_records_39 rfl (lv_at hl 0 rfl) ?_
        refine lv_dup hx hb dX7_records_40 rfl ?_
        refine va_get (D := D) (cl := vwCl) (ci := 7) (v := .int (nI yl)) (C := RX7) (T := TX7) (N := 14) hx hb hts inf_X7_records_X7 hown hK.1 hP 0 rfl rfl 3 (by decide) (hts _ (List.mem_of_getElem? (i := 1) rfl)) (fun _ h9 => h9) rfl dX7_records_41 ?_
        refine lv_iconst (v := nI 1) hx hb dX7_records_44 (by decide) ?_
        refine nv_isub hx hb dX7_records_45 (by omega) ?_
        refine va_put (D := D) (ci := 7) (v := .int (nI (yl - 1))) (ty := .int) (C := RX7) (T := TX7) (N := 14) hx hb hts inf_X7_records_X7 tyX7 tyX7_ok nmX7 hown hK.1 hP hD hS 0 rfl rfl 3 (by decide) (hts _ (List.mem_of_getElem? (i := 1) rfl)) (fun _ h9 => h9) rfl (by decide +kernel) rfl rfl (Nat.le_of_ble_eq_true rfl) dX7_records_46 (fun H locs hP hD hS => ?_)
        have hP : va_P D vwCl [(m0, .inr (7, [.ref m1, .ref m2, .ref m3, .int (nI (yl - 1)), .ref m4, .int (nI ik), .ref m5, .ref m6, .int (nI tl), .int (nI sp), .int (nI rd), .ref m7, .ref m8, .ref m9])), (m3, .inl (cA, 1144, .inl (nF h3)))] H := hP
        have hD : va_D A [(m0, .inr (7, [.ref m1, .ref m2, .ref m3, .int (nI (yl - 1)), .ref m4, .int (nI ik), .ref m5, .ref m6, .int (nI tl), .int (nI sp), .int (nI rd), .ref m7, .ref m8, .ref m9])), (m3, .inl (cA, 1144, .inl (nF h3)))] := hD
        refine lv_iconst (v := nI 0) hx hb dX7_records_49 (by decide) ?_
        refine lv_istore_n (lv' := [(1, .int (nI 0)), (0, .ref m0)]) hx hb dX7_records_50 rfl hl (by decide) rfl (fun ls hl => ?_)
        have LP_51 : ∀ (k_51 : Nat) (i2 : Nat) (h4 : Nat → Nat) (H : Heap) (locs : List Loc) (ls : Array Slot), 286 - i2 = k_51 → (i2 ≤ 286) → (∀ j, j < 286 * (yl - 1) → h4 j = h3 j) → (∀ j, j < i2 → h4 (286 * (yl - 1) + j) = K j) → va_P D vwCl [(m0, .inr (7, [.ref m1, .ref m2, .ref m3, .int (nI (yl - 1)), .ref m4, .int (nI ik), .ref m5, .ref m6, .int (nI tl), .int (nI sp), .int (nI rd), .ref m7, .ref m8, .ref m9])), (m3, .inl (cA, 1144, .inl (nF h4)))] H → va_D A [(m0, .inr (7, [.ref m1, .ref m2, .ref m3, .int (nI (yl - 1)), .ref m4, .int (nI ik), .ref m5, .ref m6, .int (nI tl), .int (nI sp), .int (nI rd), .ref m7, .ref m8, .ref m9])), (m3, .inl (cA, 1144, .inl (nF h4)))] → va_S A s.heap H locs → lv_has ls 2 [(0, .ref m0), (1, .int (nI i2))] → W p l e rm_X7_records s m args below meth c H locs 0 0 Q (F0 m 51 ls []) := by
          refine sind (fun k_51 ih_51 => ?_)
          intro i2 h4 H locs ls hk_51 hi2_ hb4_ hk4_ hP hD hS hl
          refine lv_iload_n hx hb dX7_records_51 rfl (lv_at hl 1 rfl) ?_
          refine lv_sipush (v := nI 286) hx hb dX7_records_52 (by decide) ?_
          refine nv_icmp_ge (tgt := 85) hx hb dX7_records_55 (by decide) (by omega) (by decide) (fun c_55 => ?_) (fun c_55 => ?_)
          · refine lv_aload_n hx hb dX7_records_85 rfl (lv_at hl 0 rfl) ?_
            refine lv_dup hx hb dX7_records_86 rfl ?_
            refine va_get (D := D) (cl := vwCl) (ci := 7) (v := .int (nI (yl - 1))) (C := RX7) (T := TX7) (N := 14) hx hb hts inf_X7_records_X7 hown hK.1 hP 0 rfl rfl 3 (by decide) (hts _ (List.mem_of_getElem? (i := 1) rfl)) (fun _ h9 => h9) rfl dX7_records_87 ?_
            refine lv_iconst (v := nI 1) hx hb dX7_records_90 (by decide) ?_
            refine nv_iadd hx hb dX7_records_91 ?_
            refine va_put (D := D) (ci := 7) (v := .int (nI ((yl - 1) + 1))) (ty := .int) (C := RX7) (T := TX7) (N := 14) hx hb hts inf_X7_records_X7 tyX7 tyX7_ok nmX7 hown hK.1 hP hD hS 0 rfl rfl 3 (by decide) (hts _ (List.mem_of_getElem? (i := 1) rfl)) (fun _ h9 => h9) rfl (by decide +kernel) rfl rfl (Nat.le_of_ble_eq_true rfl) dX7_records_92 (fun H locs hP hD hS => ?_)
            have hP : va_P D vwCl [(m0, .inr (7, [.ref m1, .ref m2, .ref m3, .int (nI ((yl - 1) + 1)), .ref m4, .int (nI ik), .ref m5, .ref m6, .int (nI tl), .int (nI sp), .int (nI rd), .ref m7, .ref m8, .ref m9])), (m3, .inl (cA, 1144, .inl (nF h4)))] H := hP
            have hD : va_D A [(m0, .inr (7, [.ref m1, .ref m2, .ref m3, .int (nI ((yl - 1) + 1)), .ref m4, .int (nI ik), .ref m5, .ref m6, .int (nI tl), .int (nI sp), .int (nI rd), .ref m7, .ref m8, .ref m9])), (m3, .inl (cA, 1144, .inl (nF h4)))] := hD
            exact RET _ _ _ _ h4 dX7_records_95 (⟨fun j hj => by rw [show hisT yl = yl - 1 from (by simp [hisT, c_5])] at hj; rw [hb4_ j hj, hs_, if_pos (by omega), if_pos c_5], fun j hj => by rw [show hisT yl = yl - 1 from (by simp [hisT, c_5])]; exact hk4_ j (by omega)⟩) (by have e2 : hisT yl = yl - 1 := (by simp [hisT, c_5]); rw [e2]; exact hP) hS
          · refine lv_aload_n hx hb dX7_records_58 rfl (lv_at hl 0 rfl) ?_
            refine va_get (D := D) (cl := vwCl) (ci := 7) (v := .ref m3) (C := RX7) (T := TX7) (N := 14) hx hb hts inf_X7_records_X7 hown hK.1 hP 0 rfl rfl 2 (by decide) (hts _ (List.mem_of_getElem? (i := 2) rfl)) (fun _ h9 => h9) rfl dX7_records_59 ?_
            refine lv_sipush (v := nI 286) hx hb dX7_records_62 (by decide) ?_
            refine lv_aload_n hx hb dX7_records_65 rfl (lv_at hl 0 rfl) ?_
            refine va_get (D := D) (cl := vwCl) (ci := 7) (v := .int (nI (yl - 1))) (C := RX7) (T := TX7) (N := 14) hx hb hts inf_X7_records_X7 hown hK.1 hP 0 rfl rfl 3 (by decide) (hts _ (List.mem_of_getElem? (i := 1) rfl)) (fun _ h9 => h9) rfl dX7_records_66 ?_
            refine nv_imul hx hb dX7_records_69 ?_
            refine lv_iload_n hx hb dX7_records_70 rfl (lv_at hl 1 rfl) ?_
            refine nv_iadd hx hb dX7_records_71 ?_
            refine lv_aload_n hx hb dX7_records_72 rfl (lv_at hl 0 rfl) ?_
            refine va_get (D := D) (cl := vwCl) (ci := 7) (v := .ref m2) (C := RX7) (T := TX7) (N := 14) hx hb hts inf_X7_records_X7 hown hK.1 hP 0 rfl rfl 1 (by decide) (hts _ (List.mem_of_getElem? (i := 3) rfl)) (fun _ h9 => h9) rfl dX7_records_73 ?_
            refine lv_iload_n hx hb dX7_records_76 rfl (lv_at hl 1 rfl) ?_
            refine nv_iald (a := K) hx hb hK (hR.at hS) 0 rfl (by omega) (by decide) dX7_records_77 ?_
            refine nv_iast (a := h4) (v := (K i2)) hx hb hK hP hD hS 1 rfl (by omega) (by decide) dX7_records_78 (fun H locs hP hD hS => ?_)
            have hP : va_P D vwCl [(m0, .inr (7, [.ref m1, .ref m2, .ref m3, .int (nI (yl - 1)), .ref m4, .int (nI ik), .ref m5, .ref m6, .int (nI tl), .int (nI sp), .int (nI rd), .ref m7, .ref m8, .ref m9])), (m3, .inl (cA, 1144, .inl (nF (updN h4 ((286 * (yl - 1)) + i2) (K i2)))))] H := hP
            have hD : va_D A [(m0, .inr (7, [.ref m1, .ref m2, .ref m3, .int (nI (yl - 1)), .ref m4, .int (nI ik), .ref m5, .ref m6, .int (nI tl), .int (nI sp), .int (nI rd), .ref m7, .ref m8, .ref m9])), (m3, .inl (cA, 1144, .inl (nF (updN h4 ((286 * (yl - 1)) + i2) (K i2)))))] := hD
            refine lv_iinc (v := nI (i2 + 1)) (lv' := [(1, .int (nI (i2 + 1))), (0, .ref m0)]) hx hb dX7_records_79 hl (k := 1) rfl (nI_add _ _) (by decide) rfl (fun ls hl => ?_)
            refine lv_goto (tgt := 51) hx hb dX7_records_82 (by decide) ?_
            exact ih_51 _ (by omega) (i2 + 1) (updN h4 ((286 * (yl - 1)) + i2) (K i2)) _ _ _ rfl (by omega) (fun j hj => (updN_n (by omega)).trans (hb4_ j hj)) (fun j hj => by by_cases e_ : j = i2; (rw [e_, updN_s]); exact (updN_n (by omega)).trans (hk4_ j (by omega))) hP hD hS (lv_sub hl [1, 0] rfl)
        exact LP_51 _ 0 h3 _ _ _ rfl (by omega) (fun j hj => rfl) (fun j h_ => absurd h_ (Nat.not_lt_zero j)) hP hD hS (lv_sub hl [1, 0] rfl)
      · refine lv_aload_n hx hb dX7_records_17 rfl (lv_at hl 0 rfl) ?_
        refine va_get (D := D) (cl := vwCl) (ci := 7) (v := .ref m3) (C := RX7) (T := TX7) (N := 14) hx hb hts inf_X7_records_X7 hown hK.1 hP 0 rfl rfl 2 (by decide) (hts _ (List.mem_of_getElem? (i := 2) rfl)) (fun _ h9 => h9) rfl dX7_records_18 ?_
        refine lv_iload_n hx hb dX7_records_21 rfl (lv_at hl 1 rfl) ?_
        refine lv_aload_n hx hb dX7_records_22 rfl (lv_at hl 0 rfl) ?_
        refine va_get (D := D) (cl := vwCl) (ci := 7) (v := .ref m3) (C := RX7) (T := TX7) (N := 14) hx hb hts inf_X7_records_X7 hown hK.1 hP 0 rfl rfl 2 (by decide) (hts _ (List.mem_of_getElem? (i := 2) rfl)) (fun _ h9 => h9) rfl dX7_records_23 ?_
        refine lv_iload_n hx hb dX7_records_26 rfl (lv_at hl 1 rfl) ?_
        refine lv_sipush (v := nI 286) hx hb dX7_records_27 (by decide) ?_
        refine nv_iadd hx hb dX7_records_30 ?_
        refine nv_iald (a := h3) hx hb hK hP 1 rfl (by omega) (by decide) dX7_records_31 ?_
        refine nv_iast (a := h3) (v := (h3 (i + 286))) hx hb hK hP hD hS 1 rfl (by omega) (by decide) dX7_records_32 (fun H locs hP hD hS => ?_)
        have hP : va_P D vwCl [(m0, .inr (7, [.ref m1, .ref m2, .ref m3, .int (nI yl), .ref m4, .int (nI ik), .ref m5, .ref m6, .int (nI tl), .int (nI sp), .int (nI rd), .ref m7, .ref m8, .ref m9])), (m3, .inl (cA, 1144, .inl (nF (updN h3 i (h3 (i + 286))))))] H := hP
        have hD : va_D A [(m0, .inr (7, [.ref m1, .ref m2, .ref m3, .int (nI yl), .ref m4, .int (nI ik), .ref m5, .ref m6, .int (nI tl), .int (nI sp), .int (nI rd), .ref m7, .ref m8, .ref m9])), (m3, .inl (cA, 1144, .inl (nF (updN h3 i (h3 (i + 286))))))] := hD
        refine lv_iinc (v := nI (i + 1)) (lv' := [(1, .int (nI (i + 1))), (0, .ref m0)]) hx hb dX7_records_33 hl (k := 1) rfl (nI_add _ _) (by decide) rfl (fun ls hl => ?_)
        refine lv_goto (tgt := 10) hx hb dX7_records_36 (by decide) ?_
        exact ih_10 _ (by omega) (i + 1) (updN h3 i (h3 (i + 286))) _ _ _ rfl (by omega) (fun j => by simp only [updN]; by_cases e_ : j = i; (rw [if_pos e_, hs_, if_neg (by omega), if_pos (by omega), e_]); (rw [if_neg e_, hs_]; by_cases e2_ : j < i; (rw [if_pos e2_, if_pos (by omega)]); (rw [if_neg e2_, if_neg (by omega)]))) hP hD hS (lv_sub hl [1, 0] rfl)
    exact LP_10 _ 0 yh _ _ _ rfl (by omega) (fun j => by rw [if_neg (by omega)]) hP hD hS (lv_sub hl [1, 0] rfl)
abbrev rm_X7_ends : Room := { frames := 1, cells := 0, slots := 0, locals := 21 }
theorem ydv_X7_ends : yX7_ends.cls = RX7 ∧ yX7_ends.cls ≠ "java/lang/invoke/MethodHandle" ∧ yX7_ends.cls ≠ "java/lang/invoke/VarHandle" ∧ (parseMethodDescriptor yX7_ends.desc).map (fun d => d.parameters.length) = some 1 := by decide +kernel
set_option maxHeartbeats 4000000 in
set_option maxRecDepth 100000 in
theorem c_X7_ends (l : Launch) (D : va_G) (cA : ClassId) (m0 m1 m2 m3 m4 m5 m6 m7 m8 m9 yl ik tl sp rd : Nat) (M K yh : Nat → Nat) (x : Int32) (hyl : yl ≤ 4) : MI l D cA yX7_ends wsX7_ends rm_X7_ends [.ref m0, .int x] [(m2, .inl (cA, 286, .inl (nF K)))] [(m0, .inr (7, [.ref m1, .ref m2, .ref m3, .int (nI yl), .ref m4, .int (nI ik), .ref m5, .ref m6, .int (nI tl), .int (nI sp), .int (nI rd), .ref m7, .ref m8, .ref m9])), (m1, .inl (cA, 286, .inl (nF M))), (m3, .inl (cA, 1144, .inl (nF yh)))] (S := (Nat) × (Nat → Nat) × (Nat → Nat)) (fun rr_ (uu_ : (Nat) × (Nat → Nat) × (Nat → Nat)) => rr_ = x ∧ ((0 ≤ x → uu_.2.1 = M ∧ uu_.1 = hisT yl + 1 ∧ RecM yh K yl uu_.2.2) ∧ (¬ 0 ≤ x → (∀ j, j < 286 → uu_.2.1 j = K j) ∧ uu_.1 = yl ∧ uu_.2.2 = yh))) (fun (uu_ : (Nat) × (Nat → Nat) × (Nat → Nat)) => [(m0, .inr (7, [.ref m1, .ref m2, .ref m3, .int (nI uu_.1), .ref m4, .int (nI ik), .ref m5, .ref m6, .int (nI tl), .int (nI sp), .int (nI rd), .ref m7, .ref m8, .ref m9])), (m1, .inl (cA, 286, .inl (nF uu_.2.1))), (m3, .inl (cA, 1144, .inl (nF uu_.2.2)))]) := by
  refine ofWi (cc := cX7_ends) (maxL := 2) (rt := .int) (by decide) rfl (Nat.le_of_ble_eq_true rfl) ?_
  intro p e s m args below meth c Q A ls F hK hR hP hD hA hS hl RET
  obtain ⟨hx, hb, hml, hown, hts⟩ := id F
  have hl : lv_has ls 2 [(0, .ref m0), (1, .int x)] := hl
  refine lv_iload_n hx hb dX7_ends_0 rfl (lv_at hl 1 rfl) ?_
  refine lv_if_ge (tgt := 11) hx hb dX7_ends_1 (by decide) (fun c_1 => ?_) (fun c_1 => ?_)
  · refine lv_aload_n hx hb dX7_ends_11 rfl (lv_at hl 0 rfl) ?_
    refine call_v (q := (RX7, TX7, 14)) (As := []) (rest := []) F (c_X7_records l D cA m0 m1 m2 m3 m4 m5 m6 m7 m8 m9 yl ik tl sp rd K yh (by omega)) (cwV 0 hts gX7_ends_X7_records rfl rfl rfl ydv_X7_records ⟨Nat.le_of_ble_eq_true rfl, Nat.le_of_ble_eq_true rfl⟩) hK hR hP hD hA hS [0, 1, 3] [0, 2] rfl rfl rfl 1 7 rfl rfl (fun _ => rfl) rfl hl.1 rfl (Nat.le_of_ble_eq_true rfl) dX7_ends_12 ⟨Nat.zero_le _, Nat.zero_le _⟩ (fun u_12 H locs hw hP hD hS => ?_)
    obtain ⟨yh2_12, rfl⟩ : ∃ z, z = u_12 := ⟨_, rfl⟩
    have hP : va_P D vwCl [(m0, .inr (7, [.ref m1, .ref m2, .ref m3, .int (nI (hisT yl + 1)), .ref m4, .int (nI ik), .ref m5, .ref m6, .int (nI tl), .int (nI sp), .int (nI rd), .ref m7, .ref m8, .ref m9])), (m1, .inl (cA, 286, .inl (nF M))), (m3, .inl (cA, 1144, .inl (nF yh2_12)))] H := hP
    have hD : va_D A [(m0, .inr (7, [.ref m1, .ref m2, .ref m3, .int (nI (hisT yl + 1)), .ref m4, .int (nI ik), .ref m5, .ref m6, .int (nI tl), .int (nI sp), .int (nI rd), .ref m7, .ref m8, .ref m9])), (m1, .inl (cA, 286, .inl (nF M))), (m3, .inl (cA, 1144, .inl (nF yh2_12)))] := hD
    have hw_12 : RecM yh K yl yh2_12 := hw
    refine lv_iload_n hx hb dX7_ends_15 rfl (lv_at hl 1 rfl) ?_
    exact RET _ _ _ _ _ (hisT yl + 1, M, yh2_12) dX7_ends_16 rfl ⟨rfl, ⟨fun _ => ⟨rfl, rfl, hw_12⟩, fun h_ => absurd c_1 h_⟩⟩ hP hS
  · refine lv_aload_n hx hb dX7_ends_4 rfl (lv_at hl 0 rfl) ?_
    refine call_v (q := (RX7, TX7, 14)) (As := []) (rest := []) F (c_X7_comesBack l D cA m0 m1 m2 ([.ref m3, .int (nI yl), .ref m4, .int (nI ik), .ref m5, .ref m6, .int (nI tl), .int (nI sp), .int (nI rd), .ref m7, .ref m8, .ref m9]) M K) (cwV 0 hts gX7_ends_X7_comesBack rfl rfl rfl ydv_X7_comesBack ⟨Nat.le_of_ble_eq_true rfl, Nat.le_of_ble_eq_true rfl⟩) hK hR hP hD hA hS [1, 0, 2] [1] rfl rfl rfl 1 7 rfl rfl (fun _ => rfl) rfl hl.1 rfl (Nat.le_of_ble_eq_true rfl) dX7_ends_5 ⟨Nat.zero_le _, Nat.zero_le _⟩ (fun u_5 H locs hw hP hD hS => ?_)
    obtain ⟨M2_5, rfl⟩ : ∃ z, z = u_5 := ⟨_, rfl⟩
    have hP : va_P D vwCl [(m0, .inr (7, [.ref m1, .ref m2, .ref m3, .int (nI yl), .ref m4, .int (nI ik), .ref m5, .ref m6, .int (nI tl), .int (nI sp), .int (nI rd), .ref m7, .ref m8, .ref m9])), (m1, .inl (cA, 286, .inl (nF M2_5))), (m3, .inl (cA, 1144, .inl (nF yh)))] H := hP
    have hD : va_D A [(m0, .inr (7, [.ref m1, .ref m2, .ref m3, .int (nI yl), .ref m4, .int (nI ik), .ref m5, .ref m6, .int (nI tl), .int (nI sp), .int (nI rd), .ref m7, .ref m8, .ref m9])), (m1, .inl (cA, 286, .inl (nF M2_5))), (m3, .inl (cA, 1144, .inl (nF yh)))] := hD
    have hw_5 : ∀ j, j < 286 → M2_5 j = K j := hw
    refine lv_goto (tgt := 15) hx hb dX7_ends_8 (by decide) ?_
    refine lv_iload_n hx hb dX7_ends_15 rfl (lv_at hl 1 rfl) ?_
    exact RET _ _ _ _ _ (yl, M2_5, yh) dX7_ends_16 rfl ⟨rfl, ⟨fun h_ => absurd h_ c_1, fun _ => ⟨hw_5, rfl, rfl⟩⟩⟩ hP hS
abbrev rm_X7_lays : Room := { frames := 0, cells := 0, slots := 0, locals := 0 }
theorem ydv_X7_lays : yX7_lays.cls = RX7 ∧ yX7_lays.cls ≠ "java/lang/invoke/MethodHandle" ∧ yX7_lays.cls ≠ "java/lang/invoke/VarHandle" ∧ (parseMethodDescriptor yX7_lays.desc).map (fun d => d.parameters.length) = some 3 := by decide +kernel
theorem inf_X7_lays_X7 : ∀ w ∈ wsX70, w ∈ wsX7_lays := fun w h => List.mem_cons_of_mem _ (List.mem_append_right _ (h))
set_option maxHeartbeats 4000000 in
set_option maxRecDepth 100000 in
theorem c_X7_lays (l : Launch) (D : va_G) (cA : ClassId) (m0 m1 : Nat) (fs : List Value) (M : Nat → Nat) (g q d : Nat) (hg : g < 8) (hq : q < 32) : MV l D cA yX7_lays wsX7_lays rm_X7_lays [.ref m0, .int (nI g), .int (nI q), .int (nI d)] [(m0, .inr (7, .ref m1 :: fs))] [(m1, .inl (cA, 286, .inl (nF M)))] (S := Unit) (fun (uu_ : Unit) => True) (fun (uu_ : Unit) => [(m1, .inl (cA, 286, .inl (nF (updN M (30 + 32 * g + q) d))))]) := by
  refine ofWv (cc := cX7_lays) (maxL := 4) (by decide) rfl (Nat.le_of_ble_eq_true rfl) ?_
  intro p e s m args below meth c Q A ls F hK hR hP hD hA hS hl RET
  obtain ⟨hx, hb, hml, hown, hts⟩ := id F
  have hl : lv_has ls 4 [(0, .ref m0), (1, .int (nI g)), (2, .int (nI q)), (3, .int (nI d))] := hl
  refine lv_aload_n hx hb dX7_lays_0 rfl (lv_at hl 0 rfl) ?_
  refine va_get (D := D) (cl := vwCl) (ci := 7) (v := .ref m1) (C := RX7) (T := TX7) (N := 14) hx hb hts inf_X7_lays_X7 hown hK.1 (hR.at hS) 0 rfl rfl 0 (by decide) (hts _ (List.mem_of_getElem? (i := 1) rfl)) (fun _ h9 => h9) rfl dX7_lays_1 ?_
  refine lv_bipush (v := nI 30) hx hb dX7_lays_4 (by decide) ?_
  refine lv_bipush (v := nI 32) hx hb dX7_lays_6 (by decide) ?_
  refine lv_iload_n hx hb dX7_lays_8 rfl (lv_at hl 1 rfl) ?_
  refine nv_imul hx hb dX7_lays_9 ?_
  refine nv_iadd hx hb dX7_lays_10 ?_
  refine lv_iload_n hx hb dX7_lays_11 rfl (lv_at hl 2 rfl) ?_
  refine nv_iadd hx hb dX7_lays_12 ?_
  refine lv_iload_n hx hb dX7_lays_13 rfl (lv_at hl 3 rfl) ?_
  refine nv_iast (a := M) (v := d) hx hb hK hP hD hS 0 rfl (by omega) (by decide) dX7_lays_14 (fun H locs hP hD hS => ?_)
  have hP : va_P D vwCl [(m1, .inl (cA, 286, .inl (nF (updN M ((30 + (32 * g)) + q) d))))] H := hP
  have hD : va_D A [(m1, .inl (cA, 286, .inl (nF (updN M ((30 + (32 * g)) + q) d))))] := hD
  exact RET _ _ _ _ () dX7_lays_15 trivial hP hS
abbrev rm_X7_takes : Room := { frames := 1, cells := 0, slots := 0, locals := 23 }
theorem ydv_X7_takes : yX7_takes.cls = RX7 ∧ yX7_takes.cls ≠ "java/lang/invoke/MethodHandle" ∧ yX7_takes.cls ≠ "java/lang/invoke/VarHandle" ∧ (parseMethodDescriptor yX7_takes.desc).map (fun d => d.parameters.length) = some 1 := by decide +kernel
theorem inf_X7_takes_X7 : ∀ w ∈ wsX70, w ∈ wsX7_takes := fun w h => List.mem_cons_of_mem _ (List.mem_append_right _ (h))
set_option maxHeartbeats 4000000 in
set_option maxRecDepth 100000 in
theorem c_X7_takes (l : Launch) (D : va_G) (cA : ClassId) (m0 m1 : Nat) (fs : List Value) (M : Nat → Nat) (g : Nat) (hg : g < 8) : MV l D cA yX7_takes wsX7_takes rm_X7_takes [.ref m0, .int (nI g)] [(m0, .inr (7, .ref m1 :: fs))] [(m1, .inl (cA, 286, .inl (nF M)))] (S := (Nat → Nat)) (fun (uu_ : (Nat → Nat)) => ∀ j, uu_ j = if j = 22 + g ∨ (30 + 32 * g ≤ j ∧ j < 30 + 32 * g + 32) then 0 else M j) (fun (uu_ : (Nat → Nat)) => [(m1, .inl (cA, 286, .inl (nF uu_)))]) := by
  refine ofWv (cc := cX7_takes) (maxL := 3) (by decide) rfl (Nat.le_of_ble_eq_true rfl) ?_
  intro p e s m args below meth c Q A ls F hK hR hP hD hA hS hl RET
  obtain ⟨hx, hb, hml, hown, hts⟩ := id F
  have hl : lv_has ls 3 [(0, .ref m0), (1, .int (nI g))] := hl
  refine lv_aload_n hx hb dX7_takes_0 rfl (lv_at hl 0 rfl) ?_
  refine va_get (D := D) (cl := vwCl) (ci := 7) (v := .ref m1) (C := RX7) (T := TX7) (N := 14) hx hb hts inf_X7_takes_X7 hown hK.1 (hR.at hS) 0 rfl rfl 0 (by decide) (hts _ (List.mem_of_getElem? (i := 1) rfl)) (fun _ h9 => h9) rfl dX7_takes_1 ?_
  refine lv_bipush (v := nI 22) hx hb dX7_takes_4 (by decide) ?_
  refine lv_iload_n hx hb dX7_takes_6 rfl (lv_at hl 1 rfl) ?_
  refine nv_iadd hx hb dX7_takes_7 ?_
  refine lv_iconst (v := nI 0) hx hb dX7_takes_8 (by decide) ?_
  refine nv_iast (a := M) (v := 0) hx hb hK hP hD hS 0 rfl (by omega) (by decide) dX7_takes_9 (fun H locs hP hD hS => ?_)
  have hP : va_P D vwCl [(m1, .inl (cA, 286, .inl (nF (updN M (22 + g) 0))))] H := hP
  have hD : va_D A [(m1, .inl (cA, 286, .inl (nF (updN M (22 + g) 0))))] := hD
  refine lv_iconst (v := nI 0) hx hb dX7_takes_10 (by decide) ?_
  refine lv_istore_n (lv' := [(2, .int (nI 0)), (0, .ref m0), (1, .int (nI g))]) hx hb dX7_takes_11 rfl hl (by decide) rfl (fun ls hl => ?_)
  have LP_12 : ∀ (k_12 : Nat) (i : Nat) (M3 : Nat → Nat) (H : Heap) (locs : List Loc) (ls : Array Slot), 32 - i = k_12 → (i ≤ 32) → (∀ j, M3 j = if j = 22 + g ∨ (30 + 32 * g ≤ j ∧ j < 30 + 32 * g + i) then 0 else M j) → va_P D vwCl [(m1, .inl (cA, 286, .inl (nF M3)))] H → va_D A [(m1, .inl (cA, 286, .inl (nF M3)))] → va_S A s.heap H locs → lv_has ls 3 [(0, .ref m0), (1, .int (nI g)), (2, .int (nI i))] → W p l e rm_X7_takes s m args below meth c H locs 0 0 Q (F0 m 12 ls []) := by
    refine sind (fun k_12 ih_12 => ?_)
    intro i M3 H locs ls hk_12 hi hm3_ hP hD hS hl
    refine lv_iload_n hx hb dX7_takes_12 rfl (lv_at hl 2 rfl) ?_
    refine lv_bipush (v := nI 32) hx hb dX7_takes_13 (by decide) ?_
    refine nv_icmp_ge (tgt := 31) hx hb dX7_takes_15 (by decide) (by omega) (by decide) (fun c_15 => ?_) (fun c_15 => ?_)
    · exact RET _ _ _ _ M3 dX7_takes_31 (fun j => by rw [hm3_, show i = 32 by omega]) hP hS
    · refine lv_aload_n hx hb dX7_takes_18 rfl (lv_at hl 0 rfl) ?_
      refine lv_iload_n hx hb dX7_takes_19 rfl (lv_at hl 1 rfl) ?_
      refine lv_iload_n hx hb dX7_takes_20 rfl (lv_at hl 2 rfl) ?_
      refine lv_iconst (v := nI 0) hx hb dX7_takes_21 (by decide) ?_
      refine call_v (q := (RX7, TX7, 14)) (As := [.int (nI g), .int (nI i), .int (nI 0)]) (rest := []) F (c_X7_lays l D cA m0 m1 fs M3 g i 0 (by omega) (by omega)) (cwV 3 hts gX7_takes_X7_lays rfl rfl rfl ydv_X7_lays ⟨Nat.le_of_ble_eq_true rfl, Nat.le_of_ble_eq_true rfl⟩) hK hR hP hD hA hS [0, 1] [0] rfl rfl rfl 0 7 rfl rfl (fun _ => rfl) rfl hl.1 rfl (Nat.le_of_ble_eq_true rfl) dX7_takes_22 ⟨Nat.zero_le _, Nat.zero_le _⟩ (fun u_22 H locs hw hP hD hS => ?_)
      have hP : va_P D vwCl [(m1, .inl (cA, 286, .inl (nF (updN M3 (30 + 32 * g + i) 0))))] H := hP
      have hD : va_D A [(m1, .inl (cA, 286, .inl (nF (updN M3 (30 + 32 * g + i) 0))))] := hD
      refine lv_iinc (v := nI (i + 1)) (lv' := [(2, .int (nI (i + 1))), (0, .ref m0), (1, .int (nI g))]) hx hb dX7_takes_25 hl (k := 2) rfl (nI_add _ _) (by decide) rfl (fun ls hl => ?_)
      refine lv_goto (tgt := 12) hx hb dX7_takes_28 (by decide) ?_
      exact ih_12 _ (by omega) (i + 1) (updN M3 (30 + 32 * g + i) 0) _ _ _ rfl (by omega) (fun j => by simp only [updN]; by_cases e_ : j = 30 + 32 * g + i; (rw [if_pos e_, if_pos (by omega)]); (rw [if_neg e_, hm3_]; by_cases e2_ : j = 22 + g ∨ (30 + 32 * g ≤ j ∧ j < 30 + 32 * g + i); (rw [if_pos e2_, if_pos (by omega)]); (rw [if_neg e2_, if_neg (by omega)]))) hP hD hS (lv_sub hl [1, 2, 0] rfl)
  exact LP_12 _ 0 (updN M (22 + g) 0) _ _ _ rfl (by omega) (fun j => by simp only [updN]; by_cases e_ : j = 22 + g; (rw [if_pos e_, if_pos (Or.inl e_)]); (rw [if_neg e_, if_neg (by omega)])) hP hD hS (lv_sub hl [1, 2, 0] rfl)
set_option maxHeartbeats 4000000 in
set_option maxRecDepth 100000 in
theorem c_X7_dollAtR (l : Launch) (D : va_G) (cA : ClassId) (m0 m1 : Nat) (fs : List Value) (M : Nat → Nat) (g q : Nat) (hg : g < 8) (hq : q < 32) : RO l D cA yX7_dollAt wsX7_dollAt rm_X7_dollAt [.ref m0, .int (nI g), .int (nI q)] [(m0, .inr (7, .ref m1 :: fs)), (m1, .inl (cA, 286, .inl (nF M)))] (nI (M (30 + 32 * g + q))) := by
  refine ofWi (cc := cX7_dollAt) (maxL := 3) (rt := .int) (by decide) rfl (Nat.le_of_ble_eq_true rfl) ?_
  intro p e s m args below meth c Q A ls F hK hR hP hD hA hS hl RET
  obtain ⟨hx, hb, hml, hown, hts⟩ := id F
  have hl : lv_has ls 3 [(0, .ref m0), (1, .int (nI g)), (2, .int (nI q))] := hl
  refine lv_aload_n hx hb dX7_dollAt_0 rfl (lv_at hl 0 rfl) ?_
  refine va_get (D := D) (cl := vwCl) (ci := 7) (v := .ref m1) (C := RX7) (T := TX7) (N := 14) hx hb hts inf_X7_dollAt_X7 hown hK.1 (hR.at hS) 0 rfl rfl 0 (by decide) (hts _ (List.mem_of_getElem? (i := 1) rfl)) (fun _ h9 => h9) rfl dX7_dollAt_1 ?_
  refine lv_bipush (v := nI 30) hx hb dX7_dollAt_4 (by decide) ?_
  refine lv_bipush (v := nI 32) hx hb dX7_dollAt_6 (by decide) ?_
  refine lv_iload_n hx hb dX7_dollAt_8 rfl (lv_at hl 1 rfl) ?_
  refine nv_imul hx hb dX7_dollAt_9 ?_
  refine nv_iadd hx hb dX7_dollAt_10 ?_
  refine lv_iload_n hx hb dX7_dollAt_11 rfl (lv_at hl 2 rfl) ?_
  refine nv_iadd hx hb dX7_dollAt_12 ?_
  refine nv_iald (a := M) hx hb hK (hR.at hS) 1 rfl (by omega) (by decide) dX7_dollAt_13 ?_
  refine tope (y := nI (M (30 + 32 * g + q))) (by rfl) ?_
  exact RET _ _ _ _ _ () dX7_dollAt_14 rfl rfl hP hS
