/-! laid by a program: contracts of X7_counts, X7_allOf, X7_ownImages, X7_ways, X7_between -/
abbrev rm_X7_counts : Room := { frames := 2, cells := 0, slots := 0, locals := 46 }
theorem ydv_X7_counts : yX7_counts.cls = RX7 ∧ yX7_counts.cls ≠ "java/lang/invoke/MethodHandle" ∧ yX7_counts.cls ≠ "java/lang/invoke/VarHandle" ∧ (parseMethodDescriptor yX7_counts.desc).map (fun d => d.parameters.length) = some 1 := by decide +kernel
theorem inf_X7_counts_X7 : ∀ w ∈ wsX70, w ∈ wsX7_counts := fun w h => List.mem_cons_of_mem _ (List.mem_append_right _ (h))
set_option maxHeartbeats 4000000 in
set_option maxRecDepth 100000 in
theorem c_X7_counts (l : Launch) (D : va_G) (cA : ClassId) (m0 m1 m2 m3 m4 m5 m6 m7 m8 m9 yl ik tl sp rd : Nat) (a M en lo : Nat → Nat) (z : Nat) (hV : Vd a) (hM : Rl a M) (hz : 1 ≤ z ∧ z ≤ 6) : MV l D cA yX7_counts wsX7_counts rm_X7_counts [.ref m0, .int (nI z)] [(m0, .inr (7, [.ref m1, .ref m2, .ref m3, .int (nI yl), .ref m4, .int (nI ik), .ref m5, .ref m6, .int (nI tl), .int (nI sp), .int (nI rd), .ref m7, .ref m8, .ref m9])), (m1, .inl (cA, 286, .inl (nF M)))] [(m8, .inl (cA, 20, .inl (nF en))), (m9, .inl (cA, 20, .inl (nF lo)))] (S := (Nat → Nat) × (Nat → Nat)) (fun (uu_ : (Nat → Nat) × (Nat → Nat)) => ∀ j, j < 2 * a 1 → uu_.1 j = endN a (z - 1) j) (fun (uu_ : (Nat → Nat) × (Nat → Nat)) => [(m8, .inl (cA, 20, .inl (nF uu_.1))), (m9, .inl (cA, 20, .inl (nF uu_.2)))]) := by
  refine ofWv (cc := cX7_counts) (maxL := 6) (by decide) rfl (Nat.le_of_ble_eq_true rfl) ?_
  intro p e s m args below meth c Q A ls F hK hR hP hD hA hS hl RET
  obtain ⟨hx, hb, hml, hown, hts⟩ := id F
  have hl : lv_has ls 6 [(0, .ref m0), (1, .int (nI z))] := hl
  have hk_ := hV.k
  refine lv_iconst (v := nI 2) hx hb dX7_counts_0 (by decide) ?_
  refine lv_aload_n hx hb dX7_counts_1 rfl (lv_at hl 0 rfl) ?_
  refine va_get (D := D) (cl := vwCl) (ci := 7) (v := .ref m1) (C := RX7) (T := TX7) (N := 14) hx hb hts inf_X7_counts_X7 hown hK.1 (hR.at hS) 0 rfl rfl 0 (by decide) (hts _ (List.mem_of_getElem? (i := 1) rfl)) (fun _ h9 => h9) rfl dX7_counts_2 ?_
  refine lv_iconst (v := nI 1) hx hb dX7_counts_5 (by decide) ?_
  refine nv_iald (a := M) hx hb hK (hR.at hS) 1 rfl (by omega) (by decide) dX7_counts_6 ?_
  refine tope (y := nI (a 1)) (congrArg nI (hM.2.1)) ?_
  refine nv_imul hx hb dX7_counts_7 ?_
  refine lv_istore_n (lv' := [(2, .int (nI (2 * (a 1)))), (0, .ref m0), (1, .int (nI z))]) hx hb dX7_counts_8 rfl hl (by decide) rfl (fun ls hl => ?_)
  refine lv_iconst (v := nI 0) hx hb dX7_counts_9 (by decide) ?_
  refine lv_istore_n (lv' := [(3, .int (nI 0)), (2, .int (nI (2 * (a 1)))), (0, .ref m0), (1, .int (nI z))]) hx hb dX7_counts_10 rfl hl (by decide) rfl (fun ls hl => ?_)
  have LP_11 : ∀ (k_11 : Nat) (i : Nat) (en3 : Nat → Nat) (H : Heap) (locs : List Loc) (ls : Array Slot), 2 * a 1 - i = k_11 → (i ≤ 2 * a 1) → (∀ j, j < i → en3 j = 1) → va_P D vwCl [(m8, .inl (cA, 20, .inl (nF en3))), (m9, .inl (cA, 20, .inl (nF lo)))] H → va_D A [(m8, .inl (cA, 20, .inl (nF en3))), (m9, .inl (cA, 20, .inl (nF lo)))] → va_S A s.heap H locs → lv_has ls 6 [(0, .ref m0), (1, .int (nI z)), (2, .int (nI (2 * (a 1)))), (3, .int (nI i))] → W p l e rm_X7_counts s m args below meth c H locs 0 0 Q (F0 m 11 ls []) := by
    refine sind (fun k_11 ih_11 => ?_)
    intro i en3 H locs ls hk_11 hi he_ hP hD hS hl
    refine lv_iload_n hx hb dX7_counts_11 rfl (lv_at hl 3 rfl) ?_
    refine lv_iload_n hx hb dX7_counts_12 rfl (lv_at hl 2 rfl) ?_
    refine nv_icmp_ge (tgt := 29) hx hb dX7_counts_13 (by decide) (by omega) (by omega) (fun c_13 => ?_) (fun c_13 => ?_)
    · refine lv_iconst (v := nI 1) hx hb dX7_counts_29 (by decide) ?_
      refine lv_istore_n (lv' := [(3, .int (nI 1)), (0, .ref m0), (1, .int (nI z)), (2, .int (nI (2 * (a 1))))]) hx hb dX7_counts_30 rfl hl (by decide) rfl (fun ls hl => ?_)
      have LP_31 : ∀ (k_31 : Nat) (n : Nat) (en4 : Nat → Nat) (lo4 : Nat → Nat) (H : Heap) (locs : List Loc) (ls : Array Slot), z - n = k_31 → (1 ≤ n ∧ n ≤ z) → (∀ j, j < 2 * a 1 → en4 j = endN a (n - 1) j) → va_P D vwCl [(m8, .inl (cA, 20, .inl (nF en4))), (m9, .inl (cA, 20, .inl (nF lo4)))] H → va_D A [(m8, .inl (cA, 20, .inl (nF en4))), (m9, .inl (cA, 20, .inl (nF lo4)))] → va_S A s.heap H locs → lv_has ls 6 [(0, .ref m0), (1, .int (nI z)), (2, .int (nI (2 * (a 1)))), (3, .int (nI n))] → W p l e rm_X7_counts s m args below meth c H locs 0 0 Q (F0 m 31 ls []) := by
        refine sind (fun k_31 ih_31 => ?_)
        intro n en4 lo4 H locs ls hk_31 hn_ hen_ hP hD hS hl
        refine lv_iload_n hx hb dX7_counts_31 rfl (lv_at hl 3 rfl) ?_
        refine lv_iload_n hx hb dX7_counts_32 rfl (lv_at hl 1 rfl) ?_
        refine nv_icmp_ge (tgt := 141) hx hb dX7_counts_33 (by decide) (by omega) (by omega) (fun c_33 => ?_) (fun c_33 => ?_)
        · exact RET _ _ _ _ (en4, lo4) dX7_counts_141 (fun j hj => (hen_ j hj).trans (by rw [show n = z by omega])) hP hS
        · refine lv_iconst (v := nI 0) hx hb dX7_counts_36 (by decide) ?_
          refine lv_istore (lv' := [(4, .int (nI 0)), (0, .ref m0), (1, .int (nI z)), (2, .int (nI (2 * (a 1)))), (3, .int (nI n))]) hx hb dX7_counts_37 hl (by decide) rfl (fun ls hl => ?_)
          have LP_39 : ∀ (k_39 : Nat) (k : Nat) (lo5 : Nat → Nat) (H : Heap) (locs : List Loc) (ls : Array Slot), 2 * a 1 - k = k_39 → (k ≤ 2 * a 1) → (∀ j, j < k → lo5 j = sumN (fun q => if cl a q j then 0 else en4 q) (2 * a 1)) → va_P D vwCl [(m8, .inl (cA, 20, .inl (nF en4))), (m9, .inl (cA, 20, .inl (nF lo5)))] H → va_D A [(m8, .inl (cA, 20, .inl (nF en4))), (m9, .inl (cA, 20, .inl (nF lo5)))] → va_S A s.heap H locs → lv_has ls 6 [(0, .ref m0), (1, .int (nI z)), (2, .int (nI (2 * (a 1)))), (3, .int (nI n)), (4, .int (nI k))] → W p l e rm_X7_counts s m args below meth c H locs 0 0 Q (F0 m 39 ls []) := by
            refine sind (fun k_39 ih_39 => ?_)
            intro k lo5 H locs ls hk_39 hk2_ hlo_ hP hD hS hl
            refine lv_iload hx hb dX7_counts_39 (lv_at hl 4 rfl) ?_
            refine lv_iload_n hx hb dX7_counts_41 rfl (lv_at hl 2 rfl) ?_
            refine nv_icmp_ge (tgt := 106) hx hb dX7_counts_42 (by decide) (by omega) (by omega) (fun c_42 => ?_) (fun c_42 => ?_)
            · refine lv_iconst (v := nI 0) hx hb dX7_counts_106 (by decide) ?_
              refine lv_istore (lv' := [(4, .int (nI 0)), (0, .ref m0), (1, .int (nI z)), (2, .int (nI (2 * (a 1)))), (3, .int (nI n))]) hx hb dX7_counts_107 hl (by decide) rfl (fun ls hl => ?_)
              have LP_109 : ∀ (k_109 : Nat) (i3 : Nat) (en5 : Nat → Nat) (H : Heap) (locs : List Loc) (ls : Array Slot), 2 * a 1 - i3 = k_109 → (i3 ≤ 2 * a 1) → (∀ j, j < i3 → en5 j = lo5 j) → va_P D vwCl [(m8, .inl (cA, 20, .inl (nF en5))), (m9, .inl (cA, 20, .inl (nF lo5)))] H → va_D A [(m8, .inl (cA, 20, .inl (nF en5))), (m9, .inl (cA, 20, .inl (nF lo5)))] → va_S A s.heap H locs → lv_has ls 6 [(0, .ref m0), (1, .int (nI z)), (2, .int (nI (2 * (a 1)))), (3, .int (nI n)), (4, .int (nI i3))] → W p l e rm_X7_counts s m args below meth c H locs 0 0 Q (F0 m 109 ls []) := by
                refine sind (fun k_109 ih_109 => ?_)
                intro i3 en5 H locs ls hk_109 hi3_ hcp_ hP hD hS hl
                refine lv_iload hx hb dX7_counts_109 (lv_at hl 4 rfl) ?_
                refine lv_iload_n hx hb dX7_counts_111 rfl (lv_at hl 2 rfl) ?_
                refine nv_icmp_ge (tgt := 135) hx hb dX7_counts_112 (by decide) (by omega) (by omega) (fun c_112 => ?_) (fun c_112 => ?_)
                · refine lv_iinc (v := nI (n + 1)) (lv' := [(3, .int (nI (n + 1))), (0, .ref m0), (1, .int (nI z)), (2, .int (nI (2 * (a 1)))), (4, .int (nI i3))]) hx hb dX7_counts_135 hl (k := 3) rfl (nI_add _ _) (by decide) rfl (fun ls hl => ?_)
                  refine lv_goto (tgt := 31) hx hb dX7_counts_138 (by decide) ?_
                  exact ih_31 _ (by omega) (n + 1) en5 lo5 _ _ _ rfl (by omega) (fun j hj => by rw [hcp_ j (by omega), hlo_ j (by omega), show n + 1 - 1 = (n - 1) + 1 by omega, end_step a _ j hj]; exact sumN_congr (fun q hq_ => by rw [hen_ q hq_])) hP hD hS (lv_sub hl [1, 2, 3, 0] rfl)
                · refine lv_aload_n hx hb dX7_counts_115 rfl (lv_at hl 0 rfl) ?_
                  refine va_get (D := D) (cl := vwCl) (ci := 7) (v := .ref m8) (C := RX7) (T := TX7) (N := 14) hx hb hts inf_X7_counts_X7 hown hK.1 (hR.at hS) 0 rfl rfl 12 (by decide) (hts _ (List.mem_of_getElem? (i := 2) rfl)) (fun _ h9 => h9) rfl dX7_counts_116 ?_
                  refine lv_iload hx hb dX7_counts_119 (lv_at hl 4 rfl) ?_
                  refine lv_aload_n hx hb dX7_counts_121 rfl (lv_at hl 0 rfl) ?_
                  refine va_get (D := D) (cl := vwCl) (ci := 7) (v := .ref m9) (C := RX7) (T := TX7) (N := 14) hx hb hts inf_X7_counts_X7 hown hK.1 (hR.at hS) 0 rfl rfl 13 (by decide) (hts _ (List.mem_of_getElem? (i := 3) rfl)) (fun _ h9 => h9) rfl dX7_counts_122 ?_
                  refine lv_iload hx hb dX7_counts_125 (lv_at hl 4 rfl) ?_
                  refine nv_iald (a := lo5) hx hb hK hP 1 rfl (by omega) (by decide) dX7_counts_127 ?_
                  refine nv_iast (a := en5) (v := (lo5 i3)) hx hb hK hP hD hS 0 rfl (by omega) (by decide) dX7_counts_128 (fun H locs hP hD hS => ?_)
                  have hP : va_P D vwCl [(m8, .inl (cA, 20, .inl (nF (updN en5 i3 (lo5 i3))))), (m9, .inl (cA, 20, .inl (nF lo5)))] H := hP
                  have hD : va_D A [(m8, .inl (cA, 20, .inl (nF (updN en5 i3 (lo5 i3))))), (m9, .inl (cA, 20, .inl (nF lo5)))] := hD
                  refine lv_iinc (v := nI (i3 + 1)) (lv' := [(4, .int (nI (i3 + 1))), (0, .ref m0), (1, .int (nI z)), (2, .int (nI (2 * (a 1)))), (3, .int (nI n))]) hx hb dX7_counts_129 hl (k := 4) rfl (nI_add _ _) (by decide) rfl (fun ls hl => ?_)
                  refine lv_goto (tgt := 109) hx hb dX7_counts_132 (by decide) ?_
                  exact ih_109 _ (by omega) (i3 + 1) (updN en5 i3 (lo5 i3)) _ _ _ rfl (by omega) (fun j hj => by simp only [updN]; split; (rename_i e_; rw [e_]); exact hcp_ j (by omega)) hP hD hS (lv_sub hl [1, 2, 3, 4, 0] rfl)
              exact LP_109 _ 0 en4 _ _ _ rfl (by omega) (fun j h_ => absurd h_ (Nat.not_lt_zero j)) hP hD hS (lv_sub hl [1, 2, 3, 4, 0] rfl)
            · refine lv_aload_n hx hb dX7_counts_45 rfl (lv_at hl 0 rfl) ?_
              refine va_get (D := D) (cl := vwCl) (ci := 7) (v := .ref m9) (C := RX7) (T := TX7) (N := 14) hx hb hts inf_X7_counts_X7 hown hK.1 (hR.at hS) 0 rfl rfl 13 (by decide) (hts _ (List.mem_of_getElem? (i := 3) rfl)) (fun _ h9 => h9) rfl dX7_counts_46 ?_
              refine lv_iload hx hb dX7_counts_49 (lv_at hl 4 rfl) ?_
              refine lv_iconst (v := nI 0) hx hb dX7_counts_51 (by decide) ?_
              refine nv_iast (a := lo5) (v := 0) hx hb hK hP hD hS 1 rfl (by omega) (by decide) dX7_counts_52 (fun H locs hP hD hS => ?_)
              have hP : va_P D vwCl [(m8, .inl (cA, 20, .inl (nF en4))), (m9, .inl (cA, 20, .inl (nF (updN lo5 k 0))))] H := hP
              have hD : va_D A [(m8, .inl (cA, 20, .inl (nF en4))), (m9, .inl (cA, 20, .inl (nF (updN lo5 k 0))))] := hD
              refine lv_iconst (v := nI 0) hx hb dX7_counts_53 (by decide) ?_
              refine lv_istore (lv' := [(5, .int (nI 0)), (0, .ref m0), (1, .int (nI z)), (2, .int (nI (2 * (a 1)))), (3, .int (nI n)), (4, .int (nI k))]) hx hb dX7_counts_54 hl (by decide) rfl (fun ls hl => ?_)
              have LP_56 : ∀ (k_56 : Nat) (i2 : Nat) (lo6 : Nat → Nat) (H : Heap) (locs : List Loc) (ls : Array Slot), 2 * a 1 - i2 = k_56 → (i2 ≤ 2 * a 1) → (lo6 k = sumN (fun q => if cl a q k then 0 else en4 q) i2) → (∀ j, j ≠ k → lo6 j = lo5 j) → va_P D vwCl [(m8, .inl (cA, 20, .inl (nF en4))), (m9, .inl (cA, 20, .inl (nF lo6)))] H → va_D A [(m8, .inl (cA, 20, .inl (nF en4))), (m9, .inl (cA, 20, .inl (nF lo6)))] → va_S A s.heap H locs → lv_has ls 6 [(0, .ref m0), (1, .int (nI z)), (2, .int (nI (2 * (a 1)))), (3, .int (nI n)), (4, .int (nI k)), (5, .int (nI i2))] → W p l e rm_X7_counts s m args below meth c H locs 0 0 Q (F0 m 56 ls []) := by
                refine sind (fun k_56 ih_56 => ?_)
                intro i2 lo6 H locs ls hk_56 hi2_ hin_ hout_ hP hD hS hl
                refine lv_iload hx hb dX7_counts_56 (lv_at hl 5 rfl) ?_
                refine lv_iload_n hx hb dX7_counts_58 rfl (lv_at hl 2 rfl) ?_
                refine nv_icmp_ge (tgt := 100) hx hb dX7_counts_59 (by decide) (by omega) (by omega) (fun c_59 => ?_) (fun c_59 => ?_)
                · refine lv_iinc (v := nI (k + 1)) (lv' := [(4, .int (nI (k + 1))), (0, .ref m0), (1, .int (nI z)), (2, .int (nI (2 * (a 1)))), (3, .int (nI n)), (5, .int (nI i2))]) hx hb dX7_counts_100 hl (k := 4) rfl (nI_add _ _) (by decide) rfl (fun ls hl => ?_)
                  refine lv_goto (tgt := 39) hx hb dX7_counts_103 (by decide) ?_
                  exact ih_39 _ (by omega) (k + 1) lo6 _ _ _ rfl (by omega) (fun j hj => by by_cases e_ : j = k; (rw [e_, hin_, show i2 = 2 * a 1 by omega]); (rw [hout_ j e_]; exact hlo_ j (by omega))) hP hD hS (lv_sub hl [1, 2, 3, 4, 0] rfl)
                · refine lv_aload_n hx hb dX7_counts_62 rfl (lv_at hl 0 rfl) ?_
                  refine va_get (D := D) (cl := vwCl) (ci := 7) (v := .ref m9) (C := RX7) (T := TX7) (N := 14) hx hb hts inf_X7_counts_X7 hown hK.1 (hR.at hS) 0 rfl rfl 13 (by decide) (hts _ (List.mem_of_getElem? (i := 3) rfl)) (fun _ h9 => h9) rfl dX7_counts_63 ?_
                  refine lv_iload hx hb dX7_counts_66 (lv_at hl 4 rfl) ?_
                  refine lv_dup2_11 hx hb dX7_counts_68 rfl rfl ?_
                  refine nv_iald (a := lo6) hx hb hK hP 1 rfl (by omega) (by decide) dX7_counts_69 ?_
                  refine lv_aload_n hx hb dX7_counts_70 rfl (lv_at hl 0 rfl) ?_
                  refine lv_iload hx hb dX7_counts_71 (lv_at hl 5 rfl) ?_
                  refine lv_iload hx hb dX7_counts_73 (lv_at hl 4 rfl) ?_
                  refine call_r (q := (RX7, TX7, 14)) (As := [.int (nI i2), .int (nI k)]) (rest := [.int (nI (lo6 k)), .int (nI k), .ref m9]) F (c_X7_clash l D cA m0 m1 ([.ref m2, .ref m3, .int (nI yl), .ref m4, .int (nI ik), .ref m5, .ref m6, .int (nI tl), .int (nI sp), .int (nI rd), .ref m7, .ref m8, .ref m9]) a M i2 k (hV) (hM) (by omega) (by omega)) (cwV 2 hts gX7_counts_X7_clash rfl rfl rfl ydv_X7_clash ⟨Nat.le_of_ble_eq_true rfl, Nat.le_of_ble_eq_true rfl⟩) hK hR hP hD hA hS [0, 1] rfl rfl 0 7 rfl rfl rfl hl.1 rfl (Nat.le_of_ble_eq_true rfl) dX7_counts_75 ⟨Nat.zero_le _, Nat.zero_le _⟩ (fun H locs hP hS => ?_)
                  refine bv_if_eq (tgt := 85) hx hb dX7_counts_78 (by decide) (fun c_78 => ?_) (fun c_78 => ?_)
                  · refine lv_aload_n hx hb dX7_counts_85 rfl (lv_at hl 0 rfl) ?_
                    refine va_get (D := D) (cl := vwCl) (ci := 7) (v := .ref m8) (C := RX7) (T := TX7) (N := 14) hx hb hts inf_X7_counts_X7 hown hK.1 (hR.at hS) 0 rfl rfl 12 (by decide) (hts _ (List.mem_of_getElem? (i := 2) rfl)) (fun _ h9 => h9) rfl dX7_counts_86 ?_
                    refine lv_iload hx hb dX7_counts_89 (lv_at hl 5 rfl) ?_
                    refine nv_iald (a := en4) hx hb hK hP 0 rfl (by omega) (by decide) dX7_counts_91 ?_
                    refine nv_iadd hx hb dX7_counts_92 ?_
                    refine nv_iast (a := lo6) (v := ((lo6 k) + (en4 i2))) hx hb hK hP hD hS 1 rfl (by omega) (by decide) dX7_counts_93 (fun H locs hP hD hS => ?_)
                    have hP : va_P D vwCl [(m8, .inl (cA, 20, .inl (nF en4))), (m9, .inl (cA, 20, .inl (nF (updN lo6 k ((lo6 k) + (en4 i2))))))] H := hP
                    have hD : va_D A [(m8, .inl (cA, 20, .inl (nF en4))), (m9, .inl (cA, 20, .inl (nF (updN lo6 k ((lo6 k) + (en4 i2))))))] := hD
                    refine lv_iinc (v := nI (i2 + 1)) (lv' := [(5, .int (nI (i2 + 1))), (0, .ref m0), (1, .int (nI z)), (2, .int (nI (2 * (a 1)))), (3, .int (nI n)), (4, .int (nI k))]) hx hb dX7_counts_94 hl (k := 5) rfl (nI_add _ _) (by decide) rfl (fun ls hl => ?_)
                    refine lv_goto (tgt := 56) hx hb dX7_counts_97 (by decide) ?_
                    exact ih_56 _ (by omega) (i2 + 1) (updN lo6 k ((lo6 k) + (en4 i2))) _ _ _ rfl (by omega) (by rw [updN_s, hin_]; first | (simp only [sumN, c_78, if_true]; done) | (simp only [sumN, c_78]; rfl)) (fun j hj => (updN_n hj).trans (hout_ j hj)) hP hD hS (lv_sub hl [1, 2, 3, 4, 5, 0] rfl)
                  · refine lv_iconst (v := nI 0) hx hb dX7_counts_81 (by decide) ?_
                    refine lv_goto (tgt := 92) hx hb dX7_counts_82 (by decide) ?_
                    refine nv_iadd hx hb dX7_counts_92 ?_
                    refine nv_iast (a := lo6) (v := ((lo6 k) + 0)) hx hb hK hP hD hS 1 rfl (by omega) (by decide) dX7_counts_93 (fun H locs hP hD hS => ?_)
                    have hP : va_P D vwCl [(m8, .inl (cA, 20, .inl (nF en4))), (m9, .inl (cA, 20, .inl (nF (updN lo6 k ((lo6 k) + 0)))))] H := hP
                    have hD : va_D A [(m8, .inl (cA, 20, .inl (nF en4))), (m9, .inl (cA, 20, .inl (nF (updN lo6 k ((lo6 k) + 0)))))] := hD
                    refine lv_iinc (v := nI (i2 + 1)) (lv' := [(5, .int (nI (i2 + 1))), (0, .ref m0), (1, .int (nI z)), (2, .int (nI (2 * (a 1)))), (3, .int (nI n)), (4, .int (nI k))]) hx hb dX7_counts_94 hl (k := 5) rfl (nI_add _ _) (by decide) rfl (fun ls hl => ?_)
                    refine lv_goto (tgt := 56) hx hb dX7_counts_97 (by decide) ?_
                    exact ih_56 _ (by omega) (i2 + 1) (updN lo6 k ((lo6 k) + 0)) _ _ _ rfl (by omega) (by rw [updN_s, hin_]; first | (simp only [sumN, c_78, if_true]; done) | (simp only [sumN, c_78]; rfl)) (fun j hj => (updN_n hj).trans (hout_ j hj)) hP hD hS (lv_sub hl [1, 2, 3, 4, 5, 0] rfl)
              exact LP_56 _ 0 (updN lo5 k 0) _ _ _ rfl (by omega) (by rw [updN_s]; rfl) (fun j hj => updN_n hj) hP hD hS (lv_sub hl [1, 2, 3, 4, 5, 0] rfl)
          exact LP_39 _ 0 lo4 _ _ _ rfl (by omega) (fun j h_ => absurd h_ (Nat.not_lt_zero j)) hP hD hS (lv_sub hl [1, 2, 3, 4, 0] rfl)
      exact LP_31 _ 1 en3 lo _ _ _ rfl (by omega) (fun j hj => he_ j (by omega)) hP hD hS (lv_sub hl [1, 2, 3, 0] rfl)
    · refine lv_aload_n hx hb dX7_counts_16 rfl (lv_at hl 0 rfl) ?_
      refine va_get (D := D) (cl := vwCl) (ci := 7) (v := .ref m8) (C := RX7) (T := TX7) (N := 14) hx hb hts inf_X7_counts_X7 hown hK.1 (hR.at hS) 0 rfl rfl 12 (by decide) (hts _ (List.mem_of_getElem? (i := 2) rfl)) (fun _ h9 => h9) rfl dX7_counts_17 ?_
      refine lv_iload_n hx hb dX7_counts_20 rfl (lv_at hl 3 rfl) ?_
      refine lv_iconst (v := nI 1) hx hb dX7_counts_21 (by decide) ?_
      refine nv_iast (a := en3) (v := 1) hx hb hK hP hD hS 0 rfl (by omega) (by decide) dX7_counts_22 (fun H locs hP hD hS => ?_)
      have hP : va_P D vwCl [(m8, .inl (cA, 20, .inl (nF (updN en3 i 1)))), (m9, .inl (cA, 20, .inl (nF lo)))] H := hP
      have hD : va_D A [(m8, .inl (cA, 20, .inl (nF (updN en3 i 1)))), (m9, .inl (cA, 20, .inl (nF lo)))] := hD
      refine lv_iinc (v := nI (i + 1)) (lv' := [(3, .int (nI (i + 1))), (0, .ref m0), (1, .int (nI z)), (2, .int (nI (2 * (a 1))))]) hx hb dX7_counts_23 hl (k := 3) rfl (nI_add _ _) (by decide) rfl (fun ls hl => ?_)
      refine lv_goto (tgt := 11) hx hb dX7_counts_26 (by decide) ?_
      exact ih_11 _ (by omega) (i + 1) (updN en3 i 1) _ _ _ rfl (by omega) (fun j hj => by simp only [updN]; split; rfl; exact he_ j (by omega)) hP hD hS (lv_sub hl [1, 2, 3, 0] rfl)
  exact LP_11 _ 0 en _ _ _ rfl (by omega) (fun j h_ => absurd h_ (Nat.not_lt_zero j)) hP hD hS (lv_sub hl [2, 3, 1, 0] rfl)
abbrev rm_X7_allOf : Room := { frames := 3, cells := 0, slots := 0, locals := 71 }
theorem ydv_X7_allOf : yX7_allOf.cls = RX7 ∧ yX7_allOf.cls ≠ "java/lang/invoke/MethodHandle" ∧ yX7_allOf.cls ≠ "java/lang/invoke/VarHandle" ∧ (parseMethodDescriptor yX7_allOf.desc).map (fun d => d.parameters.length) = some 1 := by decide +kernel
theorem inf_X7_allOf_X7 : ∀ w ∈ wsX70, w ∈ wsX7_allOf := fun w h => List.mem_cons_of_mem _ (List.mem_append_right _ (h))
set_option maxHeartbeats 4000000 in
set_option maxRecDepth 100000 in
theorem c_X7_allOf (l : Launch) (D : va_G) (cA : ClassId) (m0 m1 m2 m3 m4 m5 m6 m7 m8 m9 yl ik tl sp rd : Nat) (a M en lo : Nat → Nat) (z : Nat) (hV : Vd a) (hM : Rl a M) (hz : 1 ≤ z ∧ z ≤ 6) : MI l D cA yX7_allOf wsX7_allOf rm_X7_allOf [.ref m0, .int (nI z)] [(m0, .inr (7, [.ref m1, .ref m2, .ref m3, .int (nI yl), .ref m4, .int (nI ik), .ref m5, .ref m6, .int (nI tl), .int (nI sp), .int (nI rd), .ref m7, .ref m8, .ref m9])), (m1, .inl (cA, 286, .inl (nF M)))] [(m8, .inl (cA, 20, .inl (nF en))), (m9, .inl (cA, 20, .inl (nF lo)))] (S := (Nat → Nat) × (Nat → Nat)) (fun rr_ (uu_ : (Nat → Nat) × (Nat → Nat)) => rr_ = nI (allN a z)) (fun (uu_ : (Nat → Nat) × (Nat → Nat)) => [(m8, .inl (cA, 20, .inl (nF uu_.1))), (m9, .inl (cA, 20, .inl (nF uu_.2)))]) := by
  refine ofWi (cc := cX7_allOf) (maxL := 4) (rt := .int) (by decide) rfl (Nat.le_of_ble_eq_true rfl) ?_
  intro p e s m args below meth c Q A ls F hK hR hP hD hA hS hl RET
  obtain ⟨hx, hb, hml, hown, hts⟩ := id F
  have hl : lv_has ls 4 [(0, .ref m0), (1, .int (nI z))] := hl
  have hk_ := hV.k
  refine lv_aload_n hx hb dX7_allOf_0 rfl (lv_at hl 0 rfl) ?_
  refine lv_iload_n hx hb dX7_allOf_1 rfl (lv_at hl 1 rfl) ?_
  refine call_v (q := (RX7, TX7, 14)) (As := [.int (nI z)]) (rest := []) F (c_X7_counts l D cA m0 m1 m2 m3 m4 m5 m6 m7 m8 m9 yl ik tl sp rd a M en lo z (hV) (hM) (by omega)) (cwV 1 hts gX7_allOf_X7_counts rfl rfl rfl ydv_X7_counts ⟨Nat.le_of_ble_eq_true rfl, Nat.le_of_ble_eq_true rfl⟩) hK hR hP hD hA hS [0, 1, 2, 3] [0, 1] rfl rfl rfl 0 7 rfl rfl (fun _ => rfl) rfl hl.1 rfl (Nat.le_of_ble_eq_true rfl) dX7_allOf_2 ⟨Nat.zero_le _, Nat.zero_le _⟩ (fun u_2 H locs hw hP hD hS => ?_)
  obtain ⟨en2_2, lo2_2⟩ := u_2
  have hP : va_P D vwCl [(m8, .inl (cA, 20, .inl (nF en2_2))), (m9, .inl (cA, 20, .inl (nF lo2_2)))] H := hP
  have hD : va_D A [(m8, .inl (cA, 20, .inl (nF en2_2))), (m9, .inl (cA, 20, .inl (nF lo2_2)))] := hD
  have hw_2 : ∀ j, j < 2 * a 1 → en2_2 j = endN a (z - 1) j := hw
  refine lv_iconst (v := nI 0) hx hb dX7_allOf_5 (by decide) ?_
  refine lv_istore_n (lv' := [(2, .int (nI 0)), (0, .ref m0), (1, .int (nI z))]) hx hb dX7_allOf_6 rfl hl (by decide) rfl (fun ls hl => ?_)
  refine lv_iconst (v := nI 0) hx hb dX7_allOf_7 (by decide) ?_
  refine lv_istore_n (lv' := [(3, .int (nI 0)), (2, .int (nI 0)), (0, .ref m0), (1, .int (nI z))]) hx hb dX7_allOf_8 rfl hl (by decide) rfl (fun ls hl => ?_)
  have LP_9 : ∀ (k_9 : Nat) (i : Nat) (x : Nat) (H : Heap) (locs : List Loc) (ls : Array Slot), 2 * a 1 - i = k_9 → (i ≤ 2 * a 1) → (x = sumN (fun j => endN a (z - 1) j) i) → va_P D vwCl [(m8, .inl (cA, 20, .inl (nF en2_2))), (m9, .inl (cA, 20, .inl (nF lo2_2)))] H → va_D A [(m8, .inl (cA, 20, .inl (nF en2_2))), (m9, .inl (cA, 20, .inl (nF lo2_2)))] → va_S A s.heap H locs → lv_has ls 4 [(0, .ref m0), (1, .int (nI z)), (2, .int (nI x)), (3, .int (nI i))] → W p l e rm_X7_allOf s m args below meth c H locs 0 0 Q (F0 m 9 ls []) := by
    refine sind (fun k_9 ih_9 => ?_)
    intro i x H locs ls hk_9 hi hx_ hP hD hS hl
    refine lv_iload_n hx hb dX7_allOf_9 rfl (lv_at hl 3 rfl) ?_
    refine lv_iconst (v := nI 2) hx hb dX7_allOf_10 (by decide) ?_
    refine lv_aload_n hx hb dX7_allOf_11 rfl (lv_at hl 0 rfl) ?_
    refine va_get (D := D) (cl := vwCl) (ci := 7) (v := .ref m1) (C := RX7) (T := TX7) (N := 14) hx hb hts inf_X7_allOf_X7 hown hK.1 (hR.at hS) 0 rfl rfl 0 (by decide) (hts _ (List.mem_of_getElem? (i := 1) rfl)) (fun _ h9 => h9) rfl dX7_allOf_12 ?_
    refine lv_iconst (v := nI 1) hx hb dX7_allOf_15 (by decide) ?_
    refine nv_iald (a := M) hx hb hK (hR.at hS) 1 rfl (by omega) (by decide) dX7_allOf_16 ?_
    refine tope (y := nI (a 1)) (congrArg nI (hM.2.1)) ?_
    refine nv_imul hx hb dX7_allOf_17 ?_
    refine nv_icmp_ge (tgt := 36) hx hb dX7_allOf_18 (by decide) (by omega) (by omega) (fun c_18 => ?_) (fun c_18 => ?_)
    · refine lv_iload_n hx hb dX7_allOf_36 rfl (lv_at hl 2 rfl) ?_
      refine tope (y := nI (allN a z)) (by rw [hx_, show i = 2 * a 1 by omega]; rfl) ?_
      exact RET _ _ _ _ _ (en2_2, lo2_2) dX7_allOf_37 rfl rfl hP hS
    · refine lv_iload_n hx hb dX7_allOf_21 rfl (lv_at hl 2 rfl) ?_
      refine lv_aload_n hx hb dX7_allOf_22 rfl (lv_at hl 0 rfl) ?_
      refine va_get (D := D) (cl := vwCl) (ci := 7) (v := .ref m8) (C := RX7) (T := TX7) (N := 14) hx hb hts inf_X7_allOf_X7 hown hK.1 (hR.at hS) 0 rfl rfl 12 (by decide) (hts _ (List.mem_of_getElem? (i := 2) rfl)) (fun _ h9 => h9) rfl dX7_allOf_23 ?_
      refine lv_iload_n hx hb dX7_allOf_26 rfl (lv_at hl 3 rfl) ?_
      refine nv_iald (a := en2_2) hx hb hK hP 0 rfl (by omega) (by decide) dX7_allOf_27 ?_
      refine nv_iadd hx hb dX7_allOf_28 ?_
      refine lv_istore_n (lv' := [(2, .int (nI (x + (en2_2 i)))), (0, .ref m0), (1, .int (nI z)), (3, .int (nI i))]) hx hb dX7_allOf_29 rfl hl (by decide) rfl (fun ls hl => ?_)
      refine lv_iinc (v := nI (i + 1)) (lv' := [(3, .int (nI (i + 1))), (2, .int (nI (x + (en2_2 i)))), (0, .ref m0), (1, .int (nI z))]) hx hb dX7_allOf_30 hl (k := 3) rfl (nI_add _ _) (by decide) rfl (fun ls hl => ?_)
      refine lv_goto (tgt := 9) hx hb dX7_allOf_33 (by decide) ?_
      exact ih_9 _ (by omega) (i + 1) (x + (en2_2 i)) _ _ _ rfl (by omega) (by rw [hx_, hw_2 i c_18]; rfl) hP hD hS (lv_sub hl [2, 3, 1, 0] rfl)
  exact LP_9 _ 0 0 _ _ _ rfl (by omega) (rfl) hP hD hS (lv_sub hl [2, 3, 1, 0] rfl)
abbrev rm_X7_ownImages : Room := { frames := 3, cells := 0, slots := 0, locals := 71 }
theorem ydv_X7_ownImages : yX7_ownImages.cls = RX7 ∧ yX7_ownImages.cls ≠ "java/lang/invoke/MethodHandle" ∧ yX7_ownImages.cls ≠ "java/lang/invoke/VarHandle" ∧ (parseMethodDescriptor yX7_ownImages.desc).map (fun d => d.parameters.length) = some 1 := by decide +kernel
theorem inf_X7_ownImages_X7 : ∀ w ∈ wsX70, w ∈ wsX7_ownImages := fun w h => List.mem_cons_of_mem _ (List.mem_append_right _ (h))
set_option maxHeartbeats 4000000 in
set_option maxRecDepth 100000 in
theorem c_X7_ownImages (l : Launch) (D : va_G) (cA : ClassId) (m0 m1 m2 m3 m4 m5 m6 m7 m8 m9 yl ik tl sp rd : Nat) (a M en lo : Nat → Nat) (z : Nat) (hV : Vd a) (hM : Rl a M) (hz : 1 ≤ z ∧ z ≤ 6) : MI l D cA yX7_ownImages wsX7_ownImages rm_X7_ownImages [.ref m0, .int (nI z)] [(m0, .inr (7, [.ref m1, .ref m2, .ref m3, .int (nI yl), .ref m4, .int (nI ik), .ref m5, .ref m6, .int (nI tl), .int (nI sp), .int (nI rd), .ref m7, .ref m8, .ref m9])), (m1, .inl (cA, 286, .inl (nF M)))] [(m8, .inl (cA, 20, .inl (nF en))), (m9, .inl (cA, 20, .inl (nF lo)))] (S := (Nat → Nat) × (Nat → Nat)) (fun rr_ (uu_ : (Nat → Nat) × (Nat → Nat)) => rr_ = nI (ownN a z)) (fun (uu_ : (Nat → Nat) × (Nat → Nat)) => [(m8, .inl (cA, 20, .inl (nF uu_.1))), (m9, .inl (cA, 20, .inl (nF uu_.2)))]) := by
  refine ofWi (cc := cX7_ownImages) (maxL := 4) (rt := .int) (by decide) rfl (Nat.le_of_ble_eq_true rfl) ?_
  intro p e s m args below meth c Q A ls F hK hR hP hD hA hS hl RET
  obtain ⟨hx, hb, hml, hown, hts⟩ := id F
  have hl : lv_has ls 4 [(0, .ref m0), (1, .int (nI z))] := hl
  have hk_ := hV.k
  refine lv_iload_n hx hb dX7_ownImages_0 rfl (lv_at hl 1 rfl) ?_
  refine lv_iconst (v := nI 2) hx hb dX7_ownImages_1 (by decide) ?_
  refine nv_irem hx hb dX7_ownImages_2 (by omega) (by decide) (by decide) ?_
  refine lv_iconst (v := nI 1) hx hb dX7_ownImages_3 (by decide) ?_
  refine nv_icmp_ne (tgt := 9) hx hb dX7_ownImages_4 (by decide) (by omega) (by decide) (fun c_4 => ?_) (fun c_4 => ?_)
  · refine lv_aload_n hx hb dX7_ownImages_9 rfl (lv_at hl 0 rfl) ?_
    refine lv_iload_n hx hb dX7_ownImages_10 rfl (lv_at hl 1 rfl) ?_
    refine lv_iconst (v := nI 2) hx hb dX7_ownImages_11 (by decide) ?_
    refine nv_idiv hx hb dX7_ownImages_12 (by omega) (by decide) (by decide) ?_
    refine call_v (q := (RX7, TX7, 14)) (As := [.int (nI (z / 2))]) (rest := []) F (c_X7_counts l D cA m0 m1 m2 m3 m4 m5 m6 m7 m8 m9 yl ik tl sp rd a M en lo (z / 2) (hV) (hM) (by omega)) (cwV 1 hts gX7_ownImages_X7_counts rfl rfl rfl ydv_X7_counts ⟨Nat.le_of_ble_eq_true rfl, Nat.le_of_ble_eq_true rfl⟩) hK hR hP hD hA hS [0, 1, 2, 3] [0, 1] rfl rfl rfl 0 7 rfl rfl (fun _ => rfl) rfl hl.1 rfl (Nat.le_of_ble_eq_true rfl) dX7_ownImages_13 ⟨Nat.zero_le _, Nat.zero_le _⟩ (fun u_13 H locs hw hP hD hS => ?_)
    obtain ⟨en2_13, lo2_13⟩ := u_13
    have hP : va_P D vwCl [(m8, .inl (cA, 20, .inl (nF en2_13))), (m9, .inl (cA, 20, .inl (nF lo2_13)))] H := hP
    have hD : va_D A [(m8, .inl (cA, 20, .inl (nF en2_13))), (m9, .inl (cA, 20, .inl (nF lo2_13)))] := hD
    have hw_13 : ∀ j, j < 2 * a 1 → en2_13 j = endN a ((z / 2) - 1) j := hw
    refine lv_iconst (v := nI 0) hx hb dX7_ownImages_16 (by decide) ?_
    refine lv_istore_n (lv' := [(2, .int (nI 0)), (0, .ref m0), (1, .int (nI z))]) hx hb dX7_ownImages_17 rfl hl (by decide) rfl (fun ls hl => ?_)
    refine lv_iconst (v := nI 0) hx hb dX7_ownImages_18 (by decide) ?_
    refine lv_istore_n (lv' := [(3, .int (nI 0)), (2, .int (nI 0)), (0, .ref m0), (1, .int (nI z))]) hx hb dX7_ownImages_19 rfl hl (by decide) rfl (fun ls hl => ?_)
    have LP_20 : ∀ (k_20 : Nat) (i : Nat) (x : Nat) (H : Heap) (locs : List Loc) (ls : Array Slot), 2 * a 1 - i = k_20 → (i ≤ 2 * a 1) → (x = sumN (fun j => if cl a j (mir j) then 0 else endN a (z / 2 - 1) j) i) → va_P D vwCl [(m8, .inl (cA, 20, .inl (nF en2_13))), (m9, .inl (cA, 20, .inl (nF lo2_13)))] H → va_D A [(m8, .inl (cA, 20, .inl (nF en2_13))), (m9, .inl (cA, 20, .inl (nF lo2_13)))] → va_S A s.heap H locs → lv_has ls 4 [(0, .ref m0), (1, .int (nI z)), (2, .int (nI x)), (3, .int (nI i))] → W p l e rm_X7_ownImages s m args below meth c H locs 0 0 Q (F0 m 20 ls []) := by
      refine sind (fun k_20 ih_20 => ?_)
      intro i x H locs ls hk_20 hi hx_ hP hD hS hl
      refine lv_iload_n hx hb dX7_ownImages_20 rfl (lv_at hl 3 rfl) ?_
      refine lv_iconst (v := nI 2) hx hb dX7_ownImages_21 (by decide) ?_
      refine lv_aload_n hx hb dX7_ownImages_22 rfl (lv_at hl 0 rfl) ?_
      refine va_get (D := D) (cl := vwCl) (ci := 7) (v := .ref m1) (C := RX7) (T := TX7) (N := 14) hx hb hts inf_X7_ownImages_X7 hown hK.1 (hR.at hS) 0 rfl rfl 0 (by decide) (hts _ (List.mem_of_getElem? (i := 1) rfl)) (fun _ h9 => h9) rfl dX7_ownImages_23 ?_
      refine lv_iconst (v := nI 1) hx hb dX7_ownImages_26 (by decide) ?_
      refine nv_iald (a := M) hx hb hK (hR.at hS) 1 rfl (by omega) (by decide) dX7_ownImages_27 ?_
      refine tope (y := nI (a 1)) (congrArg nI (hM.2.1)) ?_
      refine nv_imul hx hb dX7_ownImages_28 ?_
      refine nv_icmp_ge (tgt := 62) hx hb dX7_ownImages_29 (by decide) (by omega) (by omega) (fun c_29 => ?_) (fun c_29 => ?_)
      · refine lv_iload_n hx hb dX7_ownImages_62 rfl (lv_at hl 2 rfl) ?_
        refine tope (y := nI (ownN a z)) (by rw [hx_, show i = 2 * a 1 by omega, ownN, if_neg c_4]; exact congrArg nI (sumN_congr (fun j hj => (own_one a j hj).symm))) ?_
        exact RET _ _ _ _ _ (en2_13, lo2_13) dX7_ownImages_63 rfl rfl hP hS
      · have hml_ := mir_lt (d := i) (by omega)
        refine lv_iload_n hx hb dX7_ownImages_32 rfl (lv_at hl 2 rfl) ?_
        refine lv_aload_n hx hb dX7_ownImages_33 rfl (lv_at hl 0 rfl) ?_
        refine lv_iload_n hx hb dX7_ownImages_34 rfl (lv_at hl 3 rfl) ?_
        refine lv_iload_n hx hb dX7_ownImages_35 rfl (lv_at hl 3 rfl) ?_
        refine lv_iconst (v := nI 1) hx hb dX7_ownImages_36 (by decide) ?_
        refine nv_xor1 hx hb dX7_ownImages_37 ?_
        refine call_r (q := (RX7, TX7, 14)) (As := [.int (nI i), .int (nI (mir i))]) (rest := [.int (nI x)]) F (c_X7_clash l D cA m0 m1 ([.ref m2, .ref m3, .int (nI yl), .ref m4, .int (nI ik), .ref m5, .ref m6, .int (nI tl), .int (nI sp), .int (nI rd), .ref m7, .ref m8, .ref m9]) a M i (mir i) (hV) (hM) (by omega) (by omega)) (cwV 2 hts gX7_ownImages_X7_clash rfl rfl rfl ydv_X7_clash ⟨Nat.le_of_ble_eq_true rfl, Nat.le_of_ble_eq_true rfl⟩) hK hR hP hD hA hS [0, 1] rfl rfl 0 7 rfl rfl rfl hl.1 rfl (Nat.le_of_ble_eq_true rfl) dX7_ownImages_38 ⟨Nat.zero_le _, Nat.zero_le _⟩ (fun H locs hP hS => ?_)
        refine bv_if_eq (tgt := 48) hx hb dX7_ownImages_41 (by decide) (fun c_41 => ?_) (fun c_41 => ?_)
        · refine lv_aload_n hx hb dX7_ownImages_48 rfl (lv_at hl 0 rfl) ?_
          refine va_get (D := D) (cl := vwCl) (ci := 7) (v := .ref m8) (C := RX7) (T := TX7) (N := 14) hx hb hts inf_X7_ownImages_X7 hown hK.1 (hR.at hS) 0 rfl rfl 12 (by decide) (hts _ (List.mem_of_getElem? (i := 2) rfl)) (fun _ h9 => h9) rfl dX7_ownImages_49 ?_
          refine lv_iload_n hx hb dX7_ownImages_52 rfl (lv_at hl 3 rfl) ?_
          refine nv_iald (a := en2_13) hx hb hK hP 0 rfl (by omega) (by decide) dX7_ownImages_53 ?_
          refine nv_iadd hx hb dX7_ownImages_54 ?_
          refine lv_istore_n (lv' := [(2, .int (nI (x + (en2_13 i)))), (0, .ref m0), (1, .int (nI z)), (3, .int (nI i))]) hx hb dX7_ownImages_55 rfl hl (by decide) rfl (fun ls hl => ?_)
          refine lv_iinc (v := nI (i + 1)) (lv' := [(3, .int (nI (i + 1))), (2, .int (nI (x + (en2_13 i)))), (0, .ref m0), (1, .int (nI z))]) hx hb dX7_ownImages_56 hl (k := 3) rfl (nI_add _ _) (by decide) rfl (fun ls hl => ?_)
          refine lv_goto (tgt := 20) hx hb dX7_ownImages_59 (by decide) ?_
          exact ih_20 _ (by omega) (i + 1) (x + (en2_13 i)) _ _ _ rfl (by omega) (by rw [hx_]; first | (simp only [sumN, c_41, if_true]; done) | (simp only [sumN, c_41]; rw [hw_13 i c_29]; rfl)) hP hD hS (lv_sub hl [2, 3, 1, 0] rfl)
        · refine lv_iconst (v := nI 0) hx hb dX7_ownImages_44 (by decide) ?_
          refine lv_goto (tgt := 54) hx hb dX7_ownImages_45 (by decide) ?_
          refine nv_iadd hx hb dX7_ownImages_54 ?_
          refine lv_istore_n (lv' := [(2, .int (nI (x + 0))), (0, .ref m0), (1, .int (nI z)), (3, .int (nI i))]) hx hb dX7_ownImages_55 rfl hl (by decide) rfl (fun ls hl => ?_)
          refine lv_iinc (v := nI (i + 1)) (lv' := [(3, .int (nI (i + 1))), (2, .int (nI (x + 0))), (0, .ref m0), (1, .int (nI z))]) hx hb dX7_ownImages_56 hl (k := 3) rfl (nI_add _ _) (by decide) rfl (fun ls hl => ?_)
          refine lv_goto (tgt := 20) hx hb dX7_ownImages_59 (by decide) ?_
          exact ih_20 _ (by omega) (i + 1) (x + 0) _ _ _ rfl (by omega) (by rw [hx_]; first | (simp only [sumN, c_41, if_true]; done) | (simp only [sumN, c_41]; rw [hw_13 i c_29]; rfl)) hP hD hS (lv_sub hl [2, 3, 1, 0] rfl)
    exact LP_20 _ 0 0 _ _ _ rfl (by omega) (rfl) hP hD hS (lv_sub hl [2, 3, 1, 0] rfl)
  · refine lv_iconst (v := nI 0) hx hb dX7_ownImages_7 (by decide) ?_
    refine tope (y := nI (ownN a z)) (by simp [ownN, c_4]) ?_
    exact RET _ _ _ _ _ (en, lo) dX7_ownImages_8 rfl rfl hP hS
abbrev rm_X7_ways : Room := { frames := 4, cells := 0, slots := 0, locals := 94 }
theorem ydv_X7_ways : yX7_ways.cls = RX7 ∧ yX7_ways.cls ≠ "java/lang/invoke/MethodHandle" ∧ yX7_ways.cls ≠ "java/lang/invoke/VarHandle" ∧ (parseMethodDescriptor yX7_ways.desc).map (fun d => d.parameters.length) = some 2 := by decide +kernel
set_option maxHeartbeats 4000000 in
set_option maxRecDepth 100000 in
theorem c_X7_ways (l : Launch) (D : va_G) (cA : ClassId) (m0 m1 m2 m3 m4 m5 m6 m7 m8 m9 yl ik tl sp rd : Nat) (a M en lo : Nat → Nat) (x w : Int32) (hV : Vd a) (hM : Rl a M) : MI l D cA yX7_ways wsX7_ways rm_X7_ways [.ref m0, .int x, .int w] [(m0, .inr (7, [.ref m1, .ref m2, .ref m3, .int (nI yl), .ref m4, .int (nI ik), .ref m5, .ref m6, .int (nI tl), .int (nI sp), .int (nI rd), .ref m7, .ref m8, .ref m9])), (m1, .inl (cA, 286, .inl (nF M)))] [(m8, .inl (cA, 20, .inl (nF en))), (m9, .inl (cA, 20, .inl (nF lo)))] (S := (Nat → Nat) × (Nat → Nat)) (fun rr_ (uu_ : (Nat → Nat) × (Nat → Nat)) => rr_ = sWays a x w) (fun (uu_ : (Nat → Nat) × (Nat → Nat)) => [(m8, .inl (cA, 20, .inl (nF uu_.1))), (m9, .inl (cA, 20, .inl (nF uu_.2)))]) := by
  refine ofWi (cc := cX7_ways) (maxL := 3) (rt := .int) (by decide) rfl (Nat.le_of_ble_eq_true rfl) ?_
  intro p e s m args below meth c Q A ls F hK hR hP hD hA hS hl RET
  obtain ⟨hx, hb, hml, hown, hts⟩ := id F
  have hl : lv_has ls 3 [(0, .ref m0), (1, .int x), (2, .int w)] := hl
  refine lv_iload_n hx hb dX7_ways_0 rfl (lv_at hl 1 rfl) ?_
  refine lv_i2l (v := (x).toInt64) hx hb dX7_ways_1 rfl ?_
  refine lv_lconst (v := lN 1) hx hb dX7_ways_2 rfl ?_
  refine lv_ldc2 (v := lN 6) hx hb hown (hts _ (List.mem_of_getElem? (i := 1) rfl)) dX7_ways_3 ?_
  refine call_s (As := [.long ((x).toInt64), .long (lN 1), .long (lN 6)]) (rest := []) F (c_X7_in l D cA ((x).toInt64) (lN 1) (lN 6)) (va_cwS 3 hts gX7_ways_X7_in rfl rfl rfl yd_X7_in ⟨Nat.le_of_ble_eq_true rfl, Nat.le_of_ble_eq_true rfl⟩) hK hR hP hD hA hS rfl hl.1 rfl (Nat.le_of_ble_eq_true rfl) dX7_ways_6 ⟨Nat.zero_le _, Nat.zero_le _⟩ (fun H locs hP hS => ?_)
  refine tope (y := bI (inR x 1 6)) (congrArg bI (inL_R (by decide) (by decide))) ?_
  refine bv_if_eq (tgt := 24) hx hb dX7_ways_9 (by decide) (fun c_9 => ?_) (fun c_9 => ?_)
  · refine lv_bipush (v := -2) hx hb dX7_ways_24 (by decide) ?_
    refine tope (y := sWays a x w) (by simp [sWays, c_9]) ?_
    exact RET _ _ _ _ _ (en, lo) dX7_ways_26 rfl rfl hP hS
  · obtain ⟨k, hk1, hk2, rfl⟩ := inR_t (by decide) c_9
    have hcx : cN (nI k) = k := cN_nI (by omega)
    refine lv_iload_n hx hb dX7_ways_12 rfl (lv_at hl 2 rfl) ?_
    refine lv_i2l (v := (w).toInt64) hx hb dX7_ways_13 rfl ?_
    refine lv_lconst (v := lN 0) hx hb dX7_ways_14 rfl ?_
    refine lv_ldc2 (v := lN 2) hx hb hown (hts _ (List.mem_of_getElem? (i := 2) rfl)) dX7_ways_15 ?_
    refine call_s (As := [.long ((w).toInt64), .long (lN 0), .long (lN 2)]) (rest := []) F (c_X7_in l D cA ((w).toInt64) (lN 0) (lN 2)) (va_cwS 3 hts gX7_ways_X7_in rfl rfl rfl yd_X7_in ⟨Nat.le_of_ble_eq_true rfl, Nat.le_of_ble_eq_true rfl⟩) hK hR hP hD hA hS rfl hl.1 rfl (Nat.le_of_ble_eq_true rfl) dX7_ways_18 ⟨Nat.zero_le _, Nat.zero_le _⟩ (fun H locs hP hS => ?_)
    refine tope (y := bI (isB w 3)) (congrArg bI (inL_B (n := 2) (by decide))) ?_
    refine bv_if_ne (tgt := 27) hx hb dX7_ways_21 (by decide) (fun c_21 => ?_) (fun c_21 => ?_)
    · obtain ⟨t, ht_, rfl⟩ := isB_t (by decide) c_21
      have hcw : cN (nI t) = t := cN_nI (by omega)
      have hsw_ : swN (nI t) = t := swN_nI (by omega)
      refine lv_iload_n hx hb dX7_ways_27 rfl (lv_at hl 2 rfl) ?_
      refine nv_if_ne (tgt := 39) hx hb dX7_ways_28 (by decide) (by omega) (fun c_28 => ?_) (fun c_28 => ?_)
      · refine lv_iload_n hx hb dX7_ways_39 rfl (lv_at hl 2 rfl) ?_
        refine lv_iconst (v := nI 1) hx hb dX7_ways_40 (by decide) ?_
        refine nv_icmp_ne (tgt := 52) hx hb dX7_ways_41 (by decide) (by omega) (by decide) (fun c_41 => ?_) (fun c_41 => ?_)
        · refine lv_aload_n hx hb dX7_ways_52 rfl (lv_at hl 0 rfl) ?_
          refine lv_iload_n hx hb dX7_ways_53 rfl (lv_at hl 1 rfl) ?_
          refine call_i (q := (RX7, TX7, 14)) (As := [.int (nI k)]) (rest := []) F (c_X7_allOf l D cA m0 m1 m2 m3 m4 m5 m6 m7 m8 m9 yl ik tl sp rd a M en lo k (hV) (hM) (by omega)) (cwV 1 hts gX7_ways_X7_allOf rfl rfl rfl ydv_X7_allOf ⟨Nat.le_of_ble_eq_true rfl, Nat.le_of_ble_eq_true rfl⟩) hK hR hP hD hA hS [0, 1, 2, 3] [0, 1] rfl rfl rfl 0 7 rfl rfl (fun _ => rfl) rfl hl.1 rfl (Nat.le_of_ble_eq_true rfl) dX7_ways_54 ⟨Nat.zero_le _, Nat.zero_le _⟩ (fun r_54 u_54 H locs hw hP hD hS => ?_)
          obtain ⟨en2_54, lo2_54⟩ := u_54
          have hP : va_P D vwCl [(m8, .inl (cA, 20, .inl (nF en2_54))), (m9, .inl (cA, 20, .inl (nF lo2_54)))] H := hP
          have hD : va_D A [(m8, .inl (cA, 20, .inl (nF en2_54))), (m9, .inl (cA, 20, .inl (nF lo2_54)))] := hD
          obtain rfl : r_54 = nI (allN a k) := hw
          refine lv_aload_n hx hb dX7_ways_57 rfl (lv_at hl 0 rfl) ?_
          refine lv_iload_n hx hb dX7_ways_58 rfl (lv_at hl 1 rfl) ?_
          refine call_i (q := (RX7, TX7, 14)) (As := [.int (nI k)]) (rest := [.int (nI (allN a k))]) F (c_X7_ownImages l D cA m0 m1 m2 m3 m4 m5 m6 m7 m8 m9 yl ik tl sp rd a M en2_54 lo2_54 k (hV) (hM) (by omega)) (cwV 1 hts gX7_ways_X7_ownImages rfl rfl rfl ydv_X7_ownImages ⟨Nat.le_of_ble_eq_true rfl, Nat.le_of_ble_eq_true rfl⟩) hK hR hP hD hA hS [0, 1, 2, 3] [0, 1] rfl rfl rfl 0 7 rfl rfl (fun _ => rfl) rfl hl.1 rfl (Nat.le_of_ble_eq_true rfl) dX7_ways_59 ⟨Nat.zero_le _, Nat.zero_le _⟩ (fun r_59 u_59 H locs hw hP hD hS => ?_)
          obtain ⟨en2_59, lo2_59⟩ := u_59
          have hP : va_P D vwCl [(m8, .inl (cA, 20, .inl (nF en2_59))), (m9, .inl (cA, 20, .inl (nF lo2_59)))] H := hP
          have hD : va_D A [(m8, .inl (cA, 20, .inl (nF en2_59))), (m9, .inl (cA, 20, .inl (nF lo2_59)))] := hD
          obtain rfl : r_59 = nI (ownN a k) := hw
          refine nv_iadd hx hb dX7_ways_62 ?_
          refine lv_iconst (v := nI 2) hx hb dX7_ways_63 (by decide) ?_
          refine lv_idiv hx hb dX7_ways_64 (by decide) ?_
          refine tope (y := sWays a (nI k) (nI t)) (by rw [sWays, hcx, hsw_]; first | (simp [c_9, c_28, c_41]; done) | (simp [c_9, c_28, c_41]; intro h_; exact absurd (by omega) h_)) ?_
          exact RET _ _ _ _ _ (en2_59, lo2_59) dX7_ways_65 rfl rfl hP hS
        · refine lv_aload_n hx hb dX7_ways_44 rfl (lv_at hl 0 rfl) ?_
          refine lv_iload_n hx hb dX7_ways_45 rfl (lv_at hl 1 rfl) ?_
          refine call_i (q := (RX7, TX7, 14)) (As := [.int (nI k)]) (rest := []) F (c_X7_ownImages l D cA m0 m1 m2 m3 m4 m5 m6 m7 m8 m9 yl ik tl sp rd a M en lo k (hV) (hM) (by omega)) (cwV 1 hts gX7_ways_X7_ownImages rfl rfl rfl ydv_X7_ownImages ⟨Nat.le_of_ble_eq_true rfl, Nat.le_of_ble_eq_true rfl⟩) hK hR hP hD hA hS [0, 1, 2, 3] [0, 1] rfl rfl rfl 0 7 rfl rfl (fun _ => rfl) rfl hl.1 rfl (Nat.le_of_ble_eq_true rfl) dX7_ways_46 ⟨Nat.zero_le _, Nat.zero_le _⟩ (fun r_46 u_46 H locs hw hP hD hS => ?_)
          obtain ⟨en2_46, lo2_46⟩ := u_46
          have hP : va_P D vwCl [(m8, .inl (cA, 20, .inl (nF en2_46))), (m9, .inl (cA, 20, .inl (nF lo2_46)))] H := hP
          have hD : va_D A [(m8, .inl (cA, 20, .inl (nF en2_46))), (m9, .inl (cA, 20, .inl (nF lo2_46)))] := hD
          obtain rfl : r_46 = nI (ownN a k) := hw
          refine lv_goto (tgt := 65) hx hb dX7_ways_49 (by decide) ?_
          refine tope (y := sWays a (nI k) (nI t)) (by rw [sWays, hcx, hsw_]; first | (simp [c_9, c_28, eq_true c_41]; done) | (simp [c_9, c_28, eq_true c_41]; intro h_; exact absurd (by omega) h_)) ?_
          exact RET _ _ _ _ _ (en2_46, lo2_46) dX7_ways_65 rfl rfl hP hS
      · refine lv_aload_n hx hb dX7_ways_31 rfl (lv_at hl 0 rfl) ?_
        refine lv_iload_n hx hb dX7_ways_32 rfl (lv_at hl 1 rfl) ?_
        refine call_i (q := (RX7, TX7, 14)) (As := [.int (nI k)]) (rest := []) F (c_X7_allOf l D cA m0 m1 m2 m3 m4 m5 m6 m7 m8 m9 yl ik tl sp rd a M en lo k (hV) (hM) (by omega)) (cwV 1 hts gX7_ways_X7_allOf rfl rfl rfl ydv_X7_allOf ⟨Nat.le_of_ble_eq_true rfl, Nat.le_of_ble_eq_true rfl⟩) hK hR hP hD hA hS [0, 1, 2, 3] [0, 1] rfl rfl rfl 0 7 rfl rfl (fun _ => rfl) rfl hl.1 rfl (Nat.le_of_ble_eq_true rfl) dX7_ways_33 ⟨Nat.zero_le _, Nat.zero_le _⟩ (fun r_33 u_33 H locs hw hP hD hS => ?_)
        obtain ⟨en2_33, lo2_33⟩ := u_33
        have hP : va_P D vwCl [(m8, .inl (cA, 20, .inl (nF en2_33))), (m9, .inl (cA, 20, .inl (nF lo2_33)))] H := hP
        have hD : va_D A [(m8, .inl (cA, 20, .inl (nF en2_33))), (m9, .inl (cA, 20, .inl (nF lo2_33)))] := hD
        obtain rfl : r_33 = nI (allN a k) := hw
        refine lv_goto (tgt := 65) hx hb dX7_ways_36 (by decide) ?_
        refine tope (y := sWays a (nI k) (nI t)) (by rw [sWays, hcx, hsw_]; first | (simp [c_9, eq_true c_28]; done) | (simp [c_9, eq_true c_28]; intro h_; exact absurd (by omega) h_)) ?_
        exact RET _ _ _ _ _ (en2_33, lo2_33) dX7_ways_65 rfl rfl hP hS
    · refine lv_bipush (v := -2) hx hb dX7_ways_24 (by decide) ?_
      refine tope (y := sWays a (nI k) w) (by have h9_ := swN_bad c_21 (by decide); rw [sWays, if_neg (by simp [c_9]), if_neg (by omega), if_neg (by omega), if_neg (by omega)]) ?_
      exact RET _ _ _ _ _ (en, lo) dX7_ways_26 rfl rfl hP hS
abbrev rm_X7_between : Room := { frames := 2, cells := 0, slots := 0, locals := 46 }
theorem ydv_X7_between : yX7_between.cls = RX7 ∧ yX7_between.cls ≠ "java/lang/invoke/MethodHandle" ∧ yX7_between.cls ≠ "java/lang/invoke/VarHandle" ∧ (parseMethodDescriptor yX7_between.desc).map (fun d => d.parameters.length) = some 2 := by decide +kernel
theorem inf_X7_between_X7 : ∀ w ∈ wsX70, w ∈ wsX7_between := fun w h => List.mem_cons_of_mem _ (List.mem_append_right _ (h))
set_option maxHeartbeats 4000000 in
set_option maxRecDepth 100000 in
theorem c_X7_between (l : Launch) (D : va_G) (cA : ClassId) (m0 m1 m2 m3 m4 m5 m6 m7 m8 m9 yl ik tl sp rd : Nat) (a M : Nat → Nat) (f : Nat → Int32) (x y : Int32) (hV : Vd a) (hM : Rl a M) : MI l D cA yX7_between wsX7_between rm_X7_between [.ref m0, .int x, .int y] [(m0, .inr (7, [.ref m1, .ref m2, .ref m3, .int (nI yl), .ref m4, .int (nI ik), .ref m5, .ref m6, .int (nI tl), .int (nI sp), .int (nI rd), .ref m7, .ref m8, .ref m9])), (m1, .inl (cA, 286, .inl (nF M)))] [(m7, .inl (cA, 20, .inl f))] (S := (Nat → Int32)) (fun rr_ (uu_ : (Nat → Int32)) => rr_ = sBtw a x y) (fun (uu_ : (Nat → Int32)) => [(m7, .inl (cA, 20, .inl uu_))]) := by
  refine ofWi (cc := cX7_between) (maxL := 10) (rt := .int) (by decide) rfl (Nat.le_of_ble_eq_true rfl) ?_
  intro p e s m args below meth c Q A ls F hK hR hP hD hA hS hl RET
  obtain ⟨hx, hb, hml, hown, hts⟩ := id F
  have hl : lv_has ls 10 [(0, .ref m0), (1, .int x), (2, .int y)] := hl
  refine lv_aload_n hx hb dX7_between_0 rfl (lv_at hl 0 rfl) ?_
  refine lv_iload_n hx hb dX7_between_1 rfl (lv_at hl 1 rfl) ?_
  refine call_r (q := (RX7, TX7, 14)) (As := [.int x]) (rest := []) F (c_X7_isGarland l D cA m0 m1 ([.ref m2, .ref m3, .int (nI yl), .ref m4, .int (nI ik), .ref m5, .ref m6, .int (nI tl), .int (nI sp), .int (nI rd), .ref m7, .ref m8, .ref m9]) a M x (hV) (hM)) (cwV 1 hts gX7_between_X7_isGarland rfl rfl rfl ydv_X7_isGarland ⟨Nat.le_of_ble_eq_true rfl, Nat.le_of_ble_eq_true rfl⟩) hK hR hP hD hA hS [0, 1] rfl rfl 0 7 rfl rfl rfl hl.1 rfl (Nat.le_of_ble_eq_true rfl) dX7_between_2 ⟨Nat.zero_le _, Nat.zero_le _⟩ (fun H locs hP hS => ?_)
  refine bv_if_eq (tgt := 16) hx hb dX7_between_5 (by decide) (fun c_5 => ?_) (fun c_5 => ?_)
  · refine lv_iconst (v := -1) hx hb dX7_between_16 (by decide) ?_
    refine tope (y := sBtw a x y) (by simp [sBtw, c_5]) ?_
    exact RET _ _ _ _ _ (f) dX7_between_17 rfl rfl hP hS
  · obtain ⟨g, hg, rfl, hg0⟩ := inG_t c_5
    have hcx : cN (nI g) = g := cN_nI (by omega)
    refine lv_aload_n hx hb dX7_between_8 rfl (lv_at hl 0 rfl) ?_
    refine lv_iload_n hx hb dX7_between_9 rfl (lv_at hl 2 rfl) ?_
    refine call_r (q := (RX7, TX7, 14)) (As := [.int y]) (rest := []) F (c_X7_isGarland l D cA m0 m1 ([.ref m2, .ref m3, .int (nI yl), .ref m4, .int (nI ik), .ref m5, .ref m6, .int (nI tl), .int (nI sp), .int (nI rd), .ref m7, .ref m8, .ref m9]) a M y (hV) (hM)) (cwV 1 hts gX7_between_X7_isGarland rfl rfl rfl ydv_X7_isGarland ⟨Nat.le_of_ble_eq_true rfl, Nat.le_of_ble_eq_true rfl⟩) hK hR hP hD hA hS [0, 1] rfl rfl 0 7 rfl rfl rfl hl.1 rfl (Nat.le_of_ble_eq_true rfl) dX7_between_10 ⟨Nat.zero_le _, Nat.zero_le _⟩ (fun H locs hP hS => ?_)
    refine bv_if_ne (tgt := 18) hx hb dX7_between_13 (by decide) (fun c_13 => ?_) (fun c_13 => ?_)
    · obtain ⟨o_, ho_, rfl, ho0⟩ := inG_t c_13
      have hcy : cN (nI o_) = o_ := cN_nI (by omega)
      have hl1 := hV.l hg
      have hl2 := hV.l ho_
      have hd1 := hV.d (q := ln a g - 1) hg (by omega)
      have hd2 := hV.d (q := 0) ho_ (by omega)
      refine lv_aload_n hx hb dX7_between_18 rfl (lv_at hl 0 rfl) ?_
      refine lv_iload_n hx hb dX7_between_19 rfl (lv_at hl 1 rfl) ?_
      refine call_r (q := (RX7, TX7, 14)) (As := [.int (nI g)]) (rest := []) F (c_X7_last l D cA m0 m1 ([.ref m2, .ref m3, .int (nI yl), .ref m4, .int (nI ik), .ref m5, .ref m6, .int (nI tl), .int (nI sp), .int (nI rd), .ref m7, .ref m8, .ref m9]) a M g (hV) (hM) (by omega) (by omega)) (cwV 1 hts gX7_between_X7_last rfl rfl rfl ydv_X7_last ⟨Nat.le_of_ble_eq_true rfl, Nat.le_of_ble_eq_true rfl⟩) hK hR hP hD hA hS [0, 1] rfl rfl 0 7 rfl rfl rfl hl.1 rfl (Nat.le_of_ble_eq_true rfl) dX7_between_20 ⟨Nat.zero_le _, Nat.zero_le _⟩ (fun H locs hP hS => ?_)
      refine lv_istore_n (lv' := [(3, .int (nI (dl a g (ln a g - 1)))), (0, .ref m0), (1, .int (nI g)), (2, .int (nI o_))]) hx hb dX7_between_23 rfl hl (by decide) rfl (fun ls hl => ?_)
      refine lv_aload_n hx hb dX7_between_24 rfl (lv_at hl 1 rfl) ?_
      refine lv_iload_n hx hb dX7_between_25 rfl (lv_at hl 3 rfl) ?_
      refine lv_iconst (v := nI 0) hx hb dX7_between_26 (by decide) ?_
      refine call_r (q := (RX7, TX7, 14)) (As := [.int (nI o_), .int (nI 0)]) (rest := []) F (c_X7_dollAt l D cA m0 m1 ([.ref m2, .ref m3, .int (nI yl), .ref m4, .int (nI ik), .ref m5, .ref m6, .int (nI tl), .int (nI sp), .int (nI rd), .ref m7, .ref m8, .ref m9]) a M o_ 0 (hV) (hM) (by omega) (by omega)) (cwV 2 hts gX7_between_X7_dollAt rfl rfl rfl ydv_X7_dollAt ⟨Nat.le_of_ble_eq_true rfl, Nat.le_of_ble_eq_true rfl⟩) hK hR hP hD hA hS [0, 1] rfl rfl 0 7 rfl rfl rfl hl.1 rfl (Nat.le_of_ble_eq_true rfl) dX7_between_27 ⟨Nat.zero_le _, Nat.zero_le _⟩ (fun H locs hP hS => ?_)
      refine lv_istore (lv' := [(4, .int (nI (dl a o_ 0))), (3, .int (nI (dl a g (ln a g - 1)))), (0, .ref m0), (1, .int (nI g)), (2, .int (nI o_))]) hx hb dX7_between_30 hl (by decide) rfl (fun ls hl => ?_)
      refine lv_aload_n hx hb dX7_between_32 rfl (lv_at hl 2 rfl) ?_
      refine lv_iload_n hx hb dX7_between_33 rfl (lv_at hl 1 rfl) ?_
      refine lv_iload hx hb dX7_between_34 (lv_at hl 0 rfl) ?_
      refine call_r (q := (RX7, TX7, 14)) (As := [.int (nI (dl a g (ln a g - 1))), .int (nI (dl a o_ 0))]) (rest := []) F (c_X7_clash l D cA m0 m1 ([.ref m2, .ref m3, .int (nI yl), .ref m4, .int (nI ik), .ref m5, .ref m6, .int (nI tl), .int (nI sp), .int (nI rd), .ref m7, .ref m8, .ref m9]) a M (dl a g (ln a g - 1)) (dl a o_ 0) (hV) (hM) (by omega) (by omega)) (cwV 2 hts gX7_between_X7_clash rfl rfl rfl ydv_X7_clash ⟨Nat.le_of_ble_eq_true rfl, Nat.le_of_ble_eq_true rfl⟩) hK hR hP hD hA hS [0, 1] rfl rfl 0 7 rfl rfl rfl hl.1 rfl (Nat.le_of_ble_eq_true rfl) dX7_between_36 ⟨Nat.zero_le _, Nat.zero_le _⟩ (fun H locs hP hS => ?_)
      refine bv_if_ne (tgt := 44) hx hb dX7_between_39 (by decide) (fun c_39 => ?_) (fun c_39 => ?_)
      · have hk_ := hV.k
        have hm_ : 2 * a 1 * (2 * a 1) ≤ 20 * 20 := Nat.mul_le_mul (by omega) (by omega)
        generalize hdf_ : dl a g (ln a g - 1) = df at *
        generalize hdt_ : dl a o_ 0 = dt at *
        refine lv_iconst (v := nI 2) hx hb dX7_between_44 (by decide) ?_
        refine lv_aload_n hx hb dX7_between_45 rfl (lv_at hl 2 rfl) ?_
        refine va_get (D := D) (cl := vwCl) (ci := 7) (v := .ref m1) (C := RX7) (T := TX7) (N := 14) hx hb hts inf_X7_between_X7 hown hK.1 (hR.at hS) 0 rfl rfl 0 (by decide) (hts _ (List.mem_of_getElem? (i := 1) rfl)) (fun _ h9 => h9) rfl dX7_between_46 ?_
        refine lv_iconst (v := nI 1) hx hb dX7_between_49 (by decide) ?_
        refine nv_iald (a := M) hx hb hK (hR.at hS) 1 rfl (by omega) (by decide) dX7_between_50 ?_
        refine tope (y := nI (a 1)) (congrArg nI (hM.2.1)) ?_
        refine nv_imul hx hb dX7_between_51 ?_
        refine lv_istore (lv' := [(5, .int (nI (2 * (a 1)))), (4, .int (nI dt)), (3, .int (nI df)), (0, .ref m0), (1, .int (nI g)), (2, .int (nI o_))]) hx hb dX7_between_52 hl (by decide) rfl (fun ls hl => ?_)
        refine lv_iconst (v := nI 0) hx hb dX7_between_54 (by decide) ?_
        refine lv_istore (lv' := [(6, .int (nI 0)), (5, .int (nI (2 * (a 1)))), (4, .int (nI dt)), (3, .int (nI df)), (0, .ref m0), (1, .int (nI g)), (2, .int (nI o_))]) hx hb dX7_between_55 hl (by decide) rfl (fun ls hl => ?_)
        have LP_57 : ∀ (k_57 : Nat) (d : Nat) (f3 : Nat → Int32) (H : Heap) (locs : List Loc) (ls : Array Slot), 2 * a 1 - d = k_57 → (d ≤ 2 * a 1) → (∀ j, j < d → f3 j = if cl a df j = true then -5 else nI 1) → va_P D vwCl [(m7, .inl (cA, 20, .inl f3))] H → va_D A [(m7, .inl (cA, 20, .inl f3))] → va_S A s.heap H locs → lv_has ls 10 [(0, .ref m0), (1, .int (nI g)), (2, .int (nI o_)), (3, .int (nI df)), (4, .int (nI dt)), (5, .int (nI (2 * (a 1)))), (6, .int (nI d))] → W p l e rm_X7_between s m args below meth c H locs 0 0 Q (F0 m 57 ls []) := by
          refine sind (fun k_57 ih_57 => ?_)
          intro d f3 H locs ls hk_57 hd_ hf3_ hP hD hS hl
          refine lv_iload hx hb dX7_between_57 (lv_at hl 6 rfl) ?_
          refine lv_iload hx hb dX7_between_59 (lv_at hl 5 rfl) ?_
          refine nv_icmp_ge (tgt := 93) hx hb dX7_between_61 (by decide) (by omega) (by omega) (fun c_61 => ?_) (fun c_61 => ?_)
          · refine lv_iconst (v := nI 1) hx hb dX7_between_93 (by decide) ?_
            refine lv_istore (lv' := [(6, .int (nI 1)), (0, .ref m0), (1, .int (nI g)), (2, .int (nI o_)), (3, .int (nI df)), (4, .int (nI dt)), (5, .int (nI (2 * (a 1))))]) hx hb dX7_between_94 hl (by decide) rfl (fun ls hl => ?_)
            have LP_96 : ∀ (k_96 : Nat) (n : Nat) (u : Nat) (v : Nat) (f4 : Nat → Int32) (H : Heap) (locs : List Loc) (ls : Array Slot), 21 - n = k_96 → (1 ≤ n ∧ n ≤ 2 * a 1 + 1) → (Bfs a f4 n u v) → (BfsR a (led a dt) n u v (fbL a (led a dt) 20 1 (fol a df) (fol a df))) → va_P D vwCl [(m7, .inl (cA, 20, .inl f4))] H → va_D A [(m7, .inl (cA, 20, .inl f4))] → va_S A s.heap H locs → lv_has ls 10 [(0, .ref m0), (1, .int (nI g)), (2, .int (nI o_)), (3, .int (nI df)), (4, .int (nI dt)), (5, .int (nI (2 * (a 1)))), (6, .int (nI n))] → W p l e rm_X7_between s m args below meth c H locs 0 0 Q (F0 m 96 ls []) := by
              refine sind (fun k_96 ih_96 => ?_)
              intro n u v f4 H locs ls hk_96 hn_ hB_ hF_ hP hD hS hl
              refine lv_iload hx hb dX7_between_96 (lv_at hl 6 rfl) ?_
              refine lv_iload hx hb dX7_between_98 (lv_at hl 5 rfl) ?_
              refine nv_icmp_gt (tgt := 240) hx hb dX7_between_100 (by decide) (by omega) (by omega) (fun c_100 => ?_) (fun c_100 => ?_)
              · refine lv_bipush (v := -5) hx hb dX7_between_240 (by decide) ?_
                refine tope (y := sBtw a (nI g) (nI o_)) (by rw [sBtw, if_neg (by simp [c_5]), if_neg (by simp [c_13]), hcx, hcy, hdf_, hdt_, btw, if_pos c_39, hF_.end hB_ c_100]; rfl) ?_
                exact RET _ _ _ _ _ (f4) dX7_between_242 rfl rfl hP hS
              · refine lv_iconst (v := nI 0) hx hb dX7_between_103 (by decide) ?_
                refine lv_istore (lv' := [(7, .int (nI 0)), (0, .ref m0), (1, .int (nI g)), (2, .int (nI o_)), (3, .int (nI df)), (4, .int (nI dt)), (5, .int (nI (2 * (a 1)))), (6, .int (nI n))]) hx hb dX7_between_104 hl (by decide) rfl (fun ls hl => ?_)
                have LP_106 : ∀ (k_106 : Nat) (i : Nat) (H : Heap) (locs : List Loc) (ls : Array Slot), 2 * a 1 - i = k_106 → (i ≤ 2 * a 1) → (∀ j, j < i → bit u j = true → cl a j dt = true) → va_P D vwCl [(m7, .inl (cA, 20, .inl f4))] H → va_D A [(m7, .inl (cA, 20, .inl f4))] → va_S A s.heap H locs → lv_has ls 10 [(0, .ref m0), (1, .int (nI g)), (2, .int (nI o_)), (3, .int (nI df)), (4, .int (nI dt)), (5, .int (nI (2 * (a 1)))), (6, .int (nI n)), (7, .int (nI i))] → W p l e rm_X7_between s m args below meth c H locs 0 0 Q (F0 m 106 ls []) := by
                  refine sind (fun k_106 ih_106 => ?_)
                  intro i H locs ls hk_106 hi hc_ hP hD hS hl
                  refine lv_iload hx hb dX7_between_106 (lv_at hl 7 rfl) ?_
                  refine lv_iload hx hb dX7_between_108 (lv_at hl 5 rfl) ?_
                  refine nv_icmp_ge (tgt := 145) hx hb dX7_between_110 (by decide) (by omega) (by omega) (fun c_110 => ?_) (fun c_110 => ?_)
                  · refine lv_iconst (v := nI 0) hx hb dX7_between_145 (by decide) ?_
                    refine lv_istore (lv' := [(7, .int (nI 0)), (0, .ref m0), (1, .int (nI g)), (2, .int (nI o_)), (3, .int (nI df)), (4, .int (nI dt)), (5, .int (nI (2 * (a 1)))), (6, .int (nI n))]) hx hb dX7_between_146 hl (by decide) rfl (fun ls hl => ?_)
                    have LP_148 : ∀ (k_148 : Nat) (k : Nat) (f5 : Nat → Int32) (H : Heap) (locs : List Loc) (ls : Array Slot), 2 * a 1 * (2 * a 1) - k = k_148 → (k ≤ 2 * a 1 * (2 * a 1)) → (∀ j, f5 j = if f4 j = -5 ∧ nxt a f4 n k j = true then nI (n + 1) else f4 j) → va_P D vwCl [(m7, .inl (cA, 20, .inl f5))] H → va_D A [(m7, .inl (cA, 20, .inl f5))] → va_S A s.heap H locs → lv_has ls 10 [(0, .ref m0), (1, .int (nI g)), (2, .int (nI o_)), (3, .int (nI df)), (4, .int (nI dt)), (5, .int (nI (2 * (a 1)))), (6, .int (nI n)), (7, .int (nI k))] → W p l e rm_X7_between s m args below meth c H locs 0 0 Q (F0 m 148 ls []) := by
                      refine sind (fun k_148 ih_148 => ?_)
                      intro k f5 H locs ls hk_148 hkk_ hf5_ hP hD hS hl
                      refine lv_iload hx hb dX7_between_148 (lv_at hl 7 rfl) ?_
                      refine lv_iload hx hb dX7_between_150 (lv_at hl 5 rfl) ?_
                      refine lv_iload hx hb dX7_between_152 (lv_at hl 5 rfl) ?_
                      refine nv_imul hx hb dX7_between_154 ?_
                      refine nv_icmp_ge (tgt := 234) hx hb dX7_between_155 (by decide) (by omega) (by omega) (fun c_155 => ?_) (fun c_155 => ?_)
                      · refine lv_iinc (v := nI (n + 1)) (lv' := [(6, .int (nI (n + 1))), (0, .ref m0), (1, .int (nI g)), (2, .int (nI o_)), (3, .int (nI df)), (4, .int (nI dt)), (5, .int (nI (2 * (a 1)))), (7, .int (nI k))]) hx hb dX7_between_234 hl (k := 6) rfl (nI_add _ _) (by decide) rfl (fun ls hl => ?_)
                        refine lv_goto (tgt := 96) hx hb dX7_between_237 (by decide) ?_
                        exact ih_96 _ (by omega) (n + 1) (folA a u &&& (v ^^^ 4294967295)) (v ||| (folA a u &&& (v ^^^ 4294967295))) f5 _ _ _ rfl (by omega) (hB_.next hn_.1 (by omega) (by omega) (fun j => by rw [hf5_ j, show k = 2 * a 1 * (2 * a 1) by omega])) (hF_.next (by omega) ((meets (fun j hj => hB_.2.1 j (hB_.1 j hj).2)).mpr (fun j hj hb_ => hc_ j (by omega) hb_))) hP hD hS (lv_sub hl [1, 2, 3, 4, 5, 6, 0] rfl)
                      · refine lv_iload hx hb dX7_between_158 (lv_at hl 7 rfl) ?_
                        refine lv_iload hx hb dX7_between_160 (lv_at hl 5 rfl) ?_
                        refine nv_idiv hx hb dX7_between_162 (by omega) (by omega) (by omega) ?_
                        refine lv_istore (lv' := [(8, .int (nI (k / (2 * (a 1))))), (0, .ref m0), (1, .int (nI g)), (2, .int (nI o_)), (3, .int (nI df)), (4, .int (nI dt)), (5, .int (nI (2 * (a 1)))), (6, .int (nI n)), (7, .int (nI k))]) hx hb dX7_between_163 hl (by decide) rfl (fun ls hl => ?_)
                        refine lv_iload hx hb dX7_between_165 (lv_at hl 8 rfl) ?_
                        refine lv_iload hx hb dX7_between_167 (lv_at hl 6 rfl) ?_
                        refine nv_irem hx hb dX7_between_169 (by omega) (by omega) (by omega) ?_
                        refine lv_istore (lv' := [(9, .int (nI (k % (2 * (a 1))))), (8, .int (nI (k / (2 * (a 1))))), (0, .ref m0), (1, .int (nI g)), (2, .int (nI o_)), (3, .int (nI df)), (4, .int (nI dt)), (5, .int (nI (2 * (a 1)))), (6, .int (nI n)), (7, .int (nI k))]) hx hb dX7_between_170 hl (by decide) rfl (fun ls hl => ?_)
                        have hq1_ : k / (2 * a 1) < 2 * a 1 := Nat.div_lt_of_lt_mul c_155
                        have hq2_ : k % (2 * a 1) < 2 * a 1 := Nat.mod_lt _ (by omega)
                        refine lv_aload_n hx hb dX7_between_172 rfl (lv_at hl 2 rfl) ?_
                        refine va_get (D := D) (cl := vwCl) (ci := 7) (v := .ref m7) (C := RX7) (T := TX7) (N := 14) hx hb hts inf_X7_between_X7 hown hK.1 (hR.at hS) 0 rfl rfl 11 (by decide) (hts _ (List.mem_of_getElem? (i := 2) rfl)) (fun _ h9 => h9) rfl dX7_between_173 ?_
                        refine lv_iload hx hb dX7_between_176 (lv_at hl 0 rfl) ?_
                        refine lv_aload_n hx hb dX7_between_178 rfl (lv_at hl 2 rfl) ?_
                        refine va_get (D := D) (cl := vwCl) (ci := 7) (v := .ref m7) (C := RX7) (T := TX7) (N := 14) hx hb hts inf_X7_between_X7 hown hK.1 (hR.at hS) 0 rfl rfl 11 (by decide) (hts _ (List.mem_of_getElem? (i := 2) rfl)) (fun _ h9 => h9) rfl dX7_between_179 ?_
                        refine lv_iload hx hb dX7_between_182 (lv_at hl 1 rfl) ?_
                        refine rv_iald (f := f5) hx hb hK hP 0 rfl (by omega) (by decide) dX7_between_184 ?_
                        refine lv_iload hx hb dX7_between_185 (lv_at hl 8 rfl) ?_
                        refine lv_icmp_ne (tgt := 220) hx hb dX7_between_187 (by decide) (fun c_187 => ?_) (fun c_187 => ?_)
                        · refine lv_aload_n hx hb dX7_between_220 rfl (lv_at hl 2 rfl) ?_
                          refine va_get (D := D) (cl := vwCl) (ci := 7) (v := .ref m7) (C := RX7) (T := TX7) (N := 14) hx hb hts inf_X7_between_X7 hown hK.1 (hR.at hS) 0 rfl rfl 11 (by decide) (hts _ (List.mem_of_getElem? (i := 2) rfl)) (fun _ h9 => h9) rfl dX7_between_221 ?_
                          refine lv_iload hx hb dX7_between_224 (lv_at hl 0 rfl) ?_
                          refine rv_iald (f := f5) hx hb hK hP 0 rfl (by omega) (by decide) dX7_between_226 ?_
                          refine rv_iast (f := f5) (v := (f5 (k % (2 * (a 1))))) hx hb hK hP hD hS 0 rfl (by omega) (by decide) dX7_between_227 (fun H locs hP hD hS => ?_)
                          have hP : va_P D vwCl [(m7, .inl (cA, 20, .inl (upd f5 (k % (2 * (a 1))) (f5 (k % (2 * (a 1)))))))] H := hP
                          have hD : va_D A [(m7, .inl (cA, 20, .inl (upd f5 (k % (2 * (a 1))) (f5 (k % (2 * (a 1)))))))] := hD
                          refine lv_iinc (v := nI (k + 1)) (lv' := [(7, .int (nI (k + 1))), (9, .int (nI (k % (2 * (a 1))))), (8, .int (nI (k / (2 * (a 1))))), (0, .ref m0), (1, .int (nI g)), (2, .int (nI o_)), (3, .int (nI df)), (4, .int (nI dt)), (5, .int (nI (2 * (a 1)))), (6, .int (nI n))]) hx hb dX7_between_228 hl (k := 9) rfl (nI_add _ _) (by decide) rfl (fun ls hl => ?_)
                          refine lv_goto (tgt := 148) hx hb dX7_between_231 (by decide) ?_
                          exact ih_148 _ (by omega) (k + 1) (upd f5 (k % (2 * (a 1))) (f5 (k % (2 * (a 1))))) _ _ _ rfl (by omega) (far_step (by omega) hf5_ (by first | exact (if_pos ⟨c_187, c_199, c_210⟩).symm | exact (if_neg (fun q_ => by rw [c_210] at q_; exact absurd q_.2.2 (by decide))).symm | exact (if_neg (fun q_ => c_199 q_.2.1)).symm | exact (if_neg (fun q_ => c_187 q_.1)).symm)) hP hD hS (lv_sub hl [3, 4, 5, 6, 7, 8, 9, 0] rfl)
                        · refine lv_aload_n hx hb dX7_between_190 rfl (lv_at hl 2 rfl) ?_
                          refine va_get (D := D) (cl := vwCl) (ci := 7) (v := .ref m7) (C := RX7) (T := TX7) (N := 14) hx hb hts inf_X7_between_X7 hown hK.1 (hR.at hS) 0 rfl rfl 11 (by decide) (hts _ (List.mem_of_getElem? (i := 2) rfl)) (fun _ h9 => h9) rfl dX7_between_191 ?_
                          refine lv_iload hx hb dX7_between_194 (lv_at hl 0 rfl) ?_
                          refine rv_iald (f := f5) hx hb hK hP 0 rfl (by omega) (by decide) dX7_between_196 ?_
                          refine lv_bipush (v := -5) hx hb dX7_between_197 (by decide) ?_
                          refine lv_icmp_ne (tgt := 220) hx hb dX7_between_199 (by decide) (fun c_199 => ?_) (fun c_199 => ?_)
                          · refine lv_aload_n hx hb dX7_between_220 rfl (lv_at hl 2 rfl) ?_
                            refine va_get (D := D) (cl := vwCl) (ci := 7) (v := .ref m7) (C := RX7) (T := TX7) (N := 14) hx hb hts inf_X7_between_X7 hown hK.1 (hR.at hS) 0 rfl rfl 11 (by decide) (hts _ (List.mem_of_getElem? (i := 2) rfl)) (fun _ h9 => h9) rfl dX7_between_221 ?_
                            refine lv_iload hx hb dX7_between_224 (lv_at hl 0 rfl) ?_
                            refine rv_iald (f := f5) hx hb hK hP 0 rfl (by omega) (by decide) dX7_between_226 ?_
                            refine rv_iast (f := f5) (v := (f5 (k % (2 * (a 1))))) hx hb hK hP hD hS 0 rfl (by omega) (by decide) dX7_between_227 (fun H locs hP hD hS => ?_)
                            have hP : va_P D vwCl [(m7, .inl (cA, 20, .inl (upd f5 (k % (2 * (a 1))) (f5 (k % (2 * (a 1)))))))] H := hP
                            have hD : va_D A [(m7, .inl (cA, 20, .inl (upd f5 (k % (2 * (a 1))) (f5 (k % (2 * (a 1)))))))] := hD
                            refine lv_iinc (v := nI (k + 1)) (lv' := [(7, .int (nI (k + 1))), (9, .int (nI (k % (2 * (a 1))))), (8, .int (nI (k / (2 * (a 1))))), (0, .ref m0), (1, .int (nI g)), (2, .int (nI o_)), (3, .int (nI df)), (4, .int (nI dt)), (5, .int (nI (2 * (a 1)))), (6, .int (nI n))]) hx hb dX7_between_228 hl (k := 9) rfl (nI_add _ _) (by decide) rfl (fun ls hl => ?_)
                            refine lv_goto (tgt := 148) hx hb dX7_between_231 (by decide) ?_
                            exact ih_148 _ (by omega) (k + 1) (upd f5 (k % (2 * (a 1))) (f5 (k % (2 * (a 1))))) _ _ _ rfl (by omega) (far_step (by omega) hf5_ (by first | exact (if_pos ⟨c_187, c_199, c_210⟩).symm | exact (if_neg (fun q_ => by rw [c_210] at q_; exact absurd q_.2.2 (by decide))).symm | exact (if_neg (fun q_ => c_199 q_.2.1)).symm | exact (if_neg (fun q_ => c_187 q_.1)).symm)) hP hD hS (lv_sub hl [3, 4, 5, 6, 7, 8, 9, 0] rfl)
                          · refine lv_aload_n hx hb dX7_between_202 rfl (lv_at hl 2 rfl) ?_
                            refine lv_iload hx hb dX7_between_203 (lv_at hl 1 rfl) ?_
                            refine lv_iload hx hb dX7_between_205 (lv_at hl 0 rfl) ?_
                            refine call_r (q := (RX7, TX7, 14)) (As := [.int (nI (k / (2 * (a 1)))), .int (nI (k % (2 * (a 1))))]) (rest := [.int (nI (k % (2 * (a 1)))), .ref m7]) F (c_X7_clash l D cA m0 m1 ([.ref m2, .ref m3, .int (nI yl), .ref m4, .int (nI ik), .ref m5, .ref m6, .int (nI tl), .int (nI sp), .int (nI rd), .ref m7, .ref m8, .ref m9]) a M (k / (2 * (a 1))) (k % (2 * (a 1))) (hV) (hM) (by omega) (by omega)) (cwV 2 hts gX7_between_X7_clash rfl rfl rfl ydv_X7_clash ⟨Nat.le_of_ble_eq_true rfl, Nat.le_of_ble_eq_true rfl⟩) hK hR hP hD hA hS [0, 1] rfl rfl 0 7 rfl rfl rfl hl.1 rfl (Nat.le_of_ble_eq_true rfl) dX7_between_207 ⟨Nat.zero_le _, Nat.zero_le _⟩ (fun H locs hP hS => ?_)
                            refine bv_if_ne (tgt := 220) hx hb dX7_between_210 (by decide) (fun c_210 => ?_) (fun c_210 => ?_)
                            · refine lv_aload_n hx hb dX7_between_220 rfl (lv_at hl 2 rfl) ?_
                              refine va_get (D := D) (cl := vwCl) (ci := 7) (v := .ref m7) (C := RX7) (T := TX7) (N := 14) hx hb hts inf_X7_between_X7 hown hK.1 (hR.at hS) 0 rfl rfl 11 (by decide) (hts _ (List.mem_of_getElem? (i := 2) rfl)) (fun _ h9 => h9) rfl dX7_between_221 ?_
                              refine lv_iload hx hb dX7_between_224 (lv_at hl 0 rfl) ?_
                              refine rv_iald (f := f5) hx hb hK hP 0 rfl (by omega) (by decide) dX7_between_226 ?_
                              refine rv_iast (f := f5) (v := (f5 (k % (2 * (a 1))))) hx hb hK hP hD hS 0 rfl (by omega) (by decide) dX7_between_227 (fun H locs hP hD hS => ?_)
                              have hP : va_P D vwCl [(m7, .inl (cA, 20, .inl (upd f5 (k % (2 * (a 1))) (f5 (k % (2 * (a 1)))))))] H := hP
                              have hD : va_D A [(m7, .inl (cA, 20, .inl (upd f5 (k % (2 * (a 1))) (f5 (k % (2 * (a 1)))))))] := hD
                              refine lv_iinc (v := nI (k + 1)) (lv' := [(7, .int (nI (k + 1))), (9, .int (nI (k % (2 * (a 1))))), (8, .int (nI (k / (2 * (a 1))))), (0, .ref m0), (1, .int (nI g)), (2, .int (nI o_)), (3, .int (nI df)), (4, .int (nI dt)), (5, .int (nI (2 * (a 1)))), (6, .int (nI n))]) hx hb dX7_between_228 hl (k := 9) rfl (nI_add _ _) (by decide) rfl (fun ls hl => ?_)
                              refine lv_goto (tgt := 148) hx hb dX7_between_231 (by decide) ?_
                              exact ih_148 _ (by omega) (k + 1) (upd f5 (k % (2 * (a 1))) (f5 (k % (2 * (a 1))))) _ _ _ rfl (by omega) (far_step (by omega) hf5_ (by first | exact (if_pos ⟨c_187, c_199, c_210⟩).symm | exact (if_neg (fun q_ => by rw [c_210] at q_; exact absurd q_.2.2 (by decide))).symm | exact (if_neg (fun q_ => c_199 q_.2.1)).symm | exact (if_neg (fun q_ => c_187 q_.1)).symm)) hP hD hS (lv_sub hl [3, 4, 5, 6, 7, 8, 9, 0] rfl)
                            · refine lv_iload hx hb dX7_between_213 (lv_at hl 8 rfl) ?_
                              refine lv_iconst (v := nI 1) hx hb dX7_between_215 (by decide) ?_
                              refine nv_iadd hx hb dX7_between_216 ?_
                              refine lv_goto (tgt := 227) hx hb dX7_between_217 (by decide) ?_
                              refine rv_iast (f := f5) (v := (nI (n + 1))) hx hb hK hP hD hS 0 rfl (by omega) (by decide) dX7_between_227 (fun H locs hP hD hS => ?_)
                              have hP : va_P D vwCl [(m7, .inl (cA, 20, .inl (upd f5 (k % (2 * (a 1))) (nI (n + 1)))))] H := hP
                              have hD : va_D A [(m7, .inl (cA, 20, .inl (upd f5 (k % (2 * (a 1))) (nI (n + 1)))))] := hD
                              refine lv_iinc (v := nI (k + 1)) (lv' := [(7, .int (nI (k + 1))), (9, .int (nI (k % (2 * (a 1))))), (8, .int (nI (k / (2 * (a 1))))), (0, .ref m0), (1, .int (nI g)), (2, .int (nI o_)), (3, .int (nI df)), (4, .int (nI dt)), (5, .int (nI (2 * (a 1)))), (6, .int (nI n))]) hx hb dX7_between_228 hl (k := 9) rfl (nI_add _ _) (by decide) rfl (fun ls hl => ?_)
                              refine lv_goto (tgt := 148) hx hb dX7_between_231 (by decide) ?_
                              exact ih_148 _ (by omega) (k + 1) (upd f5 (k % (2 * (a 1))) (nI (n + 1))) _ _ _ rfl (by omega) (far_step (by omega) hf5_ (by first | exact (if_pos ⟨c_187, c_199, c_210⟩).symm | exact (if_neg (fun q_ => by rw [c_210] at q_; exact absurd q_.2.2 (by decide))).symm | exact (if_neg (fun q_ => c_199 q_.2.1)).symm | exact (if_neg (fun q_ => c_187 q_.1)).symm)) hP hD hS (lv_sub hl [3, 4, 5, 6, 7, 8, 9, 0] rfl)
                    exact LP_148 _ 0 f4 _ _ _ rfl (by omega) (nxt_0) hP hD hS (lv_sub hl [1, 2, 3, 4, 5, 6, 7, 0] rfl)
                  · refine lv_aload_n hx hb dX7_between_113 rfl (lv_at hl 0 rfl) ?_
                    refine va_get (D := D) (cl := vwCl) (ci := 7) (v := .ref m7) (C := RX7) (T := TX7) (N := 14) hx hb hts inf_X7_between_X7 hown hK.1 (hR.at hS) 0 rfl rfl 11 (by decide) (hts _ (List.mem_of_getElem? (i := 2) rfl)) (fun _ h9 => h9) rfl dX7_between_114 ?_
                    refine lv_iload hx hb dX7_between_117 (lv_at hl 7 rfl) ?_
                    refine rv_iald (f := f4) hx hb hK hP 0 rfl (by omega) (by decide) dX7_between_119 ?_
                    refine lv_iload hx hb dX7_between_120 (lv_at hl 6 rfl) ?_
                    refine lv_icmp_ne (tgt := 139) hx hb dX7_between_122 (by decide) (fun c_122 => ?_) (fun c_122 => ?_)
                    · refine lv_iinc (v := nI (i + 1)) (lv' := [(7, .int (nI (i + 1))), (0, .ref m0), (1, .int (nI g)), (2, .int (nI o_)), (3, .int (nI df)), (4, .int (nI dt)), (5, .int (nI (2 * (a 1)))), (6, .int (nI n))]) hx hb dX7_between_139 hl (k := 7) rfl (nI_add _ _) (by decide) rfl (fun ls hl => ?_)
                      refine lv_goto (tgt := 106) hx hb dX7_between_142 (by decide) ?_
                      exact ih_106 _ (by omega) (i + 1) _ _ _ rfl (by omega) (fun j hj hb_ => by by_cases e_ : j = i; (first | (rw [e_]; exact c_133) | (rw [e_] at hb_; exact absurd ((hB_.at (by omega) c_110).mpr hb_) c_122)); exact hc_ j (by omega) hb_) hP hD hS (lv_sub hl [1, 2, 3, 4, 5, 6, 7, 0] rfl)
                    · refine lv_aload_n hx hb dX7_between_125 rfl (lv_at hl 0 rfl) ?_
                      refine lv_iload hx hb dX7_between_126 (lv_at hl 7 rfl) ?_
                      refine lv_iload hx hb dX7_between_128 (lv_at hl 4 rfl) ?_
                      refine call_r (q := (RX7, TX7, 14)) (As := [.int (nI i), .int (nI dt)]) (rest := []) F (c_X7_clash l D cA m0 m1 ([.ref m2, .ref m3, .int (nI yl), .ref m4, .int (nI ik), .ref m5, .ref m6, .int (nI tl), .int (nI sp), .int (nI rd), .ref m7, .ref m8, .ref m9]) a M i dt (hV) (hM) (by omega) (by omega)) (cwV 2 hts gX7_between_X7_clash rfl rfl rfl ydv_X7_clash ⟨Nat.le_of_ble_eq_true rfl, Nat.le_of_ble_eq_true rfl⟩) hK hR hP hD hA hS [0, 1] rfl rfl 0 7 rfl rfl rfl hl.1 rfl (Nat.le_of_ble_eq_true rfl) dX7_between_130 ⟨Nat.zero_le _, Nat.zero_le _⟩ (fun H locs hP hS => ?_)
                      refine bv_if_ne (tgt := 139) hx hb dX7_between_133 (by decide) (fun c_133 => ?_) (fun c_133 => ?_)
                      · refine lv_iinc (v := nI (i + 1)) (lv' := [(7, .int (nI (i + 1))), (0, .ref m0), (1, .int (nI g)), (2, .int (nI o_)), (3, .int (nI df)), (4, .int (nI dt)), (5, .int (nI (2 * (a 1)))), (6, .int (nI n))]) hx hb dX7_between_139 hl (k := 7) rfl (nI_add _ _) (by decide) rfl (fun ls hl => ?_)
                        refine lv_goto (tgt := 106) hx hb dX7_between_142 (by decide) ?_
                        exact ih_106 _ (by omega) (i + 1) _ _ _ rfl (by omega) (fun j hj hb_ => by by_cases e_ : j = i; (first | (rw [e_]; exact c_133) | (rw [e_] at hb_; exact absurd ((hB_.at (by omega) c_110).mpr hb_) c_122)); exact hc_ j (by omega) hb_) hP hD hS (lv_sub hl [1, 2, 3, 4, 5, 6, 7, 0] rfl)
                      · refine lv_iload hx hb dX7_between_136 (lv_at hl 6 rfl) ?_
                        refine tope (y := sBtw a (nI g) (nI o_)) (by rw [sBtw, if_neg (by simp [c_5]), if_neg (by simp [c_13]), hcx, hcy, hdf_, hdt_, btw, if_pos c_39, hF_.found (by omega) (fun e_ => by have := (meets (fun j hj => hB_.2.1 j (hB_.1 j hj).2)).mp e_ i c_110 ((hB_.at (by omega) c_110).mp c_122); rw [this] at c_133; exact absurd c_133 (by decide)), zI_n hn_.1]) ?_
                        exact RET _ _ _ _ _ (f4) dX7_between_138 rfl rfl hP hS
                exact LP_106 _ 0 _ _ _ rfl (by omega) (fun j h_ => absurd h_ (Nat.not_lt_zero j)) hP hD hS (lv_sub hl [1, 2, 3, 4, 5, 6, 7, 0] rfl)
            exact LP_96 _ 1 (fol a df) (fol a df) f3 _ _ _ rfl (by omega) (Bfs.init (fun j hj => hf3_ j (by omega))) (⟨fun _ => rfl, fun e_ => by rw [e_]; rfl⟩) hP hD hS (lv_sub hl [1, 2, 3, 4, 5, 6, 0] rfl)
          · refine lv_aload_n hx hb dX7_between_64 rfl (lv_at hl 0 rfl) ?_
            refine va_get (D := D) (cl := vwCl) (ci := 7) (v := .ref m7) (C := RX7) (T := TX7) (N := 14) hx hb hts inf_X7_between_X7 hown hK.1 (hR.at hS) 0 rfl rfl 11 (by decide) (hts _ (List.mem_of_getElem? (i := 2) rfl)) (fun _ h9 => h9) rfl dX7_between_65 ?_
            refine lv_iload hx hb dX7_between_68 (lv_at hl 6 rfl) ?_
            refine lv_aload_n hx hb dX7_between_70 rfl (lv_at hl 0 rfl) ?_
            refine lv_iload_n hx hb dX7_between_71 rfl (lv_at hl 3 rfl) ?_
            refine lv_iload hx hb dX7_between_72 (lv_at hl 6 rfl) ?_
            refine call_r (q := (RX7, TX7, 14)) (As := [.int (nI df), .int (nI d)]) (rest := [.int (nI d), .ref m7]) F (c_X7_clash l D cA m0 m1 ([.ref m2, .ref m3, .int (nI yl), .ref m4, .int (nI ik), .ref m5, .ref m6, .int (nI tl), .int (nI sp), .int (nI rd), .ref m7, .ref m8, .ref m9]) a M df d (hV) (hM) (by omega) (by omega)) (cwV 2 hts gX7_between_X7_clash rfl rfl rfl ydv_X7_clash ⟨Nat.le_of_ble_eq_true rfl, Nat.le_of_ble_eq_true rfl⟩) hK hR hP hD hA hS [0, 1] rfl rfl 0 7 rfl rfl rfl hl.1 rfl (Nat.le_of_ble_eq_true rfl) dX7_between_74 ⟨Nat.zero_le _, Nat.zero_le _⟩ (fun H locs hP hS => ?_)
            refine bv_if_eq (tgt := 85) hx hb dX7_between_77 (by decide) (fun c_77 => ?_) (fun c_77 => ?_)
            · refine lv_iconst (v := nI 1) hx hb dX7_between_85 (by decide) ?_
              refine rv_iast (f := f3) (v := (nI 1)) hx hb hK hP hD hS 0 rfl (by omega) (by decide) dX7_between_86 (fun H locs hP hD hS => ?_)
              have hP : va_P D vwCl [(m7, .inl (cA, 20, .inl (upd f3 d (nI 1))))] H := hP
              have hD : va_D A [(m7, .inl (cA, 20, .inl (upd f3 d (nI 1))))] := hD
              refine lv_iinc (v := nI (d + 1)) (lv' := [(6, .int (nI (d + 1))), (0, .ref m0), (1, .int (nI g)), (2, .int (nI o_)), (3, .int (nI df)), (4, .int (nI dt)), (5, .int (nI (2 * (a 1))))]) hx hb dX7_between_87 hl (k := 6) rfl (nI_add _ _) (by decide) rfl (fun ls hl => ?_)
              refine lv_goto (tgt := 57) hx hb dX7_between_90 (by decide) ?_
              exact ih_57 _ (by omega) (d + 1) (upd f3 d (nI 1)) _ _ _ rfl (by omega) (fun j hj => by simp only [upd]; split; (rename_i e_; rw [e_, c_77]; rfl); exact hf3_ j (by omega)) hP hD hS (lv_sub hl [1, 2, 3, 4, 5, 6, 0] rfl)
            · refine lv_bipush (v := -5) hx hb dX7_between_80 (by decide) ?_
              refine lv_goto (tgt := 86) hx hb dX7_between_82 (by decide) ?_
              refine rv_iast (f := f3) (v := ((-5))) hx hb hK hP hD hS 0 rfl (by omega) (by decide) dX7_between_86 (fun H locs hP hD hS => ?_)
              have hP : va_P D vwCl [(m7, .inl (cA, 20, .inl (upd f3 d ((-5)))))] H := hP
              have hD : va_D A [(m7, .inl (cA, 20, .inl (upd f3 d ((-5)))))] := hD
              refine lv_iinc (v := nI (d + 1)) (lv' := [(6, .int (nI (d + 1))), (0, .ref m0), (1, .int (nI g)), (2, .int (nI o_)), (3, .int (nI df)), (4, .int (nI dt)), (5, .int (nI (2 * (a 1))))]) hx hb dX7_between_87 hl (k := 6) rfl (nI_add _ _) (by decide) rfl (fun ls hl => ?_)
              refine lv_goto (tgt := 57) hx hb dX7_between_90 (by decide) ?_
              exact ih_57 _ (by omega) (d + 1) (upd f3 d ((-5))) _ _ _ rfl (by omega) (fun j hj => by simp only [upd]; split; (rename_i e_; rw [e_, c_77]; rfl); exact hf3_ j (by omega)) hP hD hS (lv_sub hl [1, 2, 3, 4, 5, 6, 0] rfl)
        exact LP_57 _ 0 f _ _ _ rfl (by omega) (fun j h_ => absurd h_ (Nat.not_lt_zero j)) hP hD hS (lv_sub hl [4, 5, 6, 3, 2, 1, 0] rfl)
      · refine lv_iconst (v := nI 0) hx hb dX7_between_42 (by decide) ?_
        refine tope (y := sBtw a (nI g) (nI o_)) (by simp [sBtw, btw, c_5, c_13, c_39, hcx, hcy]) ?_
        exact RET _ _ _ _ _ (f) dX7_between_43 rfl rfl hP hS
    · refine lv_iconst (v := -1) hx hb dX7_between_16 (by decide) ?_
      refine tope (y := sBtw a (nI g) y) (by simp [sBtw, c_5, c_13, hcx]) ?_
      exact RET _ _ _ _ _ (f) dX7_between_17 rfl rfl hP hS
