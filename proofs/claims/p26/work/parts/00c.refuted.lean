theorem rf_dl_0 : decode code 0 = .ok (.new 16, 3) := by decide +kernel
theorem rf_dl_3 : decode code 3 = .ok (.dup, 1) := by decide +kernel
theorem rf_dl_4 : decode code 4 = .ok (.invokespecial 95, 3) := by decide +kernel
/-- a room that holds what the first object takes: 22 cells of 1915 slots, beside the printed one of 44 and 54 for both -/
abbrev rf_room : Room := { frames := 10, cells := 44, slots := 1915, locals := 400 }
theorem rf_size {cA : ClassId} {n : Nat} {f : Nat → Int32} : (vp_cell cA (n, .inl f)).slots.size = n := arrV_size cA n (fun j => .int (f j))
def rf_far (s t : State) : Prop := s.slotsUsed + 1144 ≤ t.slotsUsed
/-- on the way: what is in the book of slots is at least what one new cell takes -/
theorem rf_held {p : Program} {l : Launch} {e : Env} {R : Room} {s : State} {m : MethodId} {args : Array Value} {below : List Frame} {meth : Method} {c : Code} {T : State} {locs : List Loc} {cells slots : Nat} {g : JFrame} {a : Nat} {x : Cell} (X : Stand p l e R s m args below meth c T locs cells slots) (hx : T.heap[a]? = some x) (ha : s.heap.size ≤ a) (hz : x.slots.size = 1144) : rf_far s (T.setTop g) := by
  obtain ⟨-, -, -, hs, -, -⟩ := X.same
  have hs : T.slotsUsed = s.slotsUsed + ((T.heap.toList.drop s.heap.size).map (·.slots.size)).sum := hs
  have g1 : (T.heap.toList.drop s.heap.size)[a - s.heap.size]? = some x := by
    rw [List.getElem?_drop, Nat.add_sub_cancel' ha, Array.getElem?_toList]
    exact hx
  have h3 := rf_sum1 _ _ x g1
  show s.slotsUsed + 1144 ≤ T.slotsUsed
  omega
set_option maxHeartbeats 4000000 in
set_option maxRecDepth 100000 in
theorem rf_start {p : Program} {e : Env} {s : State} {m : MethodId} {below : List Frame} {meth : Method} {c : Code} (l : Launch) {b : Nat} (hx : p.tables.exec = Jvm.exec) (hb : c.code = code) (hml : c.maxLocals = 5) (hown : s.vm.findClass "DollGarlandsLaw" = some m.cls) (hts : ∀ w ∈ tables_1, w.before #[Value.ref b] s = true) : W p l e rf_room s m #[Value.ref b] below meth c s.heap [] 0 0 (rf_far s) (entryFrame m ([Value.ref b] : List Value).toArray 5) := by
  have hA : ∀ q : Nat, s.heap.size ≤ q → (fun q : Nat => s.heap.size ≤ q) q := fun _ h => h
  obtain ⟨c0, iS0, hKn0⟩ := u_known (C := rfRX0) (T := rfTX0) (N := 4) (n := 4) hts rf_in_law_X0 (hts _ (List.mem_of_getElem? (i := 54) (by decide +kernel)))
  obtain ⟨c1, iS1, hKn1⟩ := u_known (C := rfRX1) (T := rfTX1) (N := 3) (n := 3) hts rf_in_law_X1 (hts _ (List.mem_of_getElem? (i := 75) (by decide +kernel)))
  obtain ⟨c2, iS2, hKn2⟩ := u_known (C := rfRX2) (T := rfTX2) (N := 1) (n := 1) hts rf_in_law_X2 (hts _ (List.mem_of_getElem? (i := 44) (by decide +kernel)))
  obtain ⟨c3, iS3, hKn3⟩ := u_known (C := rfRX3) (T := rfTX3) (N := 1) (n := 1) hts rf_in_law_X3 (hts _ (List.mem_of_getElem? (i := 25) (by decide +kernel)))
  obtain ⟨c4, iS4, hKn4⟩ := u_known (C := rfRX4) (T := rfTX4) (N := 1) (n := 1) hts rf_in_law_X4 (hts _ (List.mem_of_getElem? (i := 19) (by decide +kernel)))
  obtain ⟨c5, iS5, hKn5⟩ := u_known (C := rfRX5) (T := rfTX5) (N := 2) (n := 2) hts rf_in_law_X5 (hts _ (List.mem_of_getElem? (i := 93) (by decide +kernel)))
  obtain ⟨c6, iS6, hKn6⟩ := u_known (C := rfRX6) (T := rfTX6) (N := 8) (n := 8) hts rf_in_law_X6 (hts _ (List.mem_of_getElem? (i := 11) (by decide +kernel)))
  obtain ⟨dC, dI, hKc⟩ : ∃ (dC : Nat → ClassId) (dI : Nat → Nat → Nat), ∀ (k : Nat) (q : vw_C), rf_cl[k]? = some q → u_Kn s q.1 q.2.1 q.2.2 (dC k) (dI k) := by
    refine ⟨fun k => if k = 0 then c0 else if k = 1 then c1 else if k = 2 then c2 else if k = 3 then c3 else if k = 4 then c4 else if k = 5 then c5 else c6, fun k => if k = 0 then iS0 else if k = 1 then iS1 else if k = 2 then iS2 else if k = 3 then iS3 else if k = 4 then iS4 else if k = 5 then iS5 else iS6, ?_⟩
    intro k q hq
    match k, hq with
    | 0, hq => cases hq; exact hKn0
    | 1, hq => cases hq; exact hKn1
    | 2, hq => cases hq; exact hKn2
    | 3, hq => cases hq; exact hKn3
    | 4, hq => cases hq; exact hKn4
    | 5, hq => cases hq; exact hKn5
    | 6, hq => cases hq; exact hKn6
    | k + 7, hq => simp [rf_cl] at hq
  obtain ⟨cA, kA, comp, g1, g2, g3⟩ := Cond.arrayClass_spec (hts (.arrayClass .int) (List.mem_of_getElem? (i := 34) (by decide +kernel)))
  obtain ⟨D, hDe⟩ : ∃ D : va_G, D = (dC, dI) := ⟨_, rfl⟩
  have hK : va_K D rf_cl [(cA, .int)] s := by
    rw [hDe]
    refine ⟨hKc, fun k q h => ?_⟩
    match k, h with
    | 0, h => cases h; exact ⟨fun n z => ⟨fun k h => (by cases h), kA, g2, comp, g3⟩, g1⟩
    | k + 1, h => simp at h
  have hS : va_S (fun q : Nat => s.heap.size ≤ q) s.heap s.heap [] := va_S.rf
  have hP : va_P D rf_cl [] s.heap := fun k q h => by simp at h
  have hD : va_D (fun q : Nat => s.heap.size ≤ q) [] := ⟨fun i j p q h => by simp at h, fun k q h => by simp at h⟩
  generalize hAe : (fun q : Nat => s.heap.size ≤ q) = A at hA hS hD
  have hl := lv_entry ([.ref b]) (n := 5) (Nat.le_of_ble_eq_true rfl)
  rw [lg_entry_eq]
  generalize (lg_sl ([.ref b]) ++ List.replicate (5 - (lg_sl ([.ref b])).length) Slot.unset).toArray = ls at hl ⊢
  have hl : lv_has ls 5 [(0, .ref b)] := hl
  refine va_new (ci := 6) (fs := [.null, .null, .null, .null, .null, .null, .null, .int 0]) (C := rfRX6) (T := rfTX6) (N := 8) hx hb hts rf_in_law_X6 rftyX6 rftyX6_ok hown (hts _ (List.mem_of_getElem? (i := 10) (by decide +kernel))) (hts _ (List.mem_of_getElem? (i := 11) (by decide +kernel))) (hts _ (List.mem_of_getElem? (i := 1) (by decide +kernel))) hK hP hD hS hA rfl (fun j hj => by rcases (show j = 0 ∨ j = 1 ∨ j = 2 ∨ j = 3 ∨ j = 4 ∨ j = 5 ∨ j = 6 ∨ j = 7 by omega) with rfl | rfl | rfl | rfl | rfl | rfl | rfl | rfl <;> rfl) (Nat.le_of_ble_eq_true rfl) (Nat.le_of_ble_eq_true rfl) rf_dl_0 (fun q0 H hP hD hS => ?_)
  have hP : va_P D rf_cl [(q0, .inr (6, [.null, .null, .null, .null, .null, .null, .null, .int 0]))] H := hP
  have hD : va_D A [(q0, .inr (6, [.null, .null, .null, .null, .null, .null, .null, .int 0]))] := hD
  refine W.widen (k := 1) (n := 8) (Nat.le_of_ble_eq_true rfl) (Nat.le_of_ble_eq_true rfl) ?_
  refine lv_dup hx hb rf_dl_3 rfl ?_
  refine rf_call (wr := []) (As := []) (rest := [.ref q0]) ⟨hx, hb, hml, hown, hts⟩ (rf_c_X6_init l D cA q0) (cwI 0 hts rf_g_law_X6_init rfl rfl rfl (hts _ (List.mem_of_getElem? (i := 1) (by decide +kernel))) (hts _ (List.mem_of_getElem? (i := 12) (by decide +kernel))) (hts _ (List.mem_of_getElem? (i := 13) (by decide +kernel))) rfl rf_yd_X6_init ⟨Nat.le_of_ble_eq_true rfl, Nat.le_of_ble_eq_true rfl⟩) hK hP hD hA hS [0] [] rfl rfl (by decide) (by decide) (by decide) rfl hl.1 rfl (Nat.le_of_ble_eq_true rfl) rf_dl_4 ⟨Nat.le_of_ble_eq_true rfl, Nat.le_of_ble_eq_true rfl⟩ (fun z4 H locs hP hD hS => ?_)
  have hP : va_P D rf_cl [(z4, .inl (cA, 1144, .inl rf_Z))] H := hP
  have hD : va_D A [(z4, .inl (cA, 1144, .inl rf_Z))] := hD
  refine W.widen (k := 22) (n := 1915) (Nat.le_of_ble_eq_true rfl) (Nat.le_of_ble_eq_true rfl) ?_
  intro T hT X
  refine ⟨_, Steps.refl _, ?_⟩
  have h9 : s.heap.size ≤ z4 := by have h9 := hD.2 0 _ rfl; rw [← hAe] at h9; exact h9
  have h8 : H[z4]? = some (vp_cell cA (1144, .inl rf_Z)) := hP 0 _ rfl
  exact rf_held X (by rw [hT]; exact h8) h9 rf_size
abbrev rf_hd : Spec := headSpec (Jvm.Cond.code x code maxLocals ret :: tables_1) rf_room
theorem rf_apart {s : State} {below : List Frame} {o : Outcome} (h : Ended s below o) (hw : Within s below) : False := by
  obtain ⟨above, ha, hne, hnt⟩ := hw
  have hlen : s.frames.length = above.length + below.length := by rw [ha, List.length_append]
  have hpos : 0 < above.length := List.length_pos_iff.mpr hne
  cases o with
  | threw a =>
    have h1 : s.frames = .throwing a :: below := h
    rw [ha] at h1
    have h2 : above ++ below = [Frame.throwing a] ++ below := h1
    exact hnt a (List.append_cancel_right h2)
  | returned v =>
    have h2 : s.frames.length = below.length := by
      cases below with
      | nil =>
        obtain ⟨-, h3⟩ := h
        rw [h3]
      | cons f r =>
        cases f with
        | java g => obtain ⟨c, i, len, -, -, h3⟩ := h; rw [h3]; rfl
        | native g => have h3 : s.frames = _ := h; rw [h3]; rfl
        | proc g => have h3 : s.frames = _ := h; rw [h3]; rfl
        | _ => obtain ⟨-, h3⟩ := h; rw [h3]
    omega
/-- whoever comes to an end has passed by the state behind the first making, and the book of slots never shrinks -/
def rf_K (p : Program) (e : Env) (below : List Frame) (s : State) (_ : Array Value) : Prop := ∃ (n : Nat) (o : Outcome), (∀ k, k < n → Within (stepsAlone p.tables e k s) below) ∧ (stepsAlone p.tables e n s).status = .running ∧ Ended (stepsAlone p.tables e n s) below o
set_option maxHeartbeats 4000000 in
theorem rf_walk (l : Launch) (b : Addr) : MetFree l x rf_hd (fun args _ => args = #[.ref b]) rf_K (fun _ s _ t => rf_far s t) := by
  refine MetFree.of_bodyR (code := code) (maxLocals := maxLocals) (ret := ret) (by decide) ?_ ?_
  · intro args s m h hn
    obtain ⟨meth, c, h1, h2, h3, h4, h5, h6, -, -⟩ := Cond.code_spec hn (atoms_spec (ws := Jvm.Cond.code x code maxLocals ret :: tables_1) h _ List.mem_cons_self)
    exact ⟨meth, c, h1, h2, h3, h4, h5, h6⟩
  · intro p e s m args below meth c s₁ B hml0 hP hKe hst
    subst hP
    obtain ⟨n, o, k1, k2, k3⟩ := hKe
    have hown : s.vm.findClass "DollGarlandsLaw" = some m.cls := findClass_of_methodNamed B.named
    have hts0 : ∀ c ∈ (Jvm.Cond.code x code maxLocals ret :: tables_1), c.before #[Value.ref b] s = true := atoms_spec (ws := Jvm.Cond.code x code maxLocals ret :: tables_1) B.pre
    have hts : ∀ w ∈ tables_1, w.before #[Value.ref b] s = true := fun w hw => hts0 w (List.mem_cons_of_mem _ hw)
    have hml : c.maxLocals = 5 := B.maxLocals_eq (hts0 _ List.mem_cons_self)
    have X₀ : Stand p l e rf_room s m #[Value.ref b] below meth c s₁ [] 0 0 := Stand.of_body B
    have hh0 : s₁.heap = s.heap := by rw [B.state]; rfl
    have K : W p l e rf_room s m #[Value.ref b] below meth c s₁.heap [] 0 0 (rf_far s) (entryFrame m ([Value.ref b] : List Value).toArray 5) := by
      rw [hh0]
      exact rf_start l B.exec B.bytes hml hown hts
    obtain ⟨t, a1, a2⟩ := K s₁ rfl X₀
    obtain ⟨j, hj, hw⟩ := Steps.trans hst a1
    have hle : j ≤ n := by
      rcases Nat.lt_or_ge n j with q | q
      · exact (rf_apart k3 (hw _ q)).elim
      · exact q
    obtain ⟨d, rfl⟩ := Nat.exists_eq_add_of_le hle
    refine ⟨_, o, ⟨j + d, rfl, k1⟩, k2, k3, ?_⟩
    have h5 := (stepsAlone_heap_grows_add p.tables e j d s).2
    rw [hj] at h5
    exact Nat.le_trans a2 h5
theorem rf_applies : rf_hd.applies x start1.e0.platform start1.about = true :=
  (Spec.applies_iff rfl).mpr ⟨rfl, rfl, rfl, by decide +kernel, by decide +kernel, by decide +kernel, launch0.hasRoom_least _ rf_room (by decide +kernel) (by decide +kernel) (by decide +kernel) (by decide +kernel) (by decide +kernel) (by decide +kernel), atoms_intro start1.words⟩
/-- an end within the printed 54 slots isn't one that has passed 1144 -/
theorem rf_not {s t : State} {o : Outcome} {L : List Loc} {k : Nat} (hq : rf_far s t) (hF : Framed s o t L k 54) : False := by
  obtain ⟨-, -, -, -, -, hu, hs, -⟩ := hF
  have hs : ((t.heap.toList.drop s.heap.size).map (·.slots.size)).sum ≤ 54 := hs
  have hu : t.slotsUsed = s.slotsUsed + ((t.heap.toList.drop s.heap.size).map (·.slots.size)).sum := hu
  have hq : s.slotsUsed + 1144 ≤ t.slotsUsed := hq
  omega
/-- what is owed is false: at the witness' own start any end is past the printed room -/
theorem refuted : ¬ (Claimed_1_1 ∧ Claimed_1_2) ∧ ¬ Claimed_1_1 ∧ ¬ Claimed_1_2 := by
  have key : ∀ (Q : Tables → Env → Array Value → State → Outcome → State → Prop), (∀ tb e a s o t, Q tb e a s o t → ∃ L k, Framed s o t L k 54) → ¬ ArmFor flags0 classFile x code maxLocals ret World_1 tables_1 room_1 Calls_1 rest_1 Pre_1 Q := by
    intro Q hQ h
    obtain ⟨a1, a2, a3, a4, a5, a6, a7, a8, a9, a10, a11, a12, a13⟩ := start1.atStart
    obtain ⟨n', o', k1, k2, k3, k4⟩ := h launch0 rfl a1 a2 start1.p0 start1.e0 a3 a5 a6 start1.about ⟨0, 0⟩ start1.args0 Lib.HandBits.below0 a7 a8 a9 a10 ⟨a11, a12, a13⟩
    obtain ⟨n, o, h1, h2, h3, h4⟩ := rf_walk launch0 0 start1.p0 start1.e0 a3 a5 a6 start1.about ⟨0, 0⟩ start1.args0 Lib.HandBits.below0 rfl ((Spec.applies_iff_loose rfl).mp rf_applies).1 rfl ⟨n', o', k1, k2, k3⟩
    have hn : n' = n := by
      rcases Nat.lt_trichotomy n' n with q | q | q
      · exact (rf_apart k3 (h1 _ q)).elim
      · exact q
      · exact (rf_apart h3 (k1 _ q)).elim
    subst hn
    obtain ⟨L, k, hF⟩ := hQ _ _ _ _ _ _ k4
    exact rf_not h4 hF
  have f1 : ¬ Claimed_1_1 := key _ (fun _ _ _ _ _ _ h => ⟨_, _, h.2⟩)
  have f2 : ¬ Claimed_1_2 := key _ (fun _ _ _ _ _ _ h => ⟨_, _, h.2⟩)
  exact ⟨fun h => f1 h.1, f1, f2⟩

