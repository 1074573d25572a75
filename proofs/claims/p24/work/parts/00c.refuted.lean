abbrev rf_cl_law : ByteArray := code
theorem rf_dl_0 : decode code 0 = .ok (.new 7, 3) := by decide +kernel
theorem rf_dl_3 : decode code 3 = .ok (.dup, 1) := by decide +kernel
theorem rf_dl_4 : decode code 4 = .ok (.invokespecial 9, 3) := by decide +kernel
theorem rf_dl_7 : decode code 7 = .ok (.astore_n 1, 1) := by decide +kernel
theorem rf_dl_8 : decode code 8 = .ok (.new 10, 3) := by decide +kernel
theorem rf_dl_11 : decode code 11 = .ok (.dup, 1) := by decide +kernel
theorem rf_dl_12 : decode code 12 = .ok (.invokespecial 12, 3) := by decide +kernel
theorem rf_dl_15 : decode code 15 = .ok (.astore_n 2, 1) := by decide +kernel
theorem rf_dl_16 : decode code 16 = .ok (.iconst 0, 1) := by decide +kernel
theorem rf_dl_17 : decode code 17 = .ok (.istore_n 3, 1) := by decide +kernel
theorem rf_dl_18 : decode code 18 = .ok (.iload_n 3, 1) := by decide +kernel
theorem rf_dl_19 : decode code 19 = .ok (.aload_n 0, 1) := by decide +kernel
theorem rf_dl_20 : decode code 20 = .ok (.arraylength, 1) := by decide +kernel
theorem rf_dl_21 : decode code 21 = .ok (.iconst 4, 1) := by decide +kernel
theorem rf_dl_22 : decode code 22 = .ok (.isub, 1) := by decide +kernel
theorem rf_dl_23 : decode code 23 = .ok (.if_icmp .gt 730, 3) := by decide +kernel
theorem rf_dl_753 : decode code 753 = .ok (.iconst 1, 1) := by decide +kernel
theorem rf_dl_754 : decode code 754 = .ok (.ireturn, 1) := by decide +kernel
/-- a room that holds what the run makes: 32 cells of 4103 slots, beside the printed one of 32 and 2215 -/
abbrev rf_room : Room := { frames := 9, cells := 32, slots := 4103, locals := 326 }
theorem rf_size {cA : ClassId} {n : Nat} {f : Nat → Int32} : (vp_cell cA (n, .inl f)).slots.size = n := arrV_size cA n (fun j => .int (f j))
def rf_big (z : Nat) (H : Heap) : Prop := ∃ (a b : Nat) (x y : Cell), a ≠ b ∧ z ≤ a ∧ z ≤ b ∧ H[a]? = some x ∧ H[b]? = some y ∧ x.slots.size = 1144 ∧ y.slots.size = 1144
def rf_Q (_ : Array Value) (s : State) (o : Outcome) (t : State) : Prop := o = .returned (some (.int 1)) ∧ Framed s o t [] 32 4103 ∧ rf_big s.heap.size t.heap
def rf_end (below : List Frame) (a : Array Value) (s : State) : State → Prop := fun t => ∃ o, t.status = .running ∧ Ended t below o ∧ rf_Q a s o t
theorem rf_ret {p : Program} {l : Launch} {e : Env} {s : State} {m : MethodId} {below : List Frame} {meth : Method} {c : Code} {b : Nat} (hx : p.tables.exec = Jvm.exec) (hb : c.code = code) (hr : meth.sig.returnType = ret) (hlocks : meth.locks = false) {pc : Nat} {H : Heap} {ls : Array Slot} (hdg : decode code pc = .ok (.ireturn, 1)) (hH : rf_big s.heap.size H) : W p l e rf_room s m #[Value.ref b] below meth c H [] 32 4103 (rf_end below #[Value.ref b] s) (F0 m pc ls [.int 1]) := by
  intro T hT X
  obtain ⟨fs, hret, hrun, hended, hW, hframe⟩ := X.leave (v := some (.int 1)) (hlocks := hlocks) (fun h => by rw [hr] at h; cases h)
  have hmeth' : T.vm.method? m = some meth := X.method'
  refine ⟨T.setFrames fs, ?_, .returned (some (.int 1)), hrun, hended, rfl, ⟨⟨_, rfl⟩, hW, hframe⟩, ?_⟩
  · jvm_step X.here [X.here.top, hx, hb, hdg, hmeth', hr, ret, narrow_b1]
    (try refine ⟨rfl, ?_⟩); (try refine ⟨rfl, ?_⟩)
    first | (intro acts; rw [hret _ acts rfl rfl rfl]) | rw [hret _ _ rfl rfl rfl]
    exact Steps.refl _
  · have h1 : (T.setFrames fs).heap = T.heap := rfl
    rw [h1, hT]
    exact hH
set_option maxHeartbeats 4000000 in
set_option maxRecDepth 100000 in
theorem rf_start {p : Program} {e : Env} {s : State} {m : MethodId} {below : List Frame} {meth : Method} {c : Code} (l : Launch) {b : Nat} {xs : Nat → Int32} (hx : p.tables.exec = Jvm.exec) (hb : c.code = code) (hr : meth.sig.returnType = ret) (hml : c.maxLocals = 4) (hown : s.vm.findClass "DollGarlandsLaw" = some m.cls) (hts : ∀ w ∈ tables_1, w.before #[Value.ref b] s = true) (hX : va_X b 0 xs s s.heap) (hbl : b < s.heap.size) (hlocks : meth.locks = false) : W p l e rf_room s m #[Value.ref b] below meth c s.heap [] 0 0 (rf_end below #[Value.ref b] s) (entryFrame m ([Value.ref b] : List Value).toArray 4) := by
  have hA : ∀ q : Nat, s.heap.size ≤ q → (fun q : Nat => s.heap.size ≤ q) q := fun _ h => h
  have hbA : ¬ (fun q : Nat => s.heap.size ≤ q) b := Nat.not_le.mpr hbl
  obtain ⟨c0, iS0, hKn0⟩ := u_known (C := rfRX0) (T := rfTX0) (N := 4) (n := 4) hts rf_in_law_X0 (hts _ (List.mem_of_getElem? (i := 55) (by decide +kernel)))
  obtain ⟨c1, iS1, hKn1⟩ := u_known (C := rfRX1) (T := rfTX1) (N := 3) (n := 3) hts rf_in_law_X1 (hts _ (List.mem_of_getElem? (i := 76) (by decide +kernel)))
  obtain ⟨c2, iS2, hKn2⟩ := u_known (C := rfRX2) (T := rfTX2) (N := 1) (n := 1) hts rf_in_law_X2 (hts _ (List.mem_of_getElem? (i := 45) (by decide +kernel)))
  obtain ⟨c3, iS3, hKn3⟩ := u_known (C := rfRX3) (T := rfTX3) (N := 1) (n := 1) hts rf_in_law_X3 (hts _ (List.mem_of_getElem? (i := 26) (by decide +kernel)))
  obtain ⟨c4, iS4, hKn4⟩ := u_known (C := rfRX4) (T := rfTX4) (N := 1) (n := 1) hts rf_in_law_X4 (hts _ (List.mem_of_getElem? (i := 20) (by decide +kernel)))
  obtain ⟨c5, iS5, hKn5⟩ := u_known (C := rfRX5) (T := rfTX5) (N := 2) (n := 2) hts rf_in_law_X5 (hts _ (List.mem_of_getElem? (i := 94) (by decide +kernel)))
  obtain ⟨c6, iS6, hKn6⟩ := u_known (C := rfRX6) (T := rfTX6) (N := 8) (n := 8) hts rf_in_law_X6 (hts _ (List.mem_of_getElem? (i := 12) (by decide +kernel)))
  obtain ⟨c7, iS7, hKn7⟩ := u_known (C := rfRX7) (T := rfTX7) (N := 14) (n := 14) hts rf_in_law_X7 (hts _ (List.mem_of_getElem? (i := 560) (by decide +kernel)))
  obtain ⟨dC, dI, hKc⟩ : ∃ (dC : Nat → ClassId) (dI : Nat → Nat → Nat), ∀ (k : Nat) (q : vw_C), rf_cl[k]? = some q → u_Kn s q.1 q.2.1 q.2.2 (dC k) (dI k) := by
    refine ⟨fun k => if k = 0 then c0 else if k = 1 then c1 else if k = 2 then c2 else if k = 3 then c3 else if k = 4 then c4 else if k = 5 then c5 else if k = 6 then c6 else c7, fun k => if k = 0 then iS0 else if k = 1 then iS1 else if k = 2 then iS2 else if k = 3 then iS3 else if k = 4 then iS4 else if k = 5 then iS5 else if k = 6 then iS6 else iS7, ?_⟩
    intro k q hq
    match k, hq with
    | 0, hq => cases hq; exact hKn0
    | 1, hq => cases hq; exact hKn1
    | 2, hq => cases hq; exact hKn2
    | 3, hq => cases hq; exact hKn3
    | 4, hq => cases hq; exact hKn4
    | 5, hq => cases hq; exact hKn5
    | 6, hq => cases hq; exact hKn6
    | 7, hq => cases hq; exact hKn7
    | k + 8, hq => simp [rf_cl] at hq
  obtain ⟨cA, kA, comp, g1, g2, g3⟩ := Cond.arrayClass_spec (hts (.arrayClass .int) (List.mem_of_getElem? (i := 35) (by decide +kernel)))
  obtain ⟨D, hDe⟩ : ∃ D : va_G, D = (dC, dI) := ⟨_, rfl⟩
  have hK : va_K D rf_cl [(cA, .int)] s := by
    rw [hDe]
    refine ⟨hKc, fun k q h => ?_⟩
    match k, h with
    | 0, h => cases h; exact ⟨fun n z => ⟨fun k h => (by cases h), kA, g2, comp, g3⟩, g1⟩
    | k + 1, h => simp at h
  have hS : va_S (fun q : Nat => s.heap.size ≤ q) s.heap s.heap [] := va_S.rf
  have hP : va_P D rf_cl [] s.heap := fun k q h => by simp at h
  have hD : va_D (fun q : Nat => s.heap.size ≤ q) [] := ⟨fun i j p q h => by simp at h, fun k q h => by simp at h⟩
  generalize hAe : (fun q : Nat => s.heap.size ≤ q) = A at hA hbA hS hD
  have hl := lv_entry ([.ref b]) (n := 4) (Nat.le_of_ble_eq_true rfl)
  rw [lg_entry_eq]
  generalize (lg_sl ([.ref b]) ++ List.replicate (4 - (lg_sl ([.ref b])).length) Slot.unset).toArray = ls at hl ⊢
  have hl : lv_has ls 4 [(0, .ref b)] := hl
  refine va_new (ci := 6) (fs := [.null, .null, .null, .null, .null, .null, .null, .int 0]) (C := rfRX6) (T := rfTX6) (N := 8) hx hb hts rf_in_law_X6 rftyX6 rftyX6_ok hown (hts _ (List.mem_of_getElem? (i := 11) (by decide +kernel))) (hts _ (List.mem_of_getElem? (i := 12) (by decide +kernel))) (hts _ (List.mem_of_getElem? (i := 1) (by decide +kernel))) hK hP hD hS hA rfl (fun j hj => by rcases (show j = 0 ∨ j = 1 ∨ j = 2 ∨ j = 3 ∨ j = 4 ∨ j = 5 ∨ j = 6 ∨ j = 7 by omega) with rfl | rfl | rfl | rfl | rfl | rfl | rfl | rfl <;> rfl) (Nat.le_of_ble_eq_true rfl) (Nat.le_of_ble_eq_true rfl) rf_dl_0 (fun q0 H hP hD hS => ?_)
  have hP : va_P D rf_cl [(q0, .inr (6, [.null, .null, .null, .null, .null, .null, .null, .int 0]))] H := hP
  have hD : va_D A [(q0, .inr (6, [.null, .null, .null, .null, .null, .null, .null, .int 0]))] := hD
  refine W.widen (k := 1) (n := 8) (Nat.le_of_ble_eq_true rfl) (Nat.le_of_ble_eq_true rfl) ?_
  refine lv_dup hx hb rf_dl_3 rfl ?_
  refine rf_call (wr := []) (As := []) (rest := [.ref q0]) ⟨hx, hb, hml, hown, hts⟩ (rf_c_X6_init l D cA q0) (cwI 0 hts rf_g_law_X6_init rfl rfl rfl (hts _ (List.mem_of_getElem? (i := 1) (by decide +kernel))) (hts _ (List.mem_of_getElem? (i := 13) (by decide +kernel))) (hts _ (List.mem_of_getElem? (i := 14) (by decide +kernel))) rfl rf_yd_X6_init ⟨Nat.le_of_ble_eq_true rfl, Nat.le_of_ble_eq_true rfl⟩) hK hP hD hA hS [0] [] rfl rfl (by decide) (by decide) (by decide) rfl hl.1 rfl (Nat.le_of_ble_eq_true rfl) rf_dl_4 ⟨Nat.le_of_ble_eq_true rfl, Nat.le_of_ble_eq_true rfl⟩ (fun z4 H locs hP hD hS => ?_)
  have hP : va_P D rf_cl [(z4, .inl (cA, 1144, .inl rf_Z))] H := hP
  have hD : va_D A [(z4, .inl (cA, 1144, .inl rf_Z))] := hD
  refine W.widen (k := 22) (n := 1915) (Nat.le_of_ble_eq_true rfl) (Nat.le_of_ble_eq_true rfl) ?_
  refine lv_astore_n (lv' := [(1, .ref q0), (0, .ref b)]) hx hb rf_dl_7 rfl hl (by decide) rfl (fun ls hl => ?_)
  refine va_new (ci := 7) (fs := [.null, .null, .null, .int 0, .null, .int 0, .null, .null, .int 0, .int 0, .int 0, .null, .null, .null]) (C := rfRX7) (T := rfTX7) (N := 14) hx hb hts rf_in_law_X7 rftyX7 rftyX7_ok hown (hts _ (List.mem_of_getElem? (i := 559) (by decide +kernel))) (hts _ (List.mem_of_getElem? (i := 560) (by decide +kernel))) (hts _ (List.mem_of_getElem? (i := 8) (by decide +kernel))) hK hP hD hS hA rfl (fun j hj => by rcases (show j = 0 ∨ j = 1 ∨ j = 2 ∨ j = 3 ∨ j = 4 ∨ j = 5 ∨ j = 6 ∨ j = 7 ∨ j = 8 ∨ j = 9 ∨ j = 10 ∨ j = 11 ∨ j = 12 ∨ j = 13 by omega) with rfl | rfl | rfl | rfl | rfl | rfl | rfl | rfl | rfl | rfl | rfl | rfl | rfl | rfl <;> rfl) (Nat.le_of_ble_eq_true rfl) (Nat.le_of_ble_eq_true rfl) rf_dl_8 (fun q8 H hP hD hS => ?_)
  have hP : va_P D rf_cl [(z4, .inl (cA, 1144, .inl rf_Z)), (q8, .inr (7, [.null, .null, .null, .int 0, .null, .int 0, .null, .null, .int 0, .int 0, .int 0, .null, .null, .null]))] H := hP
  have hD : va_D A [(z4, .inl (cA, 1144, .inl rf_Z)), (q8, .inr (7, [.null, .null, .null, .int 0, .null, .int 0, .null, .null, .int 0, .int 0, .int 0, .null, .null, .null]))] := hD
  refine W.widen (k := 23) (n := 1929) (Nat.le_of_ble_eq_true rfl) (Nat.le_of_ble_eq_true rfl) ?_
  refine lv_dup hx hb rf_dl_11 rfl ?_
  refine rf_call (wr := [(z4, .inl (cA, 1144, .inl rf_Z))]) (As := []) (rest := [.ref q8]) ⟨hx, hb, hml, hown, hts⟩ (rf_c_X7_init l D cA q8) (cwI 0 hts rf_g_law_X7_init rfl rfl rfl (hts _ (List.mem_of_getElem? (i := 8) (by decide +kernel))) (hts _ (List.mem_of_getElem? (i := 561) (by decide +kernel))) (hts _ (List.mem_of_getElem? (i := 562) (by decide +kernel))) rfl rf_yd_X7_init ⟨Nat.le_of_ble_eq_true rfl, Nat.le_of_ble_eq_true rfl⟩) hK hP hD hA hS [1] [0] rfl rfl (by decide) (by decide) (by decide) rfl hl.1 rfl (Nat.le_of_ble_eq_true rfl) rf_dl_12 ⟨Nat.le_of_ble_eq_true rfl, Nat.le_of_ble_eq_true rfl⟩ (fun z12 H locs hP hD hS => ?_)
  have hP : va_P D rf_cl [(z4, .inl (cA, 1144, .inl rf_Z)), (z12, .inl (cA, 1144, .inl rf_Z))] H := hP
  have hD : va_D A [(z4, .inl (cA, 1144, .inl rf_Z)), (z12, .inl (cA, 1144, .inl rf_Z))] := hD
  refine W.widen (k := 32) (n := 4103) (Nat.le_of_ble_eq_true rfl) (Nat.le_of_ble_eq_true rfl) ?_
  refine lv_astore_n (lv' := [(2, .ref q8), (1, .ref q0), (0, .ref b)]) hx hb rf_dl_15 rfl hl (by decide) rfl (fun ls hl => ?_)
  refine lv_iconst (v := 0) hx hb rf_dl_16 (by decide) ?_
  refine lv_istore_n (lv' := [(3, .int 0), (2, .ref q8), (1, .ref q0), (0, .ref b)]) hx hb rf_dl_17 rfl hl (by decide) rfl (fun ls hl => ?_)
  refine lv_iload_n hx hb rf_dl_18 rfl (lv_at hl 0 rfl) ?_
  refine lv_aload_n hx hb rf_dl_19 rfl (lv_at hl 3 rfl) ?_
  refine va_slen hx hb hX hbl hbA hS rf_dl_20 ?_
  refine lv_iconst (v := 4) hx hb rf_dl_21 (by decide) ?_
  refine lv_isub hx hb rf_dl_22 ?_
  refine lv_icmp_gt (tgt := 753) hx hb rf_dl_23 (by decide) (fun h3 => ?_) (fun h3 => absurd (by decide) h3)
  refine lv_iconst (v := 1) hx hb rf_dl_753 (by decide) ?_
  refine va_forget (fun q hq => by have h9 := hS.2.2 q hq; rw [← hAe] at h9; exact h9) ?_
  refine rf_ret hx hb hr hlocks rf_dl_754 ⟨z4, z12, _, _, fun h => ?_, ?_, ?_, hP 0 _ rfl, hP 1 _ rfl, ?_, ?_⟩
  · exact absurd (hD.1 0 1 _ _ rfl rfl h) (by decide)
  · have h9 := hD.2 0 _ rfl; rw [← hAe] at h9; exact h9
  · have h9 := hD.2 1 _ rfl; rw [← hAe] at h9; exact h9
  · exact rf_size
  · exact rf_size
abbrev rf_hd : Spec := headSpec (Jvm.Cond.code x code maxLocals ret :: tables_1) rf_room
def rf_Pre (b : Addr) (args : Array Value) (s : State) : Prop := args = #[.ref b] ∧ s.IntsAt b []
set_option maxHeartbeats 4000000 in
theorem rf_walk (l : Launch) (b : Addr) : MetFree l x rf_hd (rf_Pre b) (fun _ _ _ _ _ => True) rf_Q := by
  refine MetFree.of_bodyS (code := code) (maxLocals := maxLocals) (ret := ret) (by decide) ?_ ?_
  · intro args s m h hn
    obtain ⟨meth, c, h1, h2, h3, h4, h5, h6, -, -⟩ := Cond.code_spec hn (atoms_spec (ws := Jvm.Cond.code x code maxLocals ret :: tables_1) h _ List.mem_cons_self)
    exact ⟨meth, c, h1, h2, h3, h4, h5, h6⟩
  · intro p e s m args below meth c s₁ B hml0 hP _
    obtain ⟨rfl, hx⟩ := hP
    obtain ⟨scr, harrAt, hlist, hof, hsmall⟩ := hx
    obtain ⟨hcb, hkn, -, -⟩ := State.arrayAt?_spec harrAt
    have hown : s.vm.findClass "DollGarlandsLaw" = some m.cls := findClass_of_methodNamed B.named
    have hts0 : ∀ c ∈ (Jvm.Cond.code x code maxLocals ret :: tables_1), c.before #[Value.ref b] s = true := atoms_spec (ws := Jvm.Cond.code x code maxLocals ret :: tables_1) B.pre
    have hts : ∀ w ∈ tables_1, w.before #[Value.ref b] s = true := fun w hw => hts0 w (List.mem_cons_of_mem _ hw)
    have hml : c.maxLocals = 4 := B.maxLocals_eq (hts0 _ List.mem_cons_self)
    have X₀ : Stand p l e rf_room s m #[Value.ref b] below meth c s₁ [] 0 0 := Stand.of_body B
    have hh0 : s₁.heap = s.heap := by rw [B.state]; rfl
    have hsz : scr.slots.size = 0 := by rw [← Array.length_toList, hlist]; rfl
    have hbl : b < s.heap.size := (Array.getElem?_eq_some_iff.mp hcb).1
    have hX : va_X b 0 (fun _ => 0) s s.heap := ⟨scr, hcb, hof, hkn, hsz, fun j hj => absurd hj (Nat.not_lt_zero j)⟩
    have K : W p l e rf_room s m #[Value.ref b] below meth c s₁.heap [] 0 0 (rf_end below #[Value.ref b] s) (entryFrame m ([Value.ref b] : List Value).toArray 4) := by
      rw [hh0]
      exact rf_start l B.exec B.bytes B.returns hml hown hts hX hbl B.notSynchronized
    obtain ⟨t, a1, o, b1, b2, b3⟩ := K s₁ rfl X₀
    exact ⟨t, o, a1, b1, b2, b3⟩
/-! the start: the witness' own machine, its script empty -/
def rf_s : State := start1.aboutOf #[]
theorem rf_vm : rf_s.setVm start1.about.vm = rf_s := rfl
theorem rf_tables : tables_1.all (fun c => c.onTables || c.before start1.args0 rf_s) = true := by decide +kernel
theorem rf_words : ∀ c ∈ (Cond.code x code maxLocals ret :: tables_1), c.before start1.args0 rf_s = true := by
  have key : ∀ c : Cond, c.onTables = true → c.before start1.args0 start1.about = true → c.before start1.args0 rf_s = true := by
    intro c hc h
    have e1 := Cond.onTables_vm (A := start1.args0) (A' := start1.args0) (U := rf_s) (U' := start1.about) start1.about.vm c hc
    have h1 : rf_s.setVm start1.about.vm = rf_s := rfl
    have h2 : start1.about.setVm start1.about.vm = start1.about := rfl
    rw [h1, h2] at e1
    rw [e1]
    exact h
  intro c hc
  rcases List.mem_cons.mp hc with h | h
  · rw [h]
    exact key _ rfl start1.word_code
  · have h1 := List.all_eq_true.mp rf_tables c h
    cases hq : c.onTables with
    | true => exact key c hq (start1.words c hc)
    | false => rw [hq] at h1; simpa using h1
set_option maxRecDepth 16384 in
theorem rf_atStart : AtStart classFile x code maxLocals ret World_1 tables_1 room_1 Calls_1 rest_1 Pre_1 launch0 start1.p0 start1.e0 rf_s ⟨0, 0⟩ start1.args0 Lib.HandBits.below0 :=
  ⟨lists_1, trivial, launch0.admits_env _ _ _, launch0.least_env, fairChoices_fair.cas, fairChoices_fair.clock, rfl, by decide +kernel, by decide +kernel,
    (Spec.applies_iff rfl).mpr ⟨rfl, rfl, rfl, by decide +kernel, by decide +kernel, by decide +kernel, launch0.hasRoom_least _ room_1 (by decide +kernel) (by decide +kernel) (by decide +kernel) (by decide +kernel) (by decide +kernel) (by decide +kernel), atoms_intro rf_words⟩,
    trivial, (show rest_1_c.before start1.args0 rf_s = true by decide +kernel), (show (Cond.and given_1 narrow_1).before start1.args0 rf_s = true by decide +kernel)⟩
theorem rf_applies : rf_hd.applies x start1.e0.platform rf_s = true :=
  (Spec.applies_iff rfl).mpr ⟨rfl, rfl, rfl, by decide +kernel, by decide +kernel, by decide +kernel, launch0.hasRoom_least _ rf_room (by decide +kernel) (by decide +kernel) (by decide +kernel) (by decide +kernel) (by decide +kernel) (by decide +kernel), atoms_intro rf_words⟩
theorem rf_runs : ∃ (n : Nat) (o : Outcome), (∀ k, k < n → Within (stepsAlone start1.p0.tables start1.e0 k rf_s) Lib.HandBits.below0) ∧ (stepsAlone start1.p0.tables start1.e0 n rf_s).status = .running ∧ Ended (stepsAlone start1.p0.tables start1.e0 n rf_s) Lib.HandBits.below0 o ∧ rf_Q start1.args0 rf_s o (stepsAlone start1.p0.tables start1.e0 n rf_s) :=
  rf_walk launch0 0 start1.p0 start1.e0 (launch0.admits_env _ _ _) fairChoices_fair.cas fairChoices_fair.clock rf_s ⟨0, 0⟩ start1.args0 Lib.HandBits.below0 rfl ((Spec.applies_iff_loose rfl).mp rf_applies).1
    ⟨rfl, by
      have harr : (Cond.arrayOf (.arg 0) .int).before start1.args0 rf_s = true := by decide +kernel
      have hlen : (Cond.isInt (.length (.arg 0))).before start1.args0 rf_s = true := by decide +kernel
      have hall : (Cond.all (.arg 0) (.isInt (.elem (.arg 0) (.index 0)))).before start1.args0 rf_s = true := by decide +kernel
      obtain ⟨b, xs, hb, hx⟩ := State.ints_of_pre rfl harr hlen hall
      have h0 : b = 0 := by
        have h1 : start1.args0[0]? = some (Value.ref 0) := rfl
        have h2 : start1.args0[0]? = some (Value.ref b) := hb
        rw [h1] at h2
        cases h2
        rfl
      subst h0
      have h3 : xs = [] := by
        obtain ⟨scr, harrAt, hlist, hof, hsmall⟩ := hx
        obtain ⟨hcb, hkn, -, -⟩ := State.arrayAt?_spec harrAt
        have h4 : rf_s.heap[0]? = some { cls := 13, slots := #[], vm := .none } := rfl
        rw [h4] at hcb
        cases hcb
        have h5 := congrArg List.length hlist
        simp at h5
        exact List.eq_nil_of_length_eq_zero h5.symm
      rw [← h3]
      exact hx⟩ trivial
/-- no end with two cells of 1144 slots that are new keeps within the printed 2215 slots -/
theorem rf_not {a : Array Value} {s t : State} {o : Outcome} {L : List Loc} {k : Nat} (hq : rf_Q a s o t) (hF : Framed s o t L k 2215) : False := by
  obtain ⟨-, -, i, j, x, y, hij, hi, hj, hx, hy, h1, h2⟩ := hq
  obtain ⟨-, -, -, -, -, -, hs, -⟩ := hF
  have hs : ((t.heap.toList.drop s.heap.size).map (·.slots.size)).sum ≤ 2215 := hs
  have g1 : (t.heap.toList.drop s.heap.size)[i - s.heap.size]? = some x := by
    rw [List.getElem?_drop, Nat.add_sub_cancel' hi, Array.getElem?_toList]
    exact hx
  have g2 : (t.heap.toList.drop s.heap.size)[j - s.heap.size]? = some y := by
    rw [List.getElem?_drop, Nat.add_sub_cancel' hj, Array.getElem?_toList]
    exact hy
  have h3 := rf_sum2 _ (i - s.heap.size) (j - s.heap.size) x y (by omega) g1 g2
  omega
/-- THE STATEMENT'S OWN WORD OF A REFUTATION, of both halves: a start that meets every premise (the empty script), from which the law returns, and answers 1, at an end that the printed room doesn't allow -/
theorem refuted_1_1 : RefutedClaimed_1_1 := by
  obtain ⟨n, o, h1, h2, h3, h4⟩ := rf_runs
  exact ⟨launch0, start1.p0, start1.e0, rf_s, ⟨0, 0⟩, start1.args0, Lib.HandBits.below0, rfl, rf_atStart, n, o, h1, h2, h3, fun h => rf_not h4 h.2⟩
theorem refuted_1_2 : RefutedClaimed_1_2 := by
  obtain ⟨n, o, h1, h2, h3, h4⟩ := rf_runs
  exact ⟨launch0, start1.p0, start1.e0, rf_s, ⟨0, 0⟩, start1.args0, Lib.HandBits.below0, rfl, rf_atStart, n, o, h1, h2, h3, fun h => rf_not h4 h.2⟩
theorem rf_apart {s : State} {below : List Frame} {o : Outcome} (h : Ended s below o) (hw : Within s below) : False := by
  obtain ⟨above, ha, hne, hnt⟩ := hw
  have hlen : s.frames.length = above.length + below.length := by rw [ha, List.length_append]
  have hpos : 0 < above.length := List.length_pos_iff.mpr hne
  cases o with
  | threw a =>
    have h1 : s.frames = .throwing a :: below := h
    rw [ha] at h1
    have h2 : above ++ below = [Frame.throwing a] ++ below := h1
    exact hnt a (List.append_cancel_right h2)
  | returned v =>
    have h2 : s.frames.length = below.length := by
      cases below with
      | nil =>
        obtain ⟨-, h3⟩ := h
        rw [h3]
      | cons f r =>
        cases f with
        | java g => obtain ⟨c, i, len, -, -, h3⟩ := h; rw [h3]; rfl
        | native g => have h3 : s.frames = _ := h; rw [h3]; rfl
        | proc g => have h3 : s.frames = _ := h; rw [h3]; rfl
        | _ => obtain ⟨-, h3⟩ := h; rw [h3]
    omega
/-- so what is owed is false -/
theorem refuted : ¬ (Claimed_1_1 ∧ Claimed_1_2) ∧ ¬ Claimed_1_1 ∧ ¬ Claimed_1_2 := by
  have key : ∀ (Q : Tables → Env → Array Value → State → Outcome → State → Prop), (∀ tb e a s o t, Q tb e a s o t → ∃ L k, Framed s o t L k 2215) → ¬ ArmFor flags0 classFile x code maxLocals ret World_1 tables_1 room_1 Calls_1 rest_1 Pre_1 Q := by
    intro Q hQ h
    obtain ⟨n, o, h1, h2, h3, h4⟩ := rf_runs
    obtain ⟨a1, a2, a3, a4, a5, a6, a7, a8, a9, a10, a11, a12, a13⟩ := rf_atStart
    obtain ⟨n', o', k1, k2, k3, k4⟩ := h launch0 rfl a1 a2 start1.p0 start1.e0 a3 a5 a6 rf_s ⟨0, 0⟩ start1.args0 Lib.HandBits.below0 a7 a8 a9 a10 ⟨a11, a12, a13⟩
    have hn : n' = n := by
      rcases Nat.lt_trichotomy n' n with q | q | q
      · exact (rf_apart k3 (h1 _ q)).elim
      · exact q
      · exact (rf_apart h3 (k1 _ q)).elim
    subst hn
    obtain ⟨L, k, hF⟩ := hQ _ _ _ _ _ _ k4
    obtain ⟨⟨v, hv⟩, hF2⟩ := hF
    obtain ⟨ho, hF0, hbig⟩ := h4
    exact rf_not (a := start1.args0) (o := o) ⟨ho, hF0, hbig⟩ ⟨hF0.1, hF2⟩
  have f1 : ¬ Claimed_1_1 := key _ (fun _ _ _ _ _ _ h => ⟨_, _, h.2⟩)
  have f2 : ¬ Claimed_1_2 := key _ (fun _ _ _ _ _ _ h => ⟨_, _, h.2⟩)
  exact ⟨fun h => f1 h.1, f1, f2⟩

