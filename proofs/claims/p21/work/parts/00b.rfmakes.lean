abbrev rf_cl : List vw_C := [(rfRX0, rfTX0, 4), (rfRX1, rfTX1, 3), (rfRX2, rfTX2, 1), (rfRX3, rfTX3, 1), (rfRX4, rfTX4, 1), (rfRX5, rfTX5, 2), (rfRX6, rfTX6, 8), (rfRX7, rfTX7, 14)]
/-! base: a contract of a method that makes cells, over a world of cells; calls; what an end that is framed can't hold -/
abbrev rf_Z : Nat → Int32 := fun _ => 0
def rf_P (D : va_G) (cA : ClassId) (av : List Value) (sz : Nat) (wc : va_W) : Array Value → State → Prop := va_Pc av (fun U => U.heap.size = sz ∧ va_P D rf_cl wc U.heap ∧ va_K D rf_cl [(cA, .int)] U ∧ va_D (fun _ => True) wc)
theorem rf_P_blind {D : va_G} {cA : ClassId} {av : List Value} {sz : Nat} {wc : va_W} : FrameBlind (rf_P D cA av sz wc) := fun a U g mk q => by
  obtain ⟨q0, q1, qP, qK, qD⟩ := q
  exact ⟨q0, q1, qP, va_K.moved (u := U) (U := U.calling g mk a) (Vm.Alike.refl U.vm) qK, qD⟩
theorem rf_P_at {D : va_G} {cA : ClassId} {av : List Value} {wc : va_W} {H : Heap} {s : State} {A : Nat → Prop} (hP : va_P D rf_cl wc H) (hK : va_K D rf_cl [(cA, .int)] s) (hD : va_D A wc) : ∀ U : State, U.heap = H → s.WarmedH U.vm → rf_P D cA av H.size wc av.toArray U :=
  fun U hU hW => ⟨rfl, by rw [hU], by rw [hU]; exact hP, va_K.moved hW.alike hK, hD.weaken (fun _ _ _ _ => trivial)⟩
def rf_M (l : Launch) (D : va_G) (cA : ClassId) (y : MethodName) (ws : List Cond) (rm : Room) (av : List Value) (wc : va_W) (mc ms : Nat) {S : Type} (w' : S → va_W) : Prop :=
  ∀ sz : Nat, Met l y ws rm (rf_P D cA av sz wc) (va_Qv (fun _ : S => True) (fun u t => va_P D rf_cl (w' u) t.heap ∧ va_D (va_A wc sz) (w' u)) (va_A wc sz)) mc ms (va_A wc sz)
theorem rf_of {l : Launch} {D : va_G} {cA : ClassId} {y : MethodName} {ws ws' : List Cond} {rm : Room} {av : List Value} {wc : va_W} {mc ms : Nat} {S : Type} {w' : S → va_W} {cc : ByteArray} {maxL : Nat}
    (hy : plainName y.cls = true) (hw : ws = Cond.code y cc maxL none :: ws') (hlen : (lg_sl av).length ≤ maxL)
    (body : ∀ (p : Program) (e : Env) (s : State) (m : MethodId) (args : Array Value) (below : List Frame) (meth : Method) (c : Code) (Q : State → Prop) (A : Nat → Prop) (ls : Array Slot), CallFix p m c cc maxL s args ws y.cls → meth.name = y.name → va_K D rf_cl [(cA, .int)] s → va_P D rf_cl wc s.heap → va_D A wc → (∀ q : Nat, s.heap.size ≤ q → A q) → va_S A s.heap s.heap [] → lv_has ls maxL (lv_args 0 av) →
      (∀ (H : Heap) (locs : List Loc) (pc : Nat) (ls : Array Slot) (u : S), decode cc pc = .ok (.return_, 1) → va_P D rf_cl (w' u) H → va_D A (w' u) → va_S A s.heap H locs → W p l e rm s m args below meth c H locs mc ms Q (F0 m pc ls [])) →
      W p l e rm s m args below meth c s.heap [] 0 0 Q (F0 m 0 ls [])) : rf_M l D cA y ws rm av wc mc ms w' := by
  intro sz
  refine Met.ofW (cc := cc) (maxL := maxL) (ret := none) hy hw ?_
  intro p e s m args below meth c s₁ B hml hv
  obtain ⟨rfl, hsz, hP, hK, hD0⟩ := hv
  subst hsz
  have hts := atoms_spec (ws := ws) B.pre
  have hown : s.vm.findClass y.cls = some m.cls := findClass_of_methodNamed B.named
  have hin : meth.name = y.name := (name_of_methodNamed B.named B.method).1
  have hlocks := B.notSynchronized
  have hl := lv_entry av (n := maxL) hlen
  rw [lg_entry_eq]
  refine body p e s m _ below meth c _ (va_A wc s.heap.size) _ ⟨B.exec, B.bytes, hml, hown, hts⟩ hin hK hP hD0.self (fun q h => Or.inr h) va_S.rf hl ?_
  intro H locs pc ls u hd hP' hD' hS'
  exact W.vret B.exec B.bytes B.returns (fun t ht hW => ⟨⟨u, rfl, trivial, by rw [ht]; exact hP', hD'⟩, hS'.F ht⟩) hS'.2.2 hd hlocks
section RFC
variable {p : Program} {l : Launch} {e : Env} {R : Room} {s : State} {m : MethodId} {args : Array Value} {below : List Frame} {meth : Method} {c : Code} {H : Heap} {locs : List Loc} {Q : State → Prop} {cells slots : Nat}
variable {cc : ByteArray} {nL pc : Nat} {ls : Array Slot} {rest st0 : List Value} {D : va_G} {cA : ClassId} {A : Nat → Prop} {wm wc wr : va_W} {Ts wsY : List Cond} {rmY : Room} {y : MethodName} {bytes : ByteArray} {maxL index n mc ms : Nat} {own : String} {b : Addr} {As : List Value} {S : Type}
theorem rf_sub (hP : va_P D rf_cl wm H) {isC : List Nat} (hC : isC.map (fun i => wm[i]?) = wc.map some) : va_P D rf_cl wc H := by
  intro k q hk
  have h4 : (isC.map (fun i => wm[i]?))[k]? = some (some q) := by rw [hC, List.getElem?_map, hk]; rfl
  rw [List.getElem?_map] at h4
  cases hi : isC[k]? with
  | none => rw [hi] at h4; cases h4
  | some i => rw [hi] at h4; exact hP i q (Option.some.inj h4)
theorem rf_call {w' : S → va_W} (F : CallFix p m c cc nL s args Ts own) (hM : rf_M l D cA y wsY rmY (.ref b :: As) wc mc ms w') (cw : CallB R s args own index y bytes maxL none wsY rmY mc ms n ∧ y.name = "<init>" ∧ (Cond.instanceMethod y).before args s = true)
    (hK : va_K D rf_cl [(cA, .int)] s) (hP : va_P D rf_cl wm H) (hD : va_D A wm) (hA : ∀ q, s.heap.size ≤ q → A q) (hS : va_S A s.heap H locs) (isC isR : List Nat)
    (hC : isC.map (fun i => wm[i]?) = wc.map some) (hR : isR.map (fun i => wm[i]?) = wr.map some) (hnC : va_nd isC = true) (hnR : va_nd isR = true) (hdis : ∀ i ∈ isR, i ∉ isC)
    (hn : As.length = n) (hl : ls.size = nL) (hst : st0 = As.reverse ++ .ref b :: rest) (hW : (rest.map fun v => v.category).sum ≤ 8) (hdg : decode cc pc = .ok (.invokespecial index, 3)) (hcs : cells + mc ≤ R.cells ∧ slots + ms ≤ R.slots)
    (kk : ∀ (u : S) (H1 : Heap) (locs1 : List Loc), va_P D rf_cl (wr ++ w' u) H1 → va_D A (wr ++ w' u) → va_S A s.heap H1 locs1 → W p l e R s m args below meth c H1 locs1 (cells + mc) (slots + ms) Q (F0 m (pc + 3) ls rest)) :
    W p l e R s m args below meth c H locs cells slots Q (F0 m pc ls st0) := by
  have hF := va_free (wc := wc) hD hS hA isC hC
  refine va_callv (va_runI (As := As) (rest := rest) F (hM H.size) cw ⟨rf_P_blind, rf_P_at (rf_sub hP hC) hK (hD.sub isC hnC hC)⟩ rfl hn hl hst (by show 2 * 0 + _ ≤ 8; omega) hdg hcs) hS (fun q _ h => hF q h) hF (fun u t H1 locs1 ht hvm hw hB hz hk hS1 => ?_)
  obtain ⟨hP1, hD1⟩ := hB
  rw [ht] at hP1
  obtain ⟨h1, h2⟩ := va_join hP hD isC isR hC hR hnR hdis hk hF hP1 hD1
  exact kk u H1 locs1 h1 h2 hS1
theorem rf_callV {w' : S → va_W} {q : vw_C} {fs : List Value} (F : CallFix p m c cc nL s args Ts own) (hM : rf_M l D cA y wsY rmY (.ref b :: As) wc mc ms w') {ret : Option FieldType} (cw : CallW R s args own q.1 index y bytes maxL ret wsY rmY mc ms n)
    (hK : va_K D rf_cl [(cA, .int)] s) (hP : va_P D rf_cl wm H) (hD : va_D A wm) (hA : ∀ q, s.heap.size ≤ q → A q) (hS : va_S A s.heap H locs) (isC isR : List Nat)
    (hC : isC.map (fun i => wm[i]?) = wc.map some) (hR : isR.map (fun i => wm[i]?) = wr.map some) (hnC : va_nd isC = true) (hnR : va_nd isR = true) (hdis : ∀ i ∈ isR, i ∉ isC) (q0 ci : Nat) (hci : rf_cl[ci]? = some q) (hq0 : wm[q0]? = some (b, .inr (ci, fs)))
    (hn : As.length = n) (hl : ls.size = nL) (hst : st0 = As.reverse ++ .ref b :: rest) (hW : (rest.map fun v => v.category).sum ≤ 8) (hdg : decode cc pc = .ok (.invokevirtual index, 3)) (hcs : cells + mc ≤ R.cells ∧ slots + ms ≤ R.slots)
    (kk : ∀ (u : S) (H1 : Heap) (locs1 : List Loc), va_P D rf_cl (wr ++ w' u) H1 → va_D A (wr ++ w' u) → va_S A s.heap H1 locs1 → W p l e R s m args below meth c H1 locs1 (cells + mc) (slots + ms) Q (F0 m (pc + 3) ls rest)) :
    W p l e R s m args below meth c H locs cells slots Q (F0 m pc ls st0) := by
  have hF := va_free (wc := wc) hD hS hA isC hC
  refine va_callv (va_runV (As := As) (rest := rest) (C := q.1) F (hM H.size) cw ⟨rf_P_blind, va_recv hK hP hci hq0, rf_P_at (rf_sub hP hC) hK (hD.sub isC hnC hC)⟩ rfl hn hl hst (by show 2 * 0 + _ ≤ 8; omega) hdg hcs) hS (fun q _ h => hF q h) hF (fun u t H1 locs1 ht hvm hw hB hz hk hS1 => ?_)
  obtain ⟨hP1, hD1⟩ := hB
  rw [ht] at hP1
  obtain ⟨h1, h2⟩ := va_join hP hD isC isR hC hR hnR hdis hk hF hP1 hD1
  exact kk u H1 locs1 h1 h2 hS1
theorem rf_newa {H0 : Heap} (hexec : p.tables.exec = Jvm.exec) (hb : c.code = cc) (harr : (Cond.arrayClass .int).before args s = true) (hK : va_K D rf_cl [(cA, .int)] s) (hP : va_P D rf_cl wm H) (hD : va_D A wm) (hS : va_S A H0 H locs) (hA : ∀ q, H0.size ≤ q → A q)
    {x : Int32} {N : Nat} (hx0 : ¬ x < 0) (hN : x.toNatClampNeg = N) (hbytes : N * 4 ≤ 536870912) (hcells : cells + 1 ≤ R.cells) (hslots : slots + N ≤ R.slots) (hdg : decode cc pc = .ok (.newarray .int, 2))
    (kk : ∀ (q : Nat) (H1 : Heap), va_P D rf_cl (wm ++ [(q, .inl (cA, N, .inl rf_Z))]) H1 → va_D A (wm ++ [(q, .inl (cA, N, .inl rf_Z))]) → va_S A H0 H1 locs → W p l e R s m args below meth c H1 locs (cells + 1) (slots + N) Q (F0 m (pc + 2) ls (.ref q :: rest))) :
    W p l e R s m args below meth c H locs cells slots Q (F0 m pc ls (.int x :: rest)) := by
  refine va_newa (atype := .int) (ty := .int) (a0 := (N, .inl rf_Z)) hexec hb harr rfl hK hP hD hS hA (fun cB => rfl) hx0 hN hbytes hcells hslots hdg (fun q cB H1 hK1 hP1 hD1 hS1 => ?_)
  have h1 := (hK1.2 1 _ rfl).2
  have h2 := (hK1.2 0 _ rfl).2
  have hc : cB = cA := Option.some.inj (h1.symm.trans h2)
  rw [hc] at hP1 hD1
  exact kk q H1 hP1 hD1 hS1
end RFC
theorem rf_in {i : Int32} {n : Nat} (hn : n < 2 ^ 31) (h0 : ¬ i < 0) (h1 : ¬ nI n ≤ i) : vp_in i n := by
  obtain ⟨j, hj, rfl⟩ := nI_of h0
  have h2 : j < n := Nat.lt_of_not_le (fun h => h1 (nI_le h hj))
  exact vp_in_nI h2 hn
theorem rf_sum1 : ∀ (L : List Cell) (i : Nat) (a : Cell), L[i]? = some a → a.slots.size ≤ (L.map (·.slots.size)).sum
  | [], i, a, h => by simp at h
  | x :: L, 0, a, h => by
    have h4 : x = a := by simpa using h
    subst h4
    simp
  | x :: L, i + 1, a, h => by
    have h3 := rf_sum1 L i a (by simpa using h)
    simp
    omega
theorem rf_sum2 : ∀ (L : List Cell) (i j : Nat) (a b : Cell), i ≠ j → L[i]? = some a → L[j]? = some b → a.slots.size + b.slots.size ≤ (L.map (·.slots.size)).sum
  | [], i, j, a, b, _, h, _ => by simp at h
  | x :: L, 0, 0, a, b, hn, _, _ => absurd rfl hn
  | x :: L, 0, j + 1, a, b, _, h1, h2 => by
    have h3 := rf_sum1 L j b (by simpa using h2)
    have h4 : x = a := by simpa using h1
    subst h4
    simp
    omega
  | x :: L, i + 1, 0, a, b, _, h1, h2 => by
    have h3 := rf_sum1 L i a (by simpa using h1)
    have h4 : x = b := by simpa using h2
    subst h4
    simp
    omega
  | x :: L, i + 1, j + 1, a, b, hn, h1, h2 => by
    have h3 := rf_sum2 L i j a b (fun h => hn (by rw [h])) (by simpa using h1) (by simpa using h2)
    simp
    omega
set_option maxHeartbeats 4000000 in
set_option maxRecDepth 100000 in
theorem rf_c_X3_init (l : Launch) (D : va_G) (cA : ClassId) (h0 n : Nat) (h1 : 0 < n) (h2 : n < 100000) : rf_M l D cA rfyX3_init rfwsX3_init { frames := 1, cells := 1, slots := n, locals := 20 } [.ref h0, .int (nI n)] [(h0, .inr (3, [.null]))] 1 n (S := Nat) (fun z => [(h0, .inr (3, [.ref z])), (z, .inl (cA, n, .inl rf_Z))]) := by
  refine rf_of (cc := rfcX3_init) (maxL := 2) (by decide) rfl (Nat.le_of_ble_eq_true rfl) ?_
  intro p e s m args below meth c Q A ls F hin hK hP hD hA hS hl RET
  obtain ⟨hx, hb, hml, hown, hts⟩ := id F
  have hl : lv_has ls 2 [(0, .ref h0), (1, .int (nI n))] := hl
  refine lv_aload_n hx hb rfdX3_init_0 rfl (lv_at hl 0 rfl) ?_
  refine W.objInit hx hb hown (hts _ (List.mem_of_getElem? (i := 1) rfl)) (hts _ (List.mem_of_getElem? (i := 2) rfl)) (hts _ (List.mem_of_getElem? (i := 3) rfl)) rfl (by rw [hml]; exact hl.1) rfl rfdX3_init_1 (Nat.le_of_ble_eq_true rfl) (Nat.le_of_ble_eq_true rfl) ?_
  refine W.eq (g2 := F0 m 4 ls []) rfl ?_
  refine lv_aload_n hx hb rfdX3_init_4 rfl (lv_at hl 0 rfl) ?_
  refine lv_iload_n hx hb rfdX3_init_5 rfl (lv_at hl 1 rfl) ?_
  refine lv_if_le (tgt := 13) hx hb rfdX3_init_6 (by decide) (fun h3 => absurd h3 (nI_nle h1 (by omega))) (fun h3 => ?_)
  refine lv_iload_n hx hb rfdX3_init_9 rfl (lv_at hl 1 rfl) ?_
  refine lv_goto (tgt := 14) hx hb rfdX3_init_10 (by decide) ?_
  refine rf_newa (N := n) hx hb (hts _ (List.mem_of_getElem? (i := 4) rfl)) hK hP hD hS hA (nI_pos (by omega)) (nI_clamp (by omega)) (by omega) (Nat.le_of_ble_eq_true rfl) (by show 0 + n ≤ n; omega) rfdX3_init_14 (fun z H hP hD hS => ?_)
  have hP : va_P D rf_cl [(h0, .inr (3, [.null])), (z, .inl (cA, n, .inl rf_Z))] H := hP
  have hD : va_D A [(h0, .inr (3, [.null])), (z, .inl (cA, n, .inl rf_Z))] := hD
  refine W.widen (k := 1) (n := n) (Nat.le_of_ble_eq_true rfl) (by omega) ?_
  refine va_putF (D := D) (ci := 3) (v := .ref z) (ty := .array .int) (C := rfRX3) (T := rfTX3) (N := 1) hx hb hts rf_in_X3_init_X3 rftyX3 rftyX3_ok rfnmX3 hown hK hP hD hS 0 rfl rfl 0 (by decide) (hts _ (List.mem_of_getElem? (i := 5) rfl)) (fun _ h9 => h9) rfl hin rfl (by decide +kernel) rfl rfl (Nat.le_of_ble_eq_true rfl) rfdX3_init_16 (fun H locs hP hD hS => ?_)
  have hP : va_P D rf_cl [(h0, .inr (3, [.ref z])), (z, .inl (cA, n, .inl rf_Z))] H := hP
  have hD : va_D A [(h0, .inr (3, [.ref z])), (z, .inl (cA, n, .inl rf_Z))] := hD
  exact RET _ _ _ _ z rfdX3_init_19 (hP.sub [0, 1] rfl) (hD.sub [0, 1] (by decide) rfl) hS
set_option maxHeartbeats 4000000 in
set_option maxRecDepth 100000 in
theorem rf_c_X3_put (l : Launch) (D : va_G) (cA : ClassId) (h0 h1 n : Nat) (f : Nat → Int32) (i v : Int32) (hn : n < 2 ^ 31) : rf_M l D cA rfyX3_put rfwsX3_put { frames := 0, cells := 0, slots := 0, locals := 0 } [.ref h0, .int i, .int v] [(h0, .inr (3, [.ref h1])), (h1, .inl (cA, n, .inl f))] 0 0 (S := Nat → Int32) (fun g => [(h0, .inr (3, [.ref h1])), (h1, .inl (cA, n, .inl g))]) := by
  refine rf_of (cc := rfcX3_put) (maxL := 3) (by decide) rfl (Nat.le_of_ble_eq_true rfl) ?_
  intro p e s m args below meth c Q A ls F hin hK hP hD hA hS hl RET
  obtain ⟨hx, hb, hml, hown, hts⟩ := id F
  have hl : lv_has ls 3 [(0, .ref h0), (1, .int i), (2, .int v)] := hl
  refine lv_iload_n hx hb rfdX3_put_0 rfl (lv_at hl 1 rfl) ?_
  refine lv_if_lt (tgt := 20) hx hb rfdX3_put_1 (by decide) (fun h3 => ?_) (fun h3 => ?_)
  · exact RET _ _ _ _ f rfdX3_put_20 hP hD hS
  · refine lv_iload_n hx hb rfdX3_put_4 rfl (lv_at hl 1 rfl) ?_
    refine lv_aload_n hx hb rfdX3_put_5 rfl (lv_at hl 0 rfl) ?_
    refine va_get (D := D) (ci := 3) (v := .ref h1) (C := rfRX3) (T := rfTX3) (N := 1) hx hb hts rf_in_X3_put_X3 hown hK hP 0 rfl rfl 0 (by decide) (hts _ (List.mem_of_getElem? (i := 1) rfl)) (fun _ h9 => h9) rfl rfdX3_put_6 ?_
    refine va_alen (v := nI n) hx hb hK hP 1 0 rfl rfl rfl rfdX3_put_9 ?_
    refine lv_icmp_ge (tgt := 20) hx hb rfdX3_put_10 (by decide) (fun h4 => ?_) (fun h4 => ?_)
    · exact RET _ _ _ _ f rfdX3_put_20 hP hD hS
    · refine lv_aload_n hx hb rfdX3_put_13 rfl (lv_at hl 0 rfl) ?_
      refine va_get (D := D) (ci := 3) (v := .ref h1) (C := rfRX3) (T := rfTX3) (N := 1) hx hb hts rf_in_X3_put_X3 hown hK hP 0 rfl rfl 0 (by decide) (hts _ (List.mem_of_getElem? (i := 1) rfl)) (fun _ h9 => h9) rfl rfdX3_put_14 ?_
      refine lv_iload_n hx hb rfdX3_put_17 rfl (lv_at hl 1 rfl) ?_
      refine lv_iload_n hx hb rfdX3_put_18 rfl (lv_at hl 2 rfl) ?_
      refine va_iast hx hb hK hP hD hS 1 0 rfl rfl (rf_in hn h3 h4) rfdX3_put_19 (fun H locs hP hD hS => ?_)
      exact RET _ _ _ _ _ rfdX3_put_20 hP hD hS
set_option maxHeartbeats 4000000 in
set_option maxRecDepth 100000 in
theorem rf_c_X4_init (l : Launch) (D : va_G) (cA : ClassId) (h0 : Nat) : rf_M l D cA rfyX4_init rfwsX4_init { frames := 2, cells := 2, slots := 287, locals := 41 } [.ref h0] [(h0, .inr (4, [.null]))] 2 287 (S := Unit) (fun _ => []) := by
  refine rf_of (cc := rfcX4_init) (maxL := 2) (by decide) rfl (Nat.le_of_ble_eq_true rfl) ?_
  intro p e s m args below meth c Q A ls F hin hK hP hD hA hS hl RET
  obtain ⟨hx, hb, hml, hown, hts⟩ := id F
  have hl : lv_has ls 2 [(0, .ref h0)] := hl
  refine lv_aload_n hx hb rfdX4_init_0 rfl (lv_at hl 0 rfl) ?_
  refine W.objInit hx hb hown (hts _ (List.mem_of_getElem? (i := 1) rfl)) (hts _ (List.mem_of_getElem? (i := 2) rfl)) (hts _ (List.mem_of_getElem? (i := 3) rfl)) rfl (by rw [hml]; exact hl.1) rfl rfdX4_init_1 (Nat.le_of_ble_eq_true rfl) (Nat.le_of_ble_eq_true rfl) ?_
  refine W.eq (g2 := F0 m 4 ls []) rfl ?_
  refine lv_aload_n hx hb rfdX4_init_4 rfl (lv_at hl 0 rfl) ?_
  refine va_new (ci := 3) (fs := [.null]) (C := rfRX3) (T := rfTX3) (N := 1) hx hb hts rf_in_X4_init_X3 rftyX3 rftyX3_ok hown (hts _ (List.mem_of_getElem? (i := 4) rfl)) (hts _ (List.mem_of_getElem? (i := 5) rfl)) (hts _ (List.mem_of_getElem? (i := 6) rfl)) hK hP hD hS hA rfl (fun j hj => by rcases (show j = 0 by omega) with rfl <;> rfl) (Nat.le_of_ble_eq_true rfl) (Nat.le_of_ble_eq_true rfl) rfdX4_init_5 (fun q5 H hP hD hS => ?_)
  have hP : va_P D rf_cl [(h0, .inr (4, [.null])), (q5, .inr (3, [.null]))] H := hP
  have hD : va_D A [(h0, .inr (4, [.null])), (q5, .inr (3, [.null]))] := hD
  refine W.widen (k := 1) (n := 1) (Nat.le_of_ble_eq_true rfl) (Nat.le_of_ble_eq_true rfl) ?_
  refine lv_dup hx hb rfdX4_init_8 rfl ?_
  refine lv_sipush (v := (nI 286)) hx hb rfdX4_init_9 (by decide) ?_
  refine rf_call (wr := [(h0, .inr (4, [.null]))]) (As := [.int (nI 286)]) (rest := [.ref q5, .ref h0]) ⟨hx, hb, hml, hown, hts⟩ (rf_c_X3_init l D cA q5 286 (by decide) (by decide)) (cwI 1 hts rf_g_X4_init_X3_init rfl rfl rfl (hts _ (List.mem_of_getElem? (i := 6) rfl)) (hts _ (List.mem_of_getElem? (i := 8) rfl)) (hts _ (List.mem_of_getElem? (i := 9) rfl)) rfl rf_yd_X3_init ⟨Nat.le_of_ble_eq_true rfl, Nat.le_of_ble_eq_true rfl⟩) hK hP hD hA hS [1] [0] rfl rfl (by decide) (by decide) (by decide) rfl hl.1 rfl (Nat.le_of_ble_eq_true rfl) rfdX4_init_12 ⟨Nat.le_of_ble_eq_true rfl, Nat.le_of_ble_eq_true rfl⟩ (fun z12 H locs hP hD hS => ?_)
  have hP : va_P D rf_cl [(h0, .inr (4, [.null])), (q5, .inr (3, [.ref z12])), (z12, .inl (cA, 286, .inl rf_Z))] H := hP
  have hD : va_D A [(h0, .inr (4, [.null])), (q5, .inr (3, [.ref z12])), (z12, .inl (cA, 286, .inl rf_Z))] := hD
  refine W.widen (k := 2) (n := 287) (Nat.le_of_ble_eq_true rfl) (Nat.le_of_ble_eq_true rfl) ?_
  refine va_putF (D := D) (ci := 4) (v := .ref q5) (ty := .object "DollGarlands$Row") (C := rfRX4) (T := rfTX4) (N := 1) hx hb hts rf_in_X4_init_X4 rftyX4 rftyX4_ok rfnmX4 hown hK hP hD hS 0 rfl rfl 0 (by decide) (hts _ (List.mem_of_getElem? (i := 7) rfl)) (fun _ h9 => h9) rfl hin rfl (by decide +kernel) rfl rfl (Nat.le_of_ble_eq_true rfl) rfdX4_init_15 (fun H locs hP hD hS => ?_)
  have hP : va_P D rf_cl [(h0, .inr (4, [.ref q5])), (q5, .inr (3, [.ref z12])), (z12, .inl (cA, 286, .inl rf_Z))] H := hP
  have hD : va_D A [(h0, .inr (4, [.ref q5])), (q5, .inr (3, [.ref z12])), (z12, .inl (cA, 286, .inl rf_Z))] := hD
  refine lv_aload_n hx hb rfdX4_init_18 rfl (lv_at hl 0 rfl) ?_
  refine va_get (D := D) (ci := 4) (v := .ref q5) (C := rfRX4) (T := rfTX4) (N := 1) hx hb hts rf_in_X4_init_X4 hown hK hP 0 rfl rfl 0 (by decide) (hts _ (List.mem_of_getElem? (i := 7) rfl)) (fun _ h9 => h9) rfl rfdX4_init_19 ?_
  refine lv_iconst (v := 1) hx hb rfdX4_init_22 (by decide) ?_
  refine lv_iconst (v := 3) hx hb rfdX4_init_23 (by decide) ?_
  refine rf_callV (wr := [(h0, .inr (4, [.ref q5]))]) (As := [.int 1, .int 3]) (rest := []) (q := (rfRX3, rfTX3, 1)) (fs := [.ref z12]) ⟨hx, hb, hml, hown, hts⟩ (rf_c_X3_put l D cA q5 z12 286 rf_Z 1 3 (by decide)) (cwV 2 hts rf_g_X4_init_X3_put rfl rfl rfl rf_yd_X3_put ⟨Nat.le_of_ble_eq_true rfl, Nat.le_of_ble_eq_true rfl⟩) hK hP hD hA hS [1, 2] [0] rfl rfl (by decide) (by decide) (by decide) 1 3 rfl rfl rfl hl.1 rfl (Nat.le_of_ble_eq_true rfl) rfdX4_init_24 ⟨Nat.le_of_ble_eq_true rfl, Nat.le_of_ble_eq_true rfl⟩ (fun g24 H locs hP hD hS => ?_)
  have hP : va_P D rf_cl [(h0, .inr (4, [.ref q5])), (q5, .inr (3, [.ref z12])), (z12, .inl (cA, 286, .inl g24))] H := hP
  have hD : va_D A [(h0, .inr (4, [.ref q5])), (q5, .inr (3, [.ref z12])), (z12, .inl (cA, 286, .inl g24))] := hD
  refine W.widen (k := 2) (n := 287) (Nat.le_of_ble_eq_true rfl) (Nat.le_of_ble_eq_true rfl) ?_
  refine lv_iconst (v := 0) hx hb rfdX4_init_27 (by decide) ?_
  refine lv_istore_n (lv' := [(1, .int 0), (0, .ref h0)]) hx hb rfdX4_init_28 rfl hl (by decide) rfl (fun ls hl => ?_)
  have LP : ∀ (n_ k_ : Nat), k_ + n_ = 10 → ∀ (f_ : Nat → Int32) (H : Heap) (locs : List Loc) (ls : Array Slot), va_P D rf_cl [(h0, .inr (4, [.ref q5])), (q5, .inr (3, [.ref z12])), (z12, .inl (cA, 286, .inl f_))] H → va_D A [(h0, .inr (4, [.ref q5])), (q5, .inr (3, [.ref z12])), (z12, .inl (cA, 286, .inl f_))] → va_S A s.heap H locs → lv_has ls 2 [(1, .int (nI k_)), (0, .ref h0)] → W p l e { frames := 2, cells := 2, slots := 287, locals := 41 } s m args below meth c H locs 2 287 Q (F0 m 29 ls []) := by
    intro n_
    induction n_ with
    | zero =>
      intro k_ hk_ f_ H locs ls hP hD hS hl
      refine lv_iload_n hx hb rfdX4_init_29 rfl (lv_at hl 0 rfl) ?_
      refine lv_bipush (v := (nI 10)) hx hb rfdX4_init_30 (by decide) ?_
      refine lv_icmp_ge (tgt := 72) hx hb rfdX4_init_32 (by decide) (fun h3 => ?_) (fun h3 => absurd (nI_le (by omega) (by omega)) h3)
      exact RET _ _ _ _ () rfdX4_init_72 (hP.sub [] rfl) (hD.sub [] (by decide) rfl) hS
    | succ n_ ih_ =>
      intro k_ hk_ f_ H locs ls hP hD hS hl
      refine lv_iload_n hx hb rfdX4_init_29 rfl (lv_at hl 0 rfl) ?_
      refine lv_bipush (v := (nI 10)) hx hb rfdX4_init_30 (by decide) ?_
      refine lv_icmp_ge (tgt := 72) hx hb rfdX4_init_32 (by decide) (fun h3 => absurd h3 (nI_ge (by omega) (by omega))) (fun h3 => ?_)
      refine lv_aload_n hx hb rfdX4_init_35 rfl (lv_at hl 1 rfl) ?_
      refine va_get (D := D) (ci := 4) (v := .ref q5) (C := rfRX4) (T := rfTX4) (N := 1) hx hb hts rf_in_X4_init_X4 hown hK hP 0 rfl rfl 0 (by decide) (hts _ (List.mem_of_getElem? (i := 7) rfl)) (fun _ h9 => h9) rfl rfdX4_init_36 ?_
      refine lv_iconst (v := 2) hx hb rfdX4_init_39 (by decide) ?_
      refine lv_iload_n hx hb rfdX4_init_40 rfl (lv_at hl 0 rfl) ?_
      refine lv_iadd hx hb rfdX4_init_41 ?_
      refine lv_iload_n hx hb rfdX4_init_42 rfl (lv_at hl 0 rfl) ?_
      refine lv_bipush (v := 6) hx hb rfdX4_init_43 (by decide) ?_
      refine lv_irem hx hb rfdX4_init_45 (by decide) ?_
      refine lv_topi (fun x45_ ex45_ => ?_)
      refine rf_callV (wr := [(h0, .inr (4, [.ref q5]))]) (As := [.int (2 + (nI k_)), .int x45_]) (rest := []) (q := (rfRX3, rfTX3, 1)) (fs := [.ref z12]) ⟨hx, hb, hml, hown, hts⟩ (rf_c_X3_put l D cA q5 z12 286 f_ (2 + (nI k_)) x45_ (by decide)) (cwV 2 hts rf_g_X4_init_X3_put rfl rfl rfl rf_yd_X3_put ⟨Nat.le_of_ble_eq_true rfl, Nat.le_of_ble_eq_true rfl⟩) hK hP hD hA hS [1, 2] [0] rfl rfl (by decide) (by decide) (by decide) 1 3 rfl rfl rfl hl.1 rfl (Nat.le_of_ble_eq_true rfl) rfdX4_init_46 ⟨Nat.le_of_ble_eq_true rfl, Nat.le_of_ble_eq_true rfl⟩ (fun g46 H locs hP hD hS => ?_)
      have hP : va_P D rf_cl [(h0, .inr (4, [.ref q5])), (q5, .inr (3, [.ref z12])), (z12, .inl (cA, 286, .inl g46))] H := hP
      have hD : va_D A [(h0, .inr (4, [.ref q5])), (q5, .inr (3, [.ref z12])), (z12, .inl (cA, 286, .inl g46))] := hD
      refine W.widen (k := 2) (n := 287) (Nat.le_of_ble_eq_true rfl) (Nat.le_of_ble_eq_true rfl) ?_
      refine lv_aload_n hx hb rfdX4_init_49 rfl (lv_at hl 1 rfl) ?_
      refine va_get (D := D) (ci := 4) (v := .ref q5) (C := rfRX4) (T := rfTX4) (N := 1) hx hb hts rf_in_X4_init_X4 hown hK hP 0 rfl rfl 0 (by decide) (hts _ (List.mem_of_getElem? (i := 7) rfl)) (fun _ h9 => h9) rfl rfdX4_init_50 ?_
      refine lv_bipush (v := 12) hx hb rfdX4_init_53 (by decide) ?_
      refine lv_iload_n hx hb rfdX4_init_55 rfl (lv_at hl 0 rfl) ?_
      refine lv_iadd hx hb rfdX4_init_56 ?_
      refine lv_iload_n hx hb rfdX4_init_57 rfl (lv_at hl 0 rfl) ?_
      refine lv_iconst (v := 1) hx hb rfdX4_init_58 (by decide) ?_
      refine lv_iadd hx hb rfdX4_init_59 ?_
      refine lv_bipush (v := 6) hx hb rfdX4_init_60 (by decide) ?_
      refine lv_irem hx hb rfdX4_init_62 (by decide) ?_
      refine lv_topi (fun x62_ ex62_ => ?_)
      refine rf_callV (wr := [(h0, .inr (4, [.ref q5]))]) (As := [.int (12 + (nI k_)), .int x62_]) (rest := []) (q := (rfRX3, rfTX3, 1)) (fs := [.ref z12]) ⟨hx, hb, hml, hown, hts⟩ (rf_c_X3_put l D cA q5 z12 286 g46 (12 + (nI k_)) x62_ (by decide)) (cwV 2 hts rf_g_X4_init_X3_put rfl rfl rfl rf_yd_X3_put ⟨Nat.le_of_ble_eq_true rfl, Nat.le_of_ble_eq_true rfl⟩) hK hP hD hA hS [1, 2] [0] rfl rfl (by decide) (by decide) (by decide) 1 3 rfl rfl rfl hl.1 rfl (Nat.le_of_ble_eq_true rfl) rfdX4_init_63 ⟨Nat.le_of_ble_eq_true rfl, Nat.le_of_ble_eq_true rfl⟩ (fun g63 H locs hP hD hS => ?_)
      have hP : va_P D rf_cl [(h0, .inr (4, [.ref q5])), (q5, .inr (3, [.ref z12])), (z12, .inl (cA, 286, .inl g63))] H := hP
      have hD : va_D A [(h0, .inr (4, [.ref q5])), (q5, .inr (3, [.ref z12])), (z12, .inl (cA, 286, .inl g63))] := hD
      refine W.widen (k := 2) (n := 287) (Nat.le_of_ble_eq_true rfl) (Nat.le_of_ble_eq_true rfl) ?_
      refine lv_iinc (v := nI (k_ + 1)) (lv' := [(1, .int (nI (k_ + 1))), (0, .ref h0)]) hx hb rfdX4_init_66 hl (k := 0) rfl (nI_succ k_).symm (by decide) rfl (fun ls hl => ?_)
      refine lv_goto (tgt := 29) hx hb rfdX4_init_69 (by decide) ?_
      exact ih_ (k_ + 1) (by omega) g63 H locs ls hP hD hS hl
  exact LP 10 0 rfl g24 H locs ls hP hD hS (lv_sub hl [0, 1] rfl)
set_option maxHeartbeats 4000000 in
set_option maxRecDepth 100000 in
theorem rf_c_X2_init (l : Launch) (D : va_G) (cA : ClassId) (h0 t0 : Nat) : rf_M l D cA rfyX2_init rfwsX2_init { frames := 1, cells := 0, slots := 0, locals := 20 } [.ref h0, .ref t0] [(h0, .inr (2, [.null]))] 0 0 (S := Unit) (fun _ => []) := by
  refine rf_of (cc := rfcX2_init) (maxL := 2) (by decide) rfl (Nat.le_of_ble_eq_true rfl) ?_
  intro p e s m args below meth c Q A ls F hin hK hP hD hA hS hl RET
  obtain ⟨hx, hb, hml, hown, hts⟩ := id F
  have hl : lv_has ls 2 [(0, .ref h0), (1, .ref t0)] := hl
  refine lv_aload_n hx hb rfdX2_init_0 rfl (lv_at hl 0 rfl) ?_
  refine W.objInit hx hb hown (hts _ (List.mem_of_getElem? (i := 1) rfl)) (hts _ (List.mem_of_getElem? (i := 2) rfl)) (hts _ (List.mem_of_getElem? (i := 3) rfl)) rfl (by rw [hml]; exact hl.1) rfl rfdX2_init_1 (Nat.le_of_ble_eq_true rfl) (Nat.le_of_ble_eq_true rfl) ?_
  refine W.eq (g2 := F0 m 4 ls []) rfl ?_
  refine lv_aload_n hx hb rfdX2_init_4 rfl (lv_at hl 0 rfl) ?_
  refine lv_aload_n hx hb rfdX2_init_5 rfl (lv_at hl 1 rfl) ?_
  refine va_putF (D := D) (ci := 2) (v := .ref t0) (ty := .object "DollGarlands$Table") (C := rfRX2) (T := rfTX2) (N := 1) hx hb hts rf_in_X2_init_X2 rftyX2 rftyX2_ok rfnmX2 hown hK hP hD hS 0 rfl rfl 0 (by decide) (hts _ (List.mem_of_getElem? (i := 4) rfl)) (fun _ h9 => h9) rfl hin rfl (by decide +kernel) rfl rfl (Nat.le_of_ble_eq_true rfl) rfdX2_init_6 (fun H locs hP hD hS => ?_)
  have hP : va_P D rf_cl [(h0, .inr (2, [.ref t0]))] H := hP
  have hD : va_D A [(h0, .inr (2, [.ref t0]))] := hD
  exact RET _ _ _ _ () rfdX2_init_9 (hP.sub [] rfl) (hD.sub [] (by decide) rfl) hS
set_option maxHeartbeats 4000000 in
set_option maxRecDepth 100000 in
theorem rf_c_X0_init (l : Launch) (D : va_G) (cA : ClassId) (h0 t0 : Nat) : rf_M l D cA rfyX0_init rfwsX0_init { frames := 2, cells := 6, slots := 63, locals := 41 } [.ref h0, .ref t0] [(h0, .inr (0, [.null, .null, .null, .null]))] 6 63 (S := Unit) (fun _ => []) := by
  refine rf_of (cc := rfcX0_init) (maxL := 2) (by decide) rfl (Nat.le_of_ble_eq_true rfl) ?_
  intro p e s m args below meth c Q A ls F hin hK hP hD hA hS hl RET
  obtain ⟨hx, hb, hml, hown, hts⟩ := id F
  have hl : lv_has ls 2 [(0, .ref h0), (1, .ref t0)] := hl
  refine lv_aload_n hx hb rfdX0_init_0 rfl (lv_at hl 0 rfl) ?_
  refine W.objInit hx hb hown (hts _ (List.mem_of_getElem? (i := 1) rfl)) (hts _ (List.mem_of_getElem? (i := 2) rfl)) (hts _ (List.mem_of_getElem? (i := 3) rfl)) rfl (by rw [hml]; exact hl.1) rfl rfdX0_init_1 (Nat.le_of_ble_eq_true rfl) (Nat.le_of_ble_eq_true rfl) ?_
  refine W.eq (g2 := F0 m 4 ls []) rfl ?_
  refine lv_aload_n hx hb rfdX0_init_4 rfl (lv_at hl 0 rfl) ?_
  refine lv_aload_n hx hb rfdX0_init_5 rfl (lv_at hl 1 rfl) ?_
  refine va_putF (D := D) (ci := 0) (v := .ref t0) (ty := .object "DollGarlands$Table") (C := rfRX0) (T := rfTX0) (N := 4) hx hb hts rf_in_X0_init_X0 rftyX0 rftyX0_ok rfnmX0 hown hK hP hD hS 0 rfl rfl 0 (by decide) (hts _ (List.mem_of_getElem? (i := 4) rfl)) (fun _ h9 => h9) rfl hin rfl (by decide +kernel) rfl rfl (Nat.le_of_ble_eq_true rfl) rfdX0_init_6 (fun H locs hP hD hS => ?_)
  have hP : va_P D rf_cl [(h0, .inr (0, [.ref t0, .null, .null, .null]))] H := hP
  have hD : va_D A [(h0, .inr (0, [.ref t0, .null, .null, .null]))] := hD
  refine lv_aload_n hx hb rfdX0_init_9 rfl (lv_at hl 0 rfl) ?_
  refine va_new (ci := 3) (fs := [.null]) (C := rfRX3) (T := rfTX3) (N := 1) hx hb hts rf_in_X0_init_X3 rftyX3 rftyX3_ok hown (hts _ (List.mem_of_getElem? (i := 5) rfl)) (hts _ (List.mem_of_getElem? (i := 6) rfl)) (hts _ (List.mem_of_getElem? (i := 7) rfl)) hK hP hD hS hA rfl (fun j hj => by rcases (show j = 0 by omega) with rfl <;> rfl) (Nat.le_of_ble_eq_true rfl) (Nat.le_of_ble_eq_true rfl) rfdX0_init_10 (fun q10 H hP hD hS => ?_)
  have hP : va_P D rf_cl [(h0, .inr (0, [.ref t0, .null, .null, .null])), (q10, .inr (3, [.null]))] H := hP
  have hD : va_D A [(h0, .inr (0, [.ref t0, .null, .null, .null])), (q10, .inr (3, [.null]))] := hD
  refine W.widen (k := 1) (n := 1) (Nat.le_of_ble_eq_true rfl) (Nat.le_of_ble_eq_true rfl) ?_
  refine lv_dup hx hb rfdX0_init_13 rfl ?_
  refine lv_bipush (v := (nI 20)) hx hb rfdX0_init_14 (by decide) ?_
  refine rf_call (wr := [(h0, .inr (0, [.ref t0, .null, .null, .null]))]) (As := [.int (nI 20)]) (rest := [.ref q10, .ref h0]) ⟨hx, hb, hml, hown, hts⟩ (rf_c_X3_init l D cA q10 20 (by decide) (by decide)) (cwI 1 hts rf_g_X0_init_X3_init rfl rfl rfl (hts _ (List.mem_of_getElem? (i := 7) rfl)) (hts _ (List.mem_of_getElem? (i := 11) rfl)) (hts _ (List.mem_of_getElem? (i := 12) rfl)) rfl rf_yd_X3_init ⟨Nat.le_of_ble_eq_true rfl, Nat.le_of_ble_eq_true rfl⟩) hK hP hD hA hS [1] [0] rfl rfl (by decide) (by decide) (by decide) rfl hl.1 rfl (Nat.le_of_ble_eq_true rfl) rfdX0_init_16 ⟨Nat.le_of_ble_eq_true rfl, Nat.le_of_ble_eq_true rfl⟩ (fun z16 H locs hP hD hS => ?_)
  have hP : va_P D rf_cl [(h0, .inr (0, [.ref t0, .null, .null, .null])), (q10, .inr (3, [.ref z16])), (z16, .inl (cA, 20, .inl rf_Z))] H := hP
  have hD : va_D A [(h0, .inr (0, [.ref t0, .null, .null, .null])), (q10, .inr (3, [.ref z16])), (z16, .inl (cA, 20, .inl rf_Z))] := hD
  refine W.widen (k := 2) (n := 21) (Nat.le_of_ble_eq_true rfl) (Nat.le_of_ble_eq_true rfl) ?_
  refine va_putF (D := D) (ci := 0) (v := .ref q10) (ty := .object "DollGarlands$Row") (C := rfRX0) (T := rfTX0) (N := 4) hx hb hts rf_in_X0_init_X0 rftyX0 rftyX0_ok rfnmX0 hown hK hP hD hS 0 rfl rfl 1 (by decide) (hts _ (List.mem_of_getElem? (i := 8) rfl)) (fun _ h9 => h9) rfl hin rfl (by decide +kernel) rfl rfl (Nat.le_of_ble_eq_true rfl) rfdX0_init_19 (fun H locs hP hD hS => ?_)
  have hP : va_P D rf_cl [(h0, .inr (0, [.ref t0, .ref q10, .null, .null])), (q10, .inr (3, [.ref z16])), (z16, .inl (cA, 20, .inl rf_Z))] H := hP
  have hD : va_D A [(h0, .inr (0, [.ref t0, .ref q10, .null, .null])), (q10, .inr (3, [.ref z16])), (z16, .inl (cA, 20, .inl rf_Z))] := hD
  refine lv_aload_n hx hb rfdX0_init_22 rfl (lv_at hl 0 rfl) ?_
  refine va_new (ci := 3) (fs := [.null]) (C := rfRX3) (T := rfTX3) (N := 1) hx hb hts rf_in_X0_init_X3 rftyX3 rftyX3_ok hown (hts _ (List.mem_of_getElem? (i := 5) rfl)) (hts _ (List.mem_of_getElem? (i := 6) rfl)) (hts _ (List.mem_of_getElem? (i := 7) rfl)) hK hP hD hS hA rfl (fun j hj => by rcases (show j = 0 by omega) with rfl <;> rfl) (Nat.le_of_ble_eq_true rfl) (Nat.le_of_ble_eq_true rfl) rfdX0_init_23 (fun q23 H hP hD hS => ?_)
  have hP : va_P D rf_cl [(h0, .inr (0, [.ref t0, .ref q10, .null, .null])), (q10, .inr (3, [.ref z16])), (z16, .inl (cA, 20, .inl rf_Z)), (q23, .inr (3, [.null]))] H := hP
  have hD : va_D A [(h0, .inr (0, [.ref t0, .ref q10, .null, .null])), (q10, .inr (3, [.ref z16])), (z16, .inl (cA, 20, .inl rf_Z)), (q23, .inr (3, [.null]))] := hD
  refine W.widen (k := 3) (n := 22) (Nat.le_of_ble_eq_true rfl) (Nat.le_of_ble_eq_true rfl) ?_
  refine lv_dup hx hb rfdX0_init_26 rfl ?_
  refine lv_bipush (v := (nI 20)) hx hb rfdX0_init_27 (by decide) ?_
  refine rf_call (wr := [(h0, .inr (0, [.ref t0, .ref q10, .null, .null])), (q10, .inr (3, [.ref z16])), (z16, .inl (cA, 20, .inl rf_Z))]) (As := [.int (nI 20)]) (rest := [.ref q23, .ref h0]) ⟨hx, hb, hml, hown, hts⟩ (rf_c_X3_init l D cA q23 20 (by decide) (by decide)) (cwI 1 hts rf_g_X0_init_X3_init rfl rfl rfl (hts _ (List.mem_of_getElem? (i := 7) rfl)) (hts _ (List.mem_of_getElem? (i := 11) rfl)) (hts _ (List.mem_of_getElem? (i := 12) rfl)) rfl rf_yd_X3_init ⟨Nat.le_of_ble_eq_true rfl, Nat.le_of_ble_eq_true rfl⟩) hK hP hD hA hS [3] [0, 1, 2] rfl rfl (by decide) (by decide) (by decide) rfl hl.1 rfl (Nat.le_of_ble_eq_true rfl) rfdX0_init_29 ⟨Nat.le_of_ble_eq_true rfl, Nat.le_of_ble_eq_true rfl⟩ (fun z29 H locs hP hD hS => ?_)
  have hP : va_P D rf_cl [(h0, .inr (0, [.ref t0, .ref q10, .null, .null])), (q10, .inr (3, [.ref z16])), (z16, .inl (cA, 20, .inl rf_Z)), (q23, .inr (3, [.ref z29])), (z29, .inl (cA, 20, .inl rf_Z))] H := hP
  have hD : va_D A [(h0, .inr (0, [.ref t0, .ref q10, .null, .null])), (q10, .inr (3, [.ref z16])), (z16, .inl (cA, 20, .inl rf_Z)), (q23, .inr (3, [.ref z29])), (z29, .inl (cA, 20, .inl rf_Z))] := hD
  refine W.widen (k := 4) (n := 42) (Nat.le_of_ble_eq_true rfl) (Nat.le_of_ble_eq_true rfl) ?_
  refine va_putF (D := D) (ci := 0) (v := .ref q23) (ty := .object "DollGarlands$Row") (C := rfRX0) (T := rfTX0) (N := 4) hx hb hts rf_in_X0_init_X0 rftyX0 rftyX0_ok rfnmX0 hown hK hP hD hS 0 rfl rfl 2 (by decide) (hts _ (List.mem_of_getElem? (i := 9) rfl)) (fun _ h9 => h9) rfl hin rfl (by decide +kernel) rfl rfl (Nat.le_of_ble_eq_true rfl) rfdX0_init_32 (fun H locs hP hD hS => ?_)
  have hP : va_P D rf_cl [(h0, .inr (0, [.ref t0, .ref q10, .ref q23, .null])), (q10, .inr (3, [.ref z16])), (z16, .inl (cA, 20, .inl rf_Z)), (q23, .inr (3, [.ref z29])), (z29, .inl (cA, 20, .inl rf_Z))] H := hP
  have hD : va_D A [(h0, .inr (0, [.ref t0, .ref q10, .ref q23, .null])), (q10, .inr (3, [.ref z16])), (z16, .inl (cA, 20, .inl rf_Z)), (q23, .inr (3, [.ref z29])), (z29, .inl (cA, 20, .inl rf_Z))] := hD
  refine lv_aload_n hx hb rfdX0_init_35 rfl (lv_at hl 0 rfl) ?_
  refine va_new (ci := 3) (fs := [.null]) (C := rfRX3) (T := rfTX3) (N := 1) hx hb hts rf_in_X0_init_X3 rftyX3 rftyX3_ok hown (hts _ (List.mem_of_getElem? (i := 5) rfl)) (hts _ (List.mem_of_getElem? (i := 6) rfl)) (hts _ (List.mem_of_getElem? (i := 7) rfl)) hK hP hD hS hA rfl (fun j hj => by rcases (show j = 0 by omega) with rfl <;> rfl) (Nat.le_of_ble_eq_true rfl) (Nat.le_of_ble_eq_true rfl) rfdX0_init_36 (fun q36 H hP hD hS => ?_)
  have hP : va_P D rf_cl [(h0, .inr (0, [.ref t0, .ref q10, .ref q23, .null])), (q10, .inr (3, [.ref z16])), (z16, .inl (cA, 20, .inl rf_Z)), (q23, .inr (3, [.ref z29])), (z29, .inl (cA, 20, .inl rf_Z)), (q36, .inr (3, [.null]))] H := hP
  have hD : va_D A [(h0, .inr (0, [.ref t0, .ref q10, .ref q23, .null])), (q10, .inr (3, [.ref z16])), (z16, .inl (cA, 20, .inl rf_Z)), (q23, .inr (3, [.ref z29])), (z29, .inl (cA, 20, .inl rf_Z)), (q36, .inr (3, [.null]))] := hD
  refine W.widen (k := 5) (n := 43) (Nat.le_of_ble_eq_true rfl) (Nat.le_of_ble_eq_true rfl) ?_
  refine lv_dup hx hb rfdX0_init_39 rfl ?_
  refine lv_bipush (v := (nI 20)) hx hb rfdX0_init_40 (by decide) ?_
  refine rf_call (wr := [(h0, .inr (0, [.ref t0, .ref q10, .ref q23, .null])), (q10, .inr (3, [.ref z16])), (z16, .inl (cA, 20, .inl rf_Z)), (q23, .inr (3, [.ref z29])), (z29, .inl (cA, 20, .inl rf_Z))]) (As := [.int (nI 20)]) (rest := [.ref q36, .ref h0]) ⟨hx, hb, hml, hown, hts⟩ (rf_c_X3_init l D cA q36 20 (by decide) (by decide)) (cwI 1 hts rf_g_X0_init_X3_init rfl rfl rfl (hts _ (List.mem_of_getElem? (i := 7) rfl)) (hts _ (List.mem_of_getElem? (i := 11) rfl)) (hts _ (List.mem_of_getElem? (i := 12) rfl)) rfl rf_yd_X3_init ⟨Nat.le_of_ble_eq_true rfl, Nat.le_of_ble_eq_true rfl⟩) hK hP hD hA hS [5] [0, 1, 2, 3, 4] rfl rfl (by decide) (by decide) (by decide) rfl hl.1 rfl (Nat.le_of_ble_eq_true rfl) rfdX0_init_42 ⟨Nat.le_of_ble_eq_true rfl, Nat.le_of_ble_eq_true rfl⟩ (fun z42 H locs hP hD hS => ?_)
  have hP : va_P D rf_cl [(h0, .inr (0, [.ref t0, .ref q10, .ref q23, .null])), (q10, .inr (3, [.ref z16])), (z16, .inl (cA, 20, .inl rf_Z)), (q23, .inr (3, [.ref z29])), (z29, .inl (cA, 20, .inl rf_Z)), (q36, .inr (3, [.ref z42])), (z42, .inl (cA, 20, .inl rf_Z))] H := hP
  have hD : va_D A [(h0, .inr (0, [.ref t0, .ref q10, .ref q23, .null])), (q10, .inr (3, [.ref z16])), (z16, .inl (cA, 20, .inl rf_Z)), (q23, .inr (3, [.ref z29])), (z29, .inl (cA, 20, .inl rf_Z)), (q36, .inr (3, [.ref z42])), (z42, .inl (cA, 20, .inl rf_Z))] := hD
  refine W.widen (k := 6) (n := 63) (Nat.le_of_ble_eq_true rfl) (Nat.le_of_ble_eq_true rfl) ?_
  refine va_putF (D := D) (ci := 0) (v := .ref q36) (ty := .object "DollGarlands$Row") (C := rfRX0) (T := rfTX0) (N := 4) hx hb hts rf_in_X0_init_X0 rftyX0 rftyX0_ok rfnmX0 hown hK hP hD hS 0 rfl rfl 3 (by decide) (hts _ (List.mem_of_getElem? (i := 10) rfl)) (fun _ h9 => h9) rfl hin rfl (by decide +kernel) rfl rfl (Nat.le_of_ble_eq_true rfl) rfdX0_init_45 (fun H locs hP hD hS => ?_)
  have hP : va_P D rf_cl [(h0, .inr (0, [.ref t0, .ref q10, .ref q23, .ref q36])), (q10, .inr (3, [.ref z16])), (z16, .inl (cA, 20, .inl rf_Z)), (q23, .inr (3, [.ref z29])), (z29, .inl (cA, 20, .inl rf_Z)), (q36, .inr (3, [.ref z42])), (z42, .inl (cA, 20, .inl rf_Z))] H := hP
  have hD : va_D A [(h0, .inr (0, [.ref t0, .ref q10, .ref q23, .ref q36])), (q10, .inr (3, [.ref z16])), (z16, .inl (cA, 20, .inl rf_Z)), (q23, .inr (3, [.ref z29])), (z29, .inl (cA, 20, .inl rf_Z)), (q36, .inr (3, [.ref z42])), (z42, .inl (cA, 20, .inl rf_Z))] := hD
  exact RET _ _ _ _ () rfdX0_init_48 (hP.sub [] rfl) (hD.sub [] (by decide) rfl) hS
set_option maxHeartbeats 4000000 in
set_option maxRecDepth 100000 in
theorem rf_c_X1_init (l : Launch) (D : va_G) (cA : ClassId) (h0 : Nat) : rf_M l D cA rfyX1_init rfwsX1_init { frames := 2, cells := 2, slots := 1145, locals := 41 } [.ref h0] [(h0, .inr (1, [.null, .int 0, .int 0]))] 2 1145 (S := Nat) (fun z => [(z, .inl (cA, 1144, .inl rf_Z))]) := by
  refine rf_of (cc := rfcX1_init) (maxL := 1) (by decide) rfl (Nat.le_of_ble_eq_true rfl) ?_
  intro p e s m args below meth c Q A ls F hin hK hP hD hA hS hl RET
  obtain ⟨hx, hb, hml, hown, hts⟩ := id F
  have hl : lv_has ls 1 [(0, .ref h0)] := hl
  refine lv_aload_n hx hb rfdX1_init_0 rfl (lv_at hl 0 rfl) ?_
  refine W.objInit hx hb hown (hts _ (List.mem_of_getElem? (i := 1) rfl)) (hts _ (List.mem_of_getElem? (i := 2) rfl)) (hts _ (List.mem_of_getElem? (i := 3) rfl)) rfl (by rw [hml]; exact hl.1) rfl rfdX1_init_1 (Nat.le_of_ble_eq_true rfl) (Nat.le_of_ble_eq_true rfl) ?_
  refine W.eq (g2 := F0 m 4 ls []) rfl ?_
  refine lv_aload_n hx hb rfdX1_init_4 rfl (lv_at hl 0 rfl) ?_
  refine va_new (ci := 3) (fs := [.null]) (C := rfRX3) (T := rfTX3) (N := 1) hx hb hts rf_in_X1_init_X3 rftyX3 rftyX3_ok hown (hts _ (List.mem_of_getElem? (i := 4) rfl)) (hts _ (List.mem_of_getElem? (i := 5) rfl)) (hts _ (List.mem_of_getElem? (i := 6) rfl)) hK hP hD hS hA rfl (fun j hj => by rcases (show j = 0 by omega) with rfl <;> rfl) (Nat.le_of_ble_eq_true rfl) (Nat.le_of_ble_eq_true rfl) rfdX1_init_5 (fun q5 H hP hD hS => ?_)
  have hP : va_P D rf_cl [(h0, .inr (1, [.null, .int 0, .int 0])), (q5, .inr (3, [.null]))] H := hP
  have hD : va_D A [(h0, .inr (1, [.null, .int 0, .int 0])), (q5, .inr (3, [.null]))] := hD
  refine W.widen (k := 1) (n := 1) (Nat.le_of_ble_eq_true rfl) (Nat.le_of_ble_eq_true rfl) ?_
  refine lv_dup hx hb rfdX1_init_8 rfl ?_
  refine lv_sipush (v := (nI 1144)) hx hb rfdX1_init_9 (by decide) ?_
  refine rf_call (wr := [(h0, .inr (1, [.null, .int 0, .int 0]))]) (As := [.int (nI 1144)]) (rest := [.ref q5, .ref h0]) ⟨hx, hb, hml, hown, hts⟩ (rf_c_X3_init l D cA q5 1144 (by decide) (by decide)) (cwI 1 hts rf_g_X1_init_X3_init rfl rfl rfl (hts _ (List.mem_of_getElem? (i := 6) rfl)) (hts _ (List.mem_of_getElem? (i := 10) rfl)) (hts _ (List.mem_of_getElem? (i := 11) rfl)) rfl rf_yd_X3_init ⟨Nat.le_of_ble_eq_true rfl, Nat.le_of_ble_eq_true rfl⟩) hK hP hD hA hS [1] [0] rfl rfl (by decide) (by decide) (by decide) rfl hl.1 rfl (Nat.le_of_ble_eq_true rfl) rfdX1_init_12 ⟨Nat.le_of_ble_eq_true rfl, Nat.le_of_ble_eq_true rfl⟩ (fun z12 H locs hP hD hS => ?_)
  have hP : va_P D rf_cl [(h0, .inr (1, [.null, .int 0, .int 0])), (q5, .inr (3, [.ref z12])), (z12, .inl (cA, 1144, .inl rf_Z))] H := hP
  have hD : va_D A [(h0, .inr (1, [.null, .int 0, .int 0])), (q5, .inr (3, [.ref z12])), (z12, .inl (cA, 1144, .inl rf_Z))] := hD
  refine W.widen (k := 2) (n := 1145) (Nat.le_of_ble_eq_true rfl) (Nat.le_of_ble_eq_true rfl) ?_
  refine va_putF (D := D) (ci := 1) (v := .ref q5) (ty := .object "DollGarlands$Row") (C := rfRX1) (T := rfTX1) (N := 3) hx hb hts rf_in_X1_init_X1 rftyX1 rftyX1_ok rfnmX1 hown hK hP hD hS 0 rfl rfl 0 (by decide) (hts _ (List.mem_of_getElem? (i := 7) rfl)) (fun _ h9 => h9) rfl hin rfl (by decide +kernel) rfl rfl (Nat.le_of_ble_eq_true rfl) rfdX1_init_15 (fun H locs hP hD hS => ?_)
  have hP : va_P D rf_cl [(h0, .inr (1, [.ref q5, .int 0, .int 0])), (q5, .inr (3, [.ref z12])), (z12, .inl (cA, 1144, .inl rf_Z))] H := hP
  have hD : va_D A [(h0, .inr (1, [.ref q5, .int 0, .int 0])), (q5, .inr (3, [.ref z12])), (z12, .inl (cA, 1144, .inl rf_Z))] := hD
  refine lv_aload_n hx hb rfdX1_init_18 rfl (lv_at hl 0 rfl) ?_
  refine lv_iconst (v := 0) hx hb rfdX1_init_19 (by decide) ?_
  refine va_put (D := D) (ci := 1) (v := .int 0) (ty := .int) (C := rfRX1) (T := rfTX1) (N := 3) hx hb hts rf_in_X1_init_X1 rftyX1 rftyX1_ok rfnmX1 hown hK hP hD hS 0 rfl rfl 1 (by decide) (hts _ (List.mem_of_getElem? (i := 8) rfl)) (fun _ h9 => h9) rfl (by decide +kernel) rfl rfl (Nat.le_of_ble_eq_true rfl) rfdX1_init_20 (fun H locs hP hD hS => ?_)
  have hP : va_P D rf_cl [(h0, .inr (1, [.ref q5, .int 0, .int 0])), (q5, .inr (3, [.ref z12])), (z12, .inl (cA, 1144, .inl rf_Z))] H := hP
  have hD : va_D A [(h0, .inr (1, [.ref q5, .int 0, .int 0])), (q5, .inr (3, [.ref z12])), (z12, .inl (cA, 1144, .inl rf_Z))] := hD
  refine lv_aload_n hx hb rfdX1_init_23 rfl (lv_at hl 0 rfl) ?_
  refine lv_iconst (v := 0) hx hb rfdX1_init_24 (by decide) ?_
  refine va_put (D := D) (ci := 1) (v := .int 0) (ty := .int) (C := rfRX1) (T := rfTX1) (N := 3) hx hb hts rf_in_X1_init_X1 rftyX1 rftyX1_ok rfnmX1 hown hK hP hD hS 0 rfl rfl 2 (by decide) (hts _ (List.mem_of_getElem? (i := 9) rfl)) (fun _ h9 => h9) rfl (by decide +kernel) rfl rfl (Nat.le_of_ble_eq_true rfl) rfdX1_init_25 (fun H locs hP hD hS => ?_)
  have hP : va_P D rf_cl [(h0, .inr (1, [.ref q5, .int 0, .int 0])), (q5, .inr (3, [.ref z12])), (z12, .inl (cA, 1144, .inl rf_Z))] H := hP
  have hD : va_D A [(h0, .inr (1, [.ref q5, .int 0, .int 0])), (q5, .inr (3, [.ref z12])), (z12, .inl (cA, 1144, .inl rf_Z))] := hD
  exact RET _ _ _ _ z12 rfdX1_init_28 (hP.sub [2] rfl) (hD.sub [2] (by decide) rfl) hS
set_option maxHeartbeats 4000000 in
set_option maxRecDepth 100000 in
theorem rf_c_X5_init (l : Launch) (D : va_G) (cA : ClassId) (h0 : Nat) : rf_M l D cA rfyX5_init rfwsX5_init { frames := 2, cells := 2, slots := 81, locals := 41 } [.ref h0] [(h0, .inr (5, [.null, .int 0]))] 2 81 (S := Unit) (fun _ => []) := by
  refine rf_of (cc := rfcX5_init) (maxL := 1) (by decide) rfl (Nat.le_of_ble_eq_true rfl) ?_
  intro p e s m args below meth c Q A ls F hin hK hP hD hA hS hl RET
  obtain ⟨hx, hb, hml, hown, hts⟩ := id F
  have hl : lv_has ls 1 [(0, .ref h0)] := hl
  refine lv_aload_n hx hb rfdX5_init_0 rfl (lv_at hl 0 rfl) ?_
  refine W.objInit hx hb hown (hts _ (List.mem_of_getElem? (i := 1) rfl)) (hts _ (List.mem_of_getElem? (i := 2) rfl)) (hts _ (List.mem_of_getElem? (i := 3) rfl)) rfl (by rw [hml]; exact hl.1) rfl rfdX5_init_1 (Nat.le_of_ble_eq_true rfl) (Nat.le_of_ble_eq_true rfl) ?_
  refine W.eq (g2 := F0 m 4 ls []) rfl ?_
  refine lv_aload_n hx hb rfdX5_init_4 rfl (lv_at hl 0 rfl) ?_
  refine va_new (ci := 3) (fs := [.null]) (C := rfRX3) (T := rfTX3) (N := 1) hx hb hts rf_in_X5_init_X3 rftyX3 rftyX3_ok hown (hts _ (List.mem_of_getElem? (i := 4) rfl)) (hts _ (List.mem_of_getElem? (i := 5) rfl)) (hts _ (List.mem_of_getElem? (i := 6) rfl)) hK hP hD hS hA rfl (fun j hj => by rcases (show j = 0 by omega) with rfl <;> rfl) (Nat.le_of_ble_eq_true rfl) (Nat.le_of_ble_eq_true rfl) rfdX5_init_5 (fun q5 H hP hD hS => ?_)
  have hP : va_P D rf_cl [(h0, .inr (5, [.null, .int 0])), (q5, .inr (3, [.null]))] H := hP
  have hD : va_D A [(h0, .inr (5, [.null, .int 0])), (q5, .inr (3, [.null]))] := hD
  refine W.widen (k := 1) (n := 1) (Nat.le_of_ble_eq_true rfl) (Nat.le_of_ble_eq_true rfl) ?_
  refine lv_dup hx hb rfdX5_init_8 rfl ?_
  refine lv_bipush (v := (nI 80)) hx hb rfdX5_init_9 (by decide) ?_
  refine rf_call (wr := [(h0, .inr (5, [.null, .int 0]))]) (As := [.int (nI 80)]) (rest := [.ref q5, .ref h0]) ⟨hx, hb, hml, hown, hts⟩ (rf_c_X3_init l D cA q5 80 (by decide) (by decide)) (cwI 1 hts rf_g_X5_init_X3_init rfl rfl rfl (hts _ (List.mem_of_getElem? (i := 6) rfl)) (hts _ (List.mem_of_getElem? (i := 9) rfl)) (hts _ (List.mem_of_getElem? (i := 10) rfl)) rfl rf_yd_X3_init ⟨Nat.le_of_ble_eq_true rfl, Nat.le_of_ble_eq_true rfl⟩) hK hP hD hA hS [1] [0] rfl rfl (by decide) (by decide) (by decide) rfl hl.1 rfl (Nat.le_of_ble_eq_true rfl) rfdX5_init_11 ⟨Nat.le_of_ble_eq_true rfl, Nat.le_of_ble_eq_true rfl⟩ (fun z11 H locs hP hD hS => ?_)
  have hP : va_P D rf_cl [(h0, .inr (5, [.null, .int 0])), (q5, .inr (3, [.ref z11])), (z11, .inl (cA, 80, .inl rf_Z))] H := hP
  have hD : va_D A [(h0, .inr (5, [.null, .int 0])), (q5, .inr (3, [.ref z11])), (z11, .inl (cA, 80, .inl rf_Z))] := hD
  refine W.widen (k := 2) (n := 81) (Nat.le_of_ble_eq_true rfl) (Nat.le_of_ble_eq_true rfl) ?_
  refine va_putF (D := D) (ci := 5) (v := .ref q5) (ty := .object "DollGarlands$Row") (C := rfRX5) (T := rfTX5) (N := 2) hx hb hts rf_in_X5_init_X5 rftyX5 rftyX5_ok rfnmX5 hown hK hP hD hS 0 rfl rfl 0 (by decide) (hts _ (List.mem_of_getElem? (i := 7) rfl)) (fun _ h9 => h9) rfl hin rfl (by decide +kernel) rfl rfl (Nat.le_of_ble_eq_true rfl) rfdX5_init_14 (fun H locs hP hD hS => ?_)
  have hP : va_P D rf_cl [(h0, .inr (5, [.ref q5, .int 0])), (q5, .inr (3, [.ref z11])), (z11, .inl (cA, 80, .inl rf_Z))] H := hP
  have hD : va_D A [(h0, .inr (5, [.ref q5, .int 0])), (q5, .inr (3, [.ref z11])), (z11, .inl (cA, 80, .inl rf_Z))] := hD
  refine lv_aload_n hx hb rfdX5_init_17 rfl (lv_at hl 0 rfl) ?_
  refine lv_iconst (v := 0) hx hb rfdX5_init_18 (by decide) ?_
  refine va_put (D := D) (ci := 5) (v := .int 0) (ty := .int) (C := rfRX5) (T := rfTX5) (N := 2) hx hb hts rf_in_X5_init_X5 rftyX5 rftyX5_ok rfnmX5 hown hK hP hD hS 0 rfl rfl 1 (by decide) (hts _ (List.mem_of_getElem? (i := 8) rfl)) (fun _ h9 => h9) rfl (by decide +kernel) rfl rfl (Nat.le_of_ble_eq_true rfl) rfdX5_init_19 (fun H locs hP hD hS => ?_)
  have hP : va_P D rf_cl [(h0, .inr (5, [.ref q5, .int 0])), (q5, .inr (3, [.ref z11])), (z11, .inl (cA, 80, .inl rf_Z))] H := hP
  have hD : va_D A [(h0, .inr (5, [.ref q5, .int 0])), (q5, .inr (3, [.ref z11])), (z11, .inl (cA, 80, .inl rf_Z))] := hD
  exact RET _ _ _ _ () rfdX5_init_22 (hP.sub [] rfl) (hD.sub [] (by decide) rfl) hS
set_option maxHeartbeats 4000000 in
set_option maxRecDepth 100000 in
theorem rf_c_X6_init (l : Launch) (D : va_G) (cA : ClassId) (h0 : Nat) : rf_M l D cA rfyX6_init rfwsX6_init { frames := 3, cells := 21, slots := 1907, locals := 62 } [.ref h0] [(h0, .inr (6, [.null, .null, .null, .null, .null, .null, .null, .int 0]))] 21 1907 (S := Nat) (fun z => [(z, .inl (cA, 1144, .inl rf_Z))]) := by
  refine rf_of (cc := rfcX6_init) (maxL := 1) (by decide) rfl (Nat.le_of_ble_eq_true rfl) ?_
  intro p e s m args below meth c Q A ls F hin hK hP hD hA hS hl RET
  obtain ⟨hx, hb, hml, hown, hts⟩ := id F
  have hl : lv_has ls 1 [(0, .ref h0)] := hl
  refine lv_aload_n hx hb rfdX6_init_0 rfl (lv_at hl 0 rfl) ?_
  refine W.objInit hx hb hown (hts _ (List.mem_of_getElem? (i := 1) rfl)) (hts _ (List.mem_of_getElem? (i := 2) rfl)) (hts _ (List.mem_of_getElem? (i := 3) rfl)) rfl (by rw [hml]; exact hl.1) rfl rfdX6_init_1 (Nat.le_of_ble_eq_true rfl) (Nat.le_of_ble_eq_true rfl) ?_
  refine W.eq (g2 := F0 m 4 ls []) rfl ?_
  refine lv_aload_n hx hb rfdX6_init_4 rfl (lv_at hl 0 rfl) ?_
  refine va_new (ci := 4) (fs := [.null]) (C := rfRX4) (T := rfTX4) (N := 1) hx hb hts rf_in_X6_init_X4 rftyX4 rftyX4_ok hown (hts _ (List.mem_of_getElem? (i := 4) rfl)) (hts _ (List.mem_of_getElem? (i := 5) rfl)) (hts _ (List.mem_of_getElem? (i := 6) rfl)) hK hP hD hS hA rfl (fun j hj => by rcases (show j = 0 by omega) with rfl <;> rfl) (Nat.le_of_ble_eq_true rfl) (Nat.le_of_ble_eq_true rfl) rfdX6_init_5 (fun q5 H hP hD hS => ?_)
  have hP : va_P D rf_cl [(h0, .inr (6, [.null, .null, .null, .null, .null, .null, .null, .int 0])), (q5, .inr (4, [.null]))] H := hP
  have hD : va_D A [(h0, .inr (6, [.null, .null, .null, .null, .null, .null, .null, .int 0])), (q5, .inr (4, [.null]))] := hD
  refine W.widen (k := 1) (n := 1) (Nat.le_of_ble_eq_true rfl) (Nat.le_of_ble_eq_true rfl) ?_
  refine lv_dup hx hb rfdX6_init_8 rfl ?_
  refine rf_call (wr := [(h0, .inr (6, [.null, .null, .null, .null, .null, .null, .null, .int 0]))]) (As := []) (rest := [.ref q5, .ref h0]) ⟨hx, hb, hml, hown, hts⟩ (rf_c_X4_init l D cA q5) (cwI 0 hts rf_g_X6_init_X4_init rfl rfl rfl (hts _ (List.mem_of_getElem? (i := 6) rfl)) (hts _ (List.mem_of_getElem? (i := 30) rfl)) (hts _ (List.mem_of_getElem? (i := 31) rfl)) rfl rf_yd_X4_init ⟨Nat.le_of_ble_eq_true rfl, Nat.le_of_ble_eq_true rfl⟩) hK hP hD hA hS [1] [0] rfl rfl (by decide) (by decide) (by decide) rfl hl.1 rfl (Nat.le_of_ble_eq_true rfl) rfdX6_init_9 ⟨Nat.le_of_ble_eq_true rfl, Nat.le_of_ble_eq_true rfl⟩ (fun _u H locs hP hD hS => ?_)
  have hP : va_P D rf_cl [(h0, .inr (6, [.null, .null, .null, .null, .null, .null, .null, .int 0]))] H := hP
  have hD : va_D A [(h0, .inr (6, [.null, .null, .null, .null, .null, .null, .null, .int 0]))] := hD
  refine W.widen (k := 3) (n := 288) (Nat.le_of_ble_eq_true rfl) (Nat.le_of_ble_eq_true rfl) ?_
  refine va_putF (D := D) (ci := 6) (v := .ref q5) (ty := .object "DollGarlands$Table") (C := rfRX6) (T := rfTX6) (N := 8) hx hb hts rf_in_X6_init_X6 rftyX6 rftyX6_ok rfnmX6 hown hK hP hD hS 0 rfl rfl 0 (by decide) (hts _ (List.mem_of_getElem? (i := 7) rfl)) (fun _ h9 => h9) rfl hin rfl (by decide +kernel) rfl rfl (Nat.le_of_ble_eq_true rfl) rfdX6_init_12 (fun H locs hP hD hS => ?_)
  have hP : va_P D rf_cl [(h0, .inr (6, [.ref q5, .null, .null, .null, .null, .null, .null, .int 0]))] H := hP
  have hD : va_D A [(h0, .inr (6, [.ref q5, .null, .null, .null, .null, .null, .null, .int 0]))] := hD
  refine lv_aload_n hx hb rfdX6_init_15 rfl (lv_at hl 0 rfl) ?_
  refine va_new (ci := 2) (fs := [.null]) (C := rfRX2) (T := rfTX2) (N := 1) hx hb hts rf_in_X6_init_X2 rftyX2 rftyX2_ok hown (hts _ (List.mem_of_getElem? (i := 8) rfl)) (hts _ (List.mem_of_getElem? (i := 9) rfl)) (hts _ (List.mem_of_getElem? (i := 10) rfl)) hK hP hD hS hA rfl (fun j hj => by rcases (show j = 0 by omega) with rfl <;> rfl) (Nat.le_of_ble_eq_true rfl) (Nat.le_of_ble_eq_true rfl) rfdX6_init_16 (fun q16 H hP hD hS => ?_)
  have hP : va_P D rf_cl [(h0, .inr (6, [.ref q5, .null, .null, .null, .null, .null, .null, .int 0])), (q16, .inr (2, [.null]))] H := hP
  have hD : va_D A [(h0, .inr (6, [.ref q5, .null, .null, .null, .null, .null, .null, .int 0])), (q16, .inr (2, [.null]))] := hD
  refine W.widen (k := 4) (n := 289) (Nat.le_of_ble_eq_true rfl) (Nat.le_of_ble_eq_true rfl) ?_
  refine lv_dup hx hb rfdX6_init_19 rfl ?_
  refine lv_aload_n hx hb rfdX6_init_20 rfl (lv_at hl 0 rfl) ?_
  refine va_get (D := D) (ci := 6) (v := .ref q5) (C := rfRX6) (T := rfTX6) (N := 8) hx hb hts rf_in_X6_init_X6 hown hK hP 0 rfl rfl 0 (by decide) (hts _ (List.mem_of_getElem? (i := 7) rfl)) (fun _ h9 => h9) rfl rfdX6_init_21 ?_
  refine rf_call (wr := [(h0, .inr (6, [.ref q5, .null, .null, .null, .null, .null, .null, .int 0]))]) (As := [.ref q5]) (rest := [.ref q16, .ref h0]) ⟨hx, hb, hml, hown, hts⟩ (rf_c_X2_init l D cA q16 q5) (cwI 1 hts rf_g_X6_init_X2_init rfl rfl rfl (hts _ (List.mem_of_getElem? (i := 10) rfl)) (hts _ (List.mem_of_getElem? (i := 46) rfl)) (hts _ (List.mem_of_getElem? (i := 47) rfl)) rfl rf_yd_X2_init ⟨Nat.le_of_ble_eq_true rfl, Nat.le_of_ble_eq_true rfl⟩) hK hP hD hA hS [1] [0] rfl rfl (by decide) (by decide) (by decide) rfl hl.1 rfl (Nat.le_of_ble_eq_true rfl) rfdX6_init_24 ⟨Nat.le_of_ble_eq_true rfl, Nat.le_of_ble_eq_true rfl⟩ (fun _u H locs hP hD hS => ?_)
  have hP : va_P D rf_cl [(h0, .inr (6, [.ref q5, .null, .null, .null, .null, .null, .null, .int 0]))] H := hP
  have hD : va_D A [(h0, .inr (6, [.ref q5, .null, .null, .null, .null, .null, .null, .int 0]))] := hD
  refine W.widen (k := 4) (n := 289) (Nat.le_of_ble_eq_true rfl) (Nat.le_of_ble_eq_true rfl) ?_
  refine va_putF (D := D) (ci := 6) (v := .ref q16) (ty := .object "DollGarlands$Looks") (C := rfRX6) (T := rfTX6) (N := 8) hx hb hts rf_in_X6_init_X6 rftyX6 rftyX6_ok rfnmX6 hown hK hP hD hS 0 rfl rfl 1 (by decide) (hts _ (List.mem_of_getElem? (i := 11) rfl)) (fun _ h9 => h9) rfl hin rfl (by decide +kernel) rfl rfl (Nat.le_of_ble_eq_true rfl) rfdX6_init_27 (fun H locs hP hD hS => ?_)
  have hP : va_P D rf_cl [(h0, .inr (6, [.ref q5, .ref q16, .null, .null, .null, .null, .null, .int 0]))] H := hP
  have hD : va_D A [(h0, .inr (6, [.ref q5, .ref q16, .null, .null, .null, .null, .null, .int 0]))] := hD
  refine lv_aload_n hx hb rfdX6_init_30 rfl (lv_at hl 0 rfl) ?_
  refine va_new (ci := 0) (fs := [.null, .null, .null, .null]) (C := rfRX0) (T := rfTX0) (N := 4) hx hb hts rf_in_X6_init_X0 rftyX0 rftyX0_ok hown (hts _ (List.mem_of_getElem? (i := 12) rfl)) (hts _ (List.mem_of_getElem? (i := 13) rfl)) (hts _ (List.mem_of_getElem? (i := 14) rfl)) hK hP hD hS hA rfl (fun j hj => by rcases (show j = 0 ∨ j = 1 ∨ j = 2 ∨ j = 3 by omega) with rfl | rfl | rfl | rfl <;> rfl) (Nat.le_of_ble_eq_true rfl) (Nat.le_of_ble_eq_true rfl) rfdX6_init_31 (fun q31 H hP hD hS => ?_)
  have hP : va_P D rf_cl [(h0, .inr (6, [.ref q5, .ref q16, .null, .null, .null, .null, .null, .int 0])), (q31, .inr (0, [.null, .null, .null, .null]))] H := hP
  have hD : va_D A [(h0, .inr (6, [.ref q5, .ref q16, .null, .null, .null, .null, .null, .int 0])), (q31, .inr (0, [.null, .null, .null, .null]))] := hD
  refine W.widen (k := 5) (n := 293) (Nat.le_of_ble_eq_true rfl) (Nat.le_of_ble_eq_true rfl) ?_
  refine lv_dup hx hb rfdX6_init_34 rfl ?_
  refine lv_aload_n hx hb rfdX6_init_35 rfl (lv_at hl 0 rfl) ?_
  refine va_get (D := D) (ci := 6) (v := .ref q5) (C := rfRX6) (T := rfTX6) (N := 8) hx hb hts rf_in_X6_init_X6 hown hK hP 0 rfl rfl 0 (by decide) (hts _ (List.mem_of_getElem? (i := 7) rfl)) (fun _ h9 => h9) rfl rfdX6_init_36 ?_
  refine rf_call (wr := [(h0, .inr (6, [.ref q5, .ref q16, .null, .null, .null, .null, .null, .int 0]))]) (As := [.ref q5]) (rest := [.ref q31, .ref h0]) ⟨hx, hb, hml, hown, hts⟩ (rf_c_X0_init l D cA q31 q5) (cwI 1 hts rf_g_X6_init_X0_init rfl rfl rfl (hts _ (List.mem_of_getElem? (i := 14) rfl)) (hts _ (List.mem_of_getElem? (i := 51) rfl)) (hts _ (List.mem_of_getElem? (i := 52) rfl)) rfl rf_yd_X0_init ⟨Nat.le_of_ble_eq_true rfl, Nat.le_of_ble_eq_true rfl⟩) hK hP hD hA hS [1] [0] rfl rfl (by decide) (by decide) (by decide) rfl hl.1 rfl (Nat.le_of_ble_eq_true rfl) rfdX6_init_39 ⟨Nat.le_of_ble_eq_true rfl, Nat.le_of_ble_eq_true rfl⟩ (fun _u H locs hP hD hS => ?_)
  have hP : va_P D rf_cl [(h0, .inr (6, [.ref q5, .ref q16, .null, .null, .null, .null, .null, .int 0]))] H := hP
  have hD : va_D A [(h0, .inr (6, [.ref q5, .ref q16, .null, .null, .null, .null, .null, .int 0]))] := hD
  refine W.widen (k := 11) (n := 356) (Nat.le_of_ble_eq_true rfl) (Nat.le_of_ble_eq_true rfl) ?_
  refine va_putF (D := D) (ci := 6) (v := .ref q31) (ty := .object "DollGarlands$Chains") (C := rfRX6) (T := rfTX6) (N := 8) hx hb hts rf_in_X6_init_X6 rftyX6 rftyX6_ok rfnmX6 hown hK hP hD hS 0 rfl rfl 2 (by decide) (hts _ (List.mem_of_getElem? (i := 15) rfl)) (fun _ h9 => h9) rfl hin rfl (by decide +kernel) rfl rfl (Nat.le_of_ble_eq_true rfl) rfdX6_init_42 (fun H locs hP hD hS => ?_)
  have hP : va_P D rf_cl [(h0, .inr (6, [.ref q5, .ref q16, .ref q31, .null, .null, .null, .null, .int 0]))] H := hP
  have hD : va_D A [(h0, .inr (6, [.ref q5, .ref q16, .ref q31, .null, .null, .null, .null, .int 0]))] := hD
  refine lv_aload_n hx hb rfdX6_init_45 rfl (lv_at hl 0 rfl) ?_
  refine va_new (ci := 1) (fs := [.null, .int 0, .int 0]) (C := rfRX1) (T := rfTX1) (N := 3) hx hb hts rf_in_X6_init_X1 rftyX1 rftyX1_ok hown (hts _ (List.mem_of_getElem? (i := 16) rfl)) (hts _ (List.mem_of_getElem? (i := 17) rfl)) (hts _ (List.mem_of_getElem? (i := 18) rfl)) hK hP hD hS hA rfl (fun j hj => by rcases (show j = 0 ∨ j = 1 ∨ j = 2 by omega) with rfl | rfl | rfl <;> rfl) (Nat.le_of_ble_eq_true rfl) (Nat.le_of_ble_eq_true rfl) rfdX6_init_46 (fun q46 H hP hD hS => ?_)
  have hP : va_P D rf_cl [(h0, .inr (6, [.ref q5, .ref q16, .ref q31, .null, .null, .null, .null, .int 0])), (q46, .inr (1, [.null, .int 0, .int 0]))] H := hP
  have hD : va_D A [(h0, .inr (6, [.ref q5, .ref q16, .ref q31, .null, .null, .null, .null, .int 0])), (q46, .inr (1, [.null, .int 0, .int 0]))] := hD
  refine W.widen (k := 12) (n := 359) (Nat.le_of_ble_eq_true rfl) (Nat.le_of_ble_eq_true rfl) ?_
  refine lv_dup hx hb rfdX6_init_49 rfl ?_
  refine rf_call (wr := [(h0, .inr (6, [.ref q5, .ref q16, .ref q31, .null, .null, .null, .null, .int 0]))]) (As := []) (rest := [.ref q46, .ref h0]) ⟨hx, hb, hml, hown, hts⟩ (rf_c_X1_init l D cA q46) (cwI 0 hts rf_g_X6_init_X1_init rfl rfl rfl (hts _ (List.mem_of_getElem? (i := 18) rfl)) (hts _ (List.mem_of_getElem? (i := 61) rfl)) (hts _ (List.mem_of_getElem? (i := 62) rfl)) rfl rf_yd_X1_init ⟨Nat.le_of_ble_eq_true rfl, Nat.le_of_ble_eq_true rfl⟩) hK hP hD hA hS [1] [0] rfl rfl (by decide) (by decide) (by decide) rfl hl.1 rfl (Nat.le_of_ble_eq_true rfl) rfdX6_init_50 ⟨Nat.le_of_ble_eq_true rfl, Nat.le_of_ble_eq_true rfl⟩ (fun z50 H locs hP hD hS => ?_)
  have hP : va_P D rf_cl [(h0, .inr (6, [.ref q5, .ref q16, .ref q31, .null, .null, .null, .null, .int 0])), (z50, .inl (cA, 1144, .inl rf_Z))] H := hP
  have hD : va_D A [(h0, .inr (6, [.ref q5, .ref q16, .ref q31, .null, .null, .null, .null, .int 0])), (z50, .inl (cA, 1144, .inl rf_Z))] := hD
  refine W.widen (k := 14) (n := 1504) (Nat.le_of_ble_eq_true rfl) (Nat.le_of_ble_eq_true rfl) ?_
  refine va_putF (D := D) (ci := 6) (v := .ref q46) (ty := .object "DollGarlands$History") (C := rfRX6) (T := rfTX6) (N := 8) hx hb hts rf_in_X6_init_X6 rftyX6 rftyX6_ok rfnmX6 hown hK hP hD hS 0 rfl rfl 3 (by decide) (hts _ (List.mem_of_getElem? (i := 19) rfl)) (fun _ h9 => h9) rfl hin rfl (by decide +kernel) rfl rfl (Nat.le_of_ble_eq_true rfl) rfdX6_init_53 (fun H locs hP hD hS => ?_)
  have hP : va_P D rf_cl [(h0, .inr (6, [.ref q5, .ref q16, .ref q31, .ref q46, .null, .null, .null, .int 0])), (z50, .inl (cA, 1144, .inl rf_Z))] H := hP
  have hD : va_D A [(h0, .inr (6, [.ref q5, .ref q16, .ref q31, .ref q46, .null, .null, .null, .int 0])), (z50, .inl (cA, 1144, .inl rf_Z))] := hD
  refine lv_aload_n hx hb rfdX6_init_56 rfl (lv_at hl 0 rfl) ?_
  refine va_new (ci := 5) (fs := [.null, .int 0]) (C := rfRX5) (T := rfTX5) (N := 2) hx hb hts rf_in_X6_init_X5 rftyX5 rftyX5_ok hown (hts _ (List.mem_of_getElem? (i := 20) rfl)) (hts _ (List.mem_of_getElem? (i := 21) rfl)) (hts _ (List.mem_of_getElem? (i := 22) rfl)) hK hP hD hS hA rfl (fun j hj => by rcases (show j = 0 ∨ j = 1 by omega) with rfl | rfl <;> rfl) (Nat.le_of_ble_eq_true rfl) (Nat.le_of_ble_eq_true rfl) rfdX6_init_57 (fun q57 H hP hD hS => ?_)
  have hP : va_P D rf_cl [(h0, .inr (6, [.ref q5, .ref q16, .ref q31, .ref q46, .null, .null, .null, .int 0])), (z50, .inl (cA, 1144, .inl rf_Z)), (q57, .inr (5, [.null, .int 0]))] H := hP
  have hD : va_D A [(h0, .inr (6, [.ref q5, .ref q16, .ref q31, .ref q46, .null, .null, .null, .int 0])), (z50, .inl (cA, 1144, .inl rf_Z)), (q57, .inr (5, [.null, .int 0]))] := hD
  refine W.widen (k := 15) (n := 1506) (Nat.le_of_ble_eq_true rfl) (Nat.le_of_ble_eq_true rfl) ?_
  refine lv_dup hx hb rfdX6_init_60 rfl ?_
  refine rf_call (wr := [(h0, .inr (6, [.ref q5, .ref q16, .ref q31, .ref q46, .null, .null, .null, .int 0])), (z50, .inl (cA, 1144, .inl rf_Z))]) (As := []) (rest := [.ref q57, .ref h0]) ⟨hx, hb, hml, hown, hts⟩ (rf_c_X5_init l D cA q57) (cwI 0 hts rf_g_X6_init_X5_init rfl rfl rfl (hts _ (List.mem_of_getElem? (i := 22) rfl)) (hts _ (List.mem_of_getElem? (i := 70) rfl)) (hts _ (List.mem_of_getElem? (i := 71) rfl)) rfl rf_yd_X5_init ⟨Nat.le_of_ble_eq_true rfl, Nat.le_of_ble_eq_true rfl⟩) hK hP hD hA hS [2] [0, 1] rfl rfl (by decide) (by decide) (by decide) rfl hl.1 rfl (Nat.le_of_ble_eq_true rfl) rfdX6_init_61 ⟨Nat.le_of_ble_eq_true rfl, Nat.le_of_ble_eq_true rfl⟩ (fun _u H locs hP hD hS => ?_)
  have hP : va_P D rf_cl [(h0, .inr (6, [.ref q5, .ref q16, .ref q31, .ref q46, .null, .null, .null, .int 0])), (z50, .inl (cA, 1144, .inl rf_Z))] H := hP
  have hD : va_D A [(h0, .inr (6, [.ref q5, .ref q16, .ref q31, .ref q46, .null, .null, .null, .int 0])), (z50, .inl (cA, 1144, .inl rf_Z))] := hD
  refine W.widen (k := 17) (n := 1587) (Nat.le_of_ble_eq_true rfl) (Nat.le_of_ble_eq_true rfl) ?_
  refine va_putF (D := D) (ci := 6) (v := .ref q57) (ty := .object "DollGarlands$Text") (C := rfRX6) (T := rfTX6) (N := 8) hx hb hts rf_in_X6_init_X6 rftyX6 rftyX6_ok rfnmX6 hown hK hP hD hS 0 rfl rfl 4 (by decide) (hts _ (List.mem_of_getElem? (i := 23) rfl)) (fun _ h9 => h9) rfl hin rfl (by decide +kernel) rfl rfl (Nat.le_of_ble_eq_true rfl) rfdX6_init_64 (fun H locs hP hD hS => ?_)
  have hP : va_P D rf_cl [(h0, .inr (6, [.ref q5, .ref q16, .ref q31, .ref q46, .ref q57, .null, .null, .int 0])), (z50, .inl (cA, 1144, .inl rf_Z))] H := hP
  have hD : va_D A [(h0, .inr (6, [.ref q5, .ref q16, .ref q31, .ref q46, .ref q57, .null, .null, .int 0])), (z50, .inl (cA, 1144, .inl rf_Z))] := hD
  refine lv_aload_n hx hb rfdX6_init_67 rfl (lv_at hl 0 rfl) ?_
  refine va_new (ci := 3) (fs := [.null]) (C := rfRX3) (T := rfTX3) (N := 1) hx hb hts rf_in_X6_init_X3 rftyX3 rftyX3_ok hown (hts _ (List.mem_of_getElem? (i := 24) rfl)) (hts _ (List.mem_of_getElem? (i := 25) rfl)) (hts _ (List.mem_of_getElem? (i := 26) rfl)) hK hP hD hS hA rfl (fun j hj => by rcases (show j = 0 by omega) with rfl <;> rfl) (Nat.le_of_ble_eq_true rfl) (Nat.le_of_ble_eq_true rfl) rfdX6_init_68 (fun q68 H hP hD hS => ?_)
  have hP : va_P D rf_cl [(h0, .inr (6, [.ref q5, .ref q16, .ref q31, .ref q46, .ref q57, .null, .null, .int 0])), (z50, .inl (cA, 1144, .inl rf_Z)), (q68, .inr (3, [.null]))] H := hP
  have hD : va_D A [(h0, .inr (6, [.ref q5, .ref q16, .ref q31, .ref q46, .ref q57, .null, .null, .int 0])), (z50, .inl (cA, 1144, .inl rf_Z)), (q68, .inr (3, [.null]))] := hD
  refine W.widen (k := 18) (n := 1588) (Nat.le_of_ble_eq_true rfl) (Nat.le_of_ble_eq_true rfl) ?_
  refine lv_dup hx hb rfdX6_init_71 rfl ?_
  refine lv_sipush (v := (nI 286)) hx hb rfdX6_init_72 (by decide) ?_
  refine rf_call (wr := [(h0, .inr (6, [.ref q5, .ref q16, .ref q31, .ref q46, .ref q57, .null, .null, .int 0])), (z50, .inl (cA, 1144, .inl rf_Z))]) (As := [.int (nI 286)]) (rest := [.ref q68, .ref h0]) ⟨hx, hb, hml, hown, hts⟩ (rf_c_X3_init l D cA q68 286 (by decide) (by decide)) (cwI 1 hts rf_g_X6_init_X3_init rfl rfl rfl (hts _ (List.mem_of_getElem? (i := 26) rfl)) (hts _ (List.mem_of_getElem? (i := 78) rfl)) (hts _ (List.mem_of_getElem? (i := 37) rfl)) rfl rf_yd_X3_init ⟨Nat.le_of_ble_eq_true rfl, Nat.le_of_ble_eq_true rfl⟩) hK hP hD hA hS [2] [0, 1] rfl rfl (by decide) (by decide) (by decide) rfl hl.1 rfl (Nat.le_of_ble_eq_true rfl) rfdX6_init_75 ⟨Nat.le_of_ble_eq_true rfl, Nat.le_of_ble_eq_true rfl⟩ (fun z75 H locs hP hD hS => ?_)
  have hP : va_P D rf_cl [(h0, .inr (6, [.ref q5, .ref q16, .ref q31, .ref q46, .ref q57, .null, .null, .int 0])), (z50, .inl (cA, 1144, .inl rf_Z)), (q68, .inr (3, [.ref z75])), (z75, .inl (cA, 286, .inl rf_Z))] H := hP
  have hD : va_D A [(h0, .inr (6, [.ref q5, .ref q16, .ref q31, .ref q46, .ref q57, .null, .null, .int 0])), (z50, .inl (cA, 1144, .inl rf_Z)), (q68, .inr (3, [.ref z75])), (z75, .inl (cA, 286, .inl rf_Z))] := hD
  refine W.widen (k := 19) (n := 1874) (Nat.le_of_ble_eq_true rfl) (Nat.le_of_ble_eq_true rfl) ?_
  refine va_putF (D := D) (ci := 6) (v := .ref q68) (ty := .object "DollGarlands$Row") (C := rfRX6) (T := rfTX6) (N := 8) hx hb hts rf_in_X6_init_X6 rftyX6 rftyX6_ok rfnmX6 hown hK hP hD hS 0 rfl rfl 5 (by decide) (hts _ (List.mem_of_getElem? (i := 27) rfl)) (fun _ h9 => h9) rfl hin rfl (by decide +kernel) rfl rfl (Nat.le_of_ble_eq_true rfl) rfdX6_init_78 (fun H locs hP hD hS => ?_)
  have hP : va_P D rf_cl [(h0, .inr (6, [.ref q5, .ref q16, .ref q31, .ref q46, .ref q57, .ref q68, .null, .int 0])), (z50, .inl (cA, 1144, .inl rf_Z)), (q68, .inr (3, [.ref z75])), (z75, .inl (cA, 286, .inl rf_Z))] H := hP
  have hD : va_D A [(h0, .inr (6, [.ref q5, .ref q16, .ref q31, .ref q46, .ref q57, .ref q68, .null, .int 0])), (z50, .inl (cA, 1144, .inl rf_Z)), (q68, .inr (3, [.ref z75])), (z75, .inl (cA, 286, .inl rf_Z))] := hD
  refine lv_aload_n hx hb rfdX6_init_81 rfl (lv_at hl 0 rfl) ?_
  refine va_new (ci := 3) (fs := [.null]) (C := rfRX3) (T := rfTX3) (N := 1) hx hb hts rf_in_X6_init_X3 rftyX3 rftyX3_ok hown (hts _ (List.mem_of_getElem? (i := 24) rfl)) (hts _ (List.mem_of_getElem? (i := 25) rfl)) (hts _ (List.mem_of_getElem? (i := 26) rfl)) hK hP hD hS hA rfl (fun j hj => by rcases (show j = 0 by omega) with rfl <;> rfl) (Nat.le_of_ble_eq_true rfl) (Nat.le_of_ble_eq_true rfl) rfdX6_init_82 (fun q82 H hP hD hS => ?_)
  have hP : va_P D rf_cl [(h0, .inr (6, [.ref q5, .ref q16, .ref q31, .ref q46, .ref q57, .ref q68, .null, .int 0])), (z50, .inl (cA, 1144, .inl rf_Z)), (q68, .inr (3, [.ref z75])), (z75, .inl (cA, 286, .inl rf_Z)), (q82, .inr (3, [.null]))] H := hP
  have hD : va_D A [(h0, .inr (6, [.ref q5, .ref q16, .ref q31, .ref q46, .ref q57, .ref q68, .null, .int 0])), (z50, .inl (cA, 1144, .inl rf_Z)), (q68, .inr (3, [.ref z75])), (z75, .inl (cA, 286, .inl rf_Z)), (q82, .inr (3, [.null]))] := hD
  refine W.widen (k := 20) (n := 1875) (Nat.le_of_ble_eq_true rfl) (Nat.le_of_ble_eq_true rfl) ?_
  refine lv_dup hx hb rfdX6_init_85 rfl ?_
  refine lv_bipush (v := (nI 32)) hx hb rfdX6_init_86 (by decide) ?_
  refine rf_call (wr := [(h0, .inr (6, [.ref q5, .ref q16, .ref q31, .ref q46, .ref q57, .ref q68, .null, .int 0])), (z50, .inl (cA, 1144, .inl rf_Z)), (q68, .inr (3, [.ref z75])), (z75, .inl (cA, 286, .inl rf_Z))]) (As := [.int (nI 32)]) (rest := [.ref q82, .ref h0]) ⟨hx, hb, hml, hown, hts⟩ (rf_c_X3_init l D cA q82 32 (by decide) (by decide)) (cwI 1 hts rf_g_X6_init_X3_init rfl rfl rfl (hts _ (List.mem_of_getElem? (i := 26) rfl)) (hts _ (List.mem_of_getElem? (i := 78) rfl)) (hts _ (List.mem_of_getElem? (i := 37) rfl)) rfl rf_yd_X3_init ⟨Nat.le_of_ble_eq_true rfl, Nat.le_of_ble_eq_true rfl⟩) hK hP hD hA hS [4] [0, 1, 2, 3] rfl rfl (by decide) (by decide) (by decide) rfl hl.1 rfl (Nat.le_of_ble_eq_true rfl) rfdX6_init_88 ⟨Nat.le_of_ble_eq_true rfl, Nat.le_of_ble_eq_true rfl⟩ (fun z88 H locs hP hD hS => ?_)
  have hP : va_P D rf_cl [(h0, .inr (6, [.ref q5, .ref q16, .ref q31, .ref q46, .ref q57, .ref q68, .null, .int 0])), (z50, .inl (cA, 1144, .inl rf_Z)), (q68, .inr (3, [.ref z75])), (z75, .inl (cA, 286, .inl rf_Z)), (q82, .inr (3, [.ref z88])), (z88, .inl (cA, 32, .inl rf_Z))] H := hP
  have hD : va_D A [(h0, .inr (6, [.ref q5, .ref q16, .ref q31, .ref q46, .ref q57, .ref q68, .null, .int 0])), (z50, .inl (cA, 1144, .inl rf_Z)), (q68, .inr (3, [.ref z75])), (z75, .inl (cA, 286, .inl rf_Z)), (q82, .inr (3, [.ref z88])), (z88, .inl (cA, 32, .inl rf_Z))] := hD
  refine W.widen (k := 21) (n := 1907) (Nat.le_of_ble_eq_true rfl) (Nat.le_of_ble_eq_true rfl) ?_
  refine va_putF (D := D) (ci := 6) (v := .ref q82) (ty := .object "DollGarlands$Row") (C := rfRX6) (T := rfTX6) (N := 8) hx hb hts rf_in_X6_init_X6 rftyX6 rftyX6_ok rfnmX6 hown hK hP hD hS 0 rfl rfl 6 (by decide) (hts _ (List.mem_of_getElem? (i := 28) rfl)) (fun _ h9 => h9) rfl hin rfl (by decide +kernel) rfl rfl (Nat.le_of_ble_eq_true rfl) rfdX6_init_91 (fun H locs hP hD hS => ?_)
  have hP : va_P D rf_cl [(h0, .inr (6, [.ref q5, .ref q16, .ref q31, .ref q46, .ref q57, .ref q68, .ref q82, .int 0])), (z50, .inl (cA, 1144, .inl rf_Z)), (q68, .inr (3, [.ref z75])), (z75, .inl (cA, 286, .inl rf_Z)), (q82, .inr (3, [.ref z88])), (z88, .inl (cA, 32, .inl rf_Z))] H := hP
  have hD : va_D A [(h0, .inr (6, [.ref q5, .ref q16, .ref q31, .ref q46, .ref q57, .ref q68, .ref q82, .int 0])), (z50, .inl (cA, 1144, .inl rf_Z)), (q68, .inr (3, [.ref z75])), (z75, .inl (cA, 286, .inl rf_Z)), (q82, .inr (3, [.ref z88])), (z88, .inl (cA, 32, .inl rf_Z))] := hD
  refine lv_aload_n hx hb rfdX6_init_94 rfl (lv_at hl 0 rfl) ?_
  refine lv_iconst (v := 0) hx hb rfdX6_init_95 (by decide) ?_
  refine va_put (D := D) (ci := 6) (v := .int 0) (ty := .boolean) (C := rfRX6) (T := rfTX6) (N := 8) hx hb hts rf_in_X6_init_X6 rftyX6 rftyX6_ok rfnmX6 hown hK hP hD hS 0 rfl rfl 7 (by decide) (hts _ (List.mem_of_getElem? (i := 29) rfl)) (fun _ h9 => h9) rfl (by decide +kernel) rfl rfl (Nat.le_of_ble_eq_true rfl) rfdX6_init_96 (fun H locs hP hD hS => ?_)
  have hP : va_P D rf_cl [(h0, .inr (6, [.ref q5, .ref q16, .ref q31, .ref q46, .ref q57, .ref q68, .ref q82, .int 0])), (z50, .inl (cA, 1144, .inl rf_Z)), (q68, .inr (3, [.ref z75])), (z75, .inl (cA, 286, .inl rf_Z)), (q82, .inr (3, [.ref z88])), (z88, .inl (cA, 32, .inl rf_Z))] H := hP
  have hD : va_D A [(h0, .inr (6, [.ref q5, .ref q16, .ref q31, .ref q46, .ref q57, .ref q68, .ref q82, .int 0])), (z50, .inl (cA, 1144, .inl rf_Z)), (q68, .inr (3, [.ref z75])), (z75, .inl (cA, 286, .inl rf_Z)), (q82, .inr (3, [.ref z88])), (z88, .inl (cA, 32, .inl rf_Z))] := hD
  exact RET _ _ _ _ z50 rfdX6_init_99 (hP.sub [1] rfl) (hD.sub [1] (by decide) rfl) hS
theorem rf_x1 : ∀ k : Nat, k < 10 → vp_in (2 + 2 * nI k) 286 := by unfold vp_in; decide +kernel
theorem rf_x2 : ∀ k : Nat, k < 10 → vp_in (2 + 2 * nI k + 1) 286 := by unfold vp_in; decide +kernel
set_option maxHeartbeats 4000000 in
set_option maxRecDepth 100000 in
theorem rf_c_X7_init (l : Launch) (D : va_G) (cA : ClassId) (h0 : Nat) : rf_M l D cA rfyX7_init rfwsX7_init { frames := 1, cells := 9, slots := 2174, locals := 20 } [.ref h0] [(h0, .inr (7, [.null, .null, .null, .int 0, .null, .int 0, .null, .null, .int 0, .int 0, .int 0, .null, .null, .null]))] 9 2174 (S := Nat) (fun z => [(z, .inl (cA, 1144, .inl rf_Z))]) := by
  refine rf_of (cc := rfcX7_init) (maxL := 2) (by decide) rfl (Nat.le_of_ble_eq_true rfl) ?_
  intro p e s m args below meth c Q A ls F hin hK hP hD hA hS hl RET
  obtain ⟨hx, hb, hml, hown, hts⟩ := id F
  have hl : lv_has ls 2 [(0, .ref h0)] := hl
  refine lv_aload_n hx hb rfdX7_init_0 rfl (lv_at hl 0 rfl) ?_
  refine W.objInit hx hb hown (hts _ (List.mem_of_getElem? (i := 1) rfl)) (hts _ (List.mem_of_getElem? (i := 2) rfl)) (hts _ (List.mem_of_getElem? (i := 3) rfl)) rfl (by rw [hml]; exact hl.1) rfl rfdX7_init_1 (Nat.le_of_ble_eq_true rfl) (Nat.le_of_ble_eq_true rfl) ?_
  refine W.eq (g2 := F0 m 4 ls []) rfl ?_
  refine lv_aload_n hx hb rfdX7_init_4 rfl (lv_at hl 0 rfl) ?_
  refine lv_sipush (v := (nI 286)) hx hb rfdX7_init_5 (by decide) ?_
  refine rf_newa (N := 286) hx hb (hts _ (List.mem_of_getElem? (i := 4) rfl)) hK hP hD hS hA (by decide) (by decide) (by decide) (Nat.le_of_ble_eq_true rfl) (Nat.le_of_ble_eq_true rfl) rfdX7_init_8 (fun q8 H hP hD hS => ?_)
  have hP : va_P D rf_cl [(h0, .inr (7, [.null, .null, .null, .int 0, .null, .int 0, .null, .null, .int 0, .int 0, .int 0, .null, .null, .null])), (q8, .inl (cA, 286, .inl rf_Z))] H := hP
  have hD : va_D A [(h0, .inr (7, [.null, .null, .null, .int 0, .null, .int 0, .null, .null, .int 0, .int 0, .int 0, .null, .null, .null])), (q8, .inl (cA, 286, .inl rf_Z))] := hD
  refine W.widen (k := 1) (n := 286) (Nat.le_of_ble_eq_true rfl) (Nat.le_of_ble_eq_true rfl) ?_
  refine va_putF (D := D) (ci := 7) (v := .ref q8) (ty := .array .int) (C := rfRX7) (T := rfTX7) (N := 14) hx hb hts rf_in_X7_init_X7 rftyX7 rftyX7_ok rfnmX7 hown hK hP hD hS 0 rfl rfl 0 (by decide) (hts _ (List.mem_of_getElem? (i := 5) rfl)) (fun _ h9 => h9) rfl hin rfl (by decide +kernel) rfl rfl (Nat.le_of_ble_eq_true rfl) rfdX7_init_10 (fun H locs hP hD hS => ?_)
  have hP : va_P D rf_cl [(h0, .inr (7, [.ref q8, .null, .null, .int 0, .null, .int 0, .null, .null, .int 0, .int 0, .int 0, .null, .null, .null])), (q8, .inl (cA, 286, .inl rf_Z))] H := hP
  have hD : va_D A [(h0, .inr (7, [.ref q8, .null, .null, .int 0, .null, .int 0, .null, .null, .int 0, .int 0, .int 0, .null, .null, .null])), (q8, .inl (cA, 286, .inl rf_Z))] := hD
  refine lv_aload_n hx hb rfdX7_init_13 rfl (lv_at hl 0 rfl) ?_
  refine lv_sipush (v := (nI 286)) hx hb rfdX7_init_14 (by decide) ?_
  refine rf_newa (N := 286) hx hb (hts _ (List.mem_of_getElem? (i := 4) rfl)) hK hP hD hS hA (by decide) (by decide) (by decide) (Nat.le_of_ble_eq_true rfl) (Nat.le_of_ble_eq_true rfl) rfdX7_init_17 (fun q17 H hP hD hS => ?_)
  have hP : va_P D rf_cl [(h0, .inr (7, [.ref q8, .null, .null, .int 0, .null, .int 0, .null, .null, .int 0, .int 0, .int 0, .null, .null, .null])), (q8, .inl (cA, 286, .inl rf_Z)), (q17, .inl (cA, 286, .inl rf_Z))] H := hP
  have hD : va_D A [(h0, .inr (7, [.ref q8, .null, .null, .int 0, .null, .int 0, .null, .null, .int 0, .int 0, .int 0, .null, .null, .null])), (q8, .inl (cA, 286, .inl rf_Z)), (q17, .inl (cA, 286, .inl rf_Z))] := hD
  refine W.widen (k := 2) (n := 572) (Nat.le_of_ble_eq_true rfl) (Nat.le_of_ble_eq_true rfl) ?_
  refine va_putF (D := D) (ci := 7) (v := .ref q17) (ty := .array .int) (C := rfRX7) (T := rfTX7) (N := 14) hx hb hts rf_in_X7_init_X7 rftyX7 rftyX7_ok rfnmX7 hown hK hP hD hS 0 rfl rfl 1 (by decide) (hts _ (List.mem_of_getElem? (i := 6) rfl)) (fun _ h9 => h9) rfl hin rfl (by decide +kernel) rfl rfl (Nat.le_of_ble_eq_true rfl) rfdX7_init_19 (fun H locs hP hD hS => ?_)
  have hP : va_P D rf_cl [(h0, .inr (7, [.ref q8, .ref q17, .null, .int 0, .null, .int 0, .null, .null, .int 0, .int 0, .int 0, .null, .null, .null])), (q8, .inl (cA, 286, .inl rf_Z)), (q17, .inl (cA, 286, .inl rf_Z))] H := hP
  have hD : va_D A [(h0, .inr (7, [.ref q8, .ref q17, .null, .int 0, .null, .int 0, .null, .null, .int 0, .int 0, .int 0, .null, .null, .null])), (q8, .inl (cA, 286, .inl rf_Z)), (q17, .inl (cA, 286, .inl rf_Z))] := hD
  refine lv_aload_n hx hb rfdX7_init_22 rfl (lv_at hl 0 rfl) ?_
  refine lv_sipush (v := (nI 1144)) hx hb rfdX7_init_23 (by decide) ?_
  refine rf_newa (N := 1144) hx hb (hts _ (List.mem_of_getElem? (i := 4) rfl)) hK hP hD hS hA (by decide) (by decide) (by decide) (Nat.le_of_ble_eq_true rfl) (Nat.le_of_ble_eq_true rfl) rfdX7_init_26 (fun q26 H hP hD hS => ?_)
  have hP : va_P D rf_cl [(h0, .inr (7, [.ref q8, .ref q17, .null, .int 0, .null, .int 0, .null, .null, .int 0, .int 0, .int 0, .null, .null, .null])), (q8, .inl (cA, 286, .inl rf_Z)), (q17, .inl (cA, 286, .inl rf_Z)), (q26, .inl (cA, 1144, .inl rf_Z))] H := hP
  have hD : va_D A [(h0, .inr (7, [.ref q8, .ref q17, .null, .int 0, .null, .int 0, .null, .null, .int 0, .int 0, .int 0, .null, .null, .null])), (q8, .inl (cA, 286, .inl rf_Z)), (q17, .inl (cA, 286, .inl rf_Z)), (q26, .inl (cA, 1144, .inl rf_Z))] := hD
  refine W.widen (k := 3) (n := 1716) (Nat.le_of_ble_eq_true rfl) (Nat.le_of_ble_eq_true rfl) ?_
  refine va_putF (D := D) (ci := 7) (v := .ref q26) (ty := .array .int) (C := rfRX7) (T := rfTX7) (N := 14) hx hb hts rf_in_X7_init_X7 rftyX7 rftyX7_ok rfnmX7 hown hK hP hD hS 0 rfl rfl 2 (by decide) (hts _ (List.mem_of_getElem? (i := 7) rfl)) (fun _ h9 => h9) rfl hin rfl (by decide +kernel) rfl rfl (Nat.le_of_ble_eq_true rfl) rfdX7_init_28 (fun H locs hP hD hS => ?_)
  have hP : va_P D rf_cl [(h0, .inr (7, [.ref q8, .ref q17, .ref q26, .int 0, .null, .int 0, .null, .null, .int 0, .int 0, .int 0, .null, .null, .null])), (q8, .inl (cA, 286, .inl rf_Z)), (q17, .inl (cA, 286, .inl rf_Z)), (q26, .inl (cA, 1144, .inl rf_Z))] H := hP
  have hD : va_D A [(h0, .inr (7, [.ref q8, .ref q17, .ref q26, .int 0, .null, .int 0, .null, .null, .int 0, .int 0, .int 0, .null, .null, .null])), (q8, .inl (cA, 286, .inl rf_Z)), (q17, .inl (cA, 286, .inl rf_Z)), (q26, .inl (cA, 1144, .inl rf_Z))] := hD
  refine lv_aload_n hx hb rfdX7_init_31 rfl (lv_at hl 0 rfl) ?_
  refine lv_sipush (v := (nI 286)) hx hb rfdX7_init_32 (by decide) ?_
  refine rf_newa (N := 286) hx hb (hts _ (List.mem_of_getElem? (i := 4) rfl)) hK hP hD hS hA (by decide) (by decide) (by decide) (Nat.le_of_ble_eq_true rfl) (Nat.le_of_ble_eq_true rfl) rfdX7_init_35 (fun q35 H hP hD hS => ?_)
  have hP : va_P D rf_cl [(h0, .inr (7, [.ref q8, .ref q17, .ref q26, .int 0, .null, .int 0, .null, .null, .int 0, .int 0, .int 0, .null, .null, .null])), (q8, .inl (cA, 286, .inl rf_Z)), (q17, .inl (cA, 286, .inl rf_Z)), (q26, .inl (cA, 1144, .inl rf_Z)), (q35, .inl (cA, 286, .inl rf_Z))] H := hP
  have hD : va_D A [(h0, .inr (7, [.ref q8, .ref q17, .ref q26, .int 0, .null, .int 0, .null, .null, .int 0, .int 0, .int 0, .null, .null, .null])), (q8, .inl (cA, 286, .inl rf_Z)), (q17, .inl (cA, 286, .inl rf_Z)), (q26, .inl (cA, 1144, .inl rf_Z)), (q35, .inl (cA, 286, .inl rf_Z))] := hD
  refine W.widen (k := 4) (n := 2002) (Nat.le_of_ble_eq_true rfl) (Nat.le_of_ble_eq_true rfl) ?_
  refine va_putF (D := D) (ci := 7) (v := .ref q35) (ty := .array .int) (C := rfRX7) (T := rfTX7) (N := 14) hx hb hts rf_in_X7_init_X7 rftyX7 rftyX7_ok rfnmX7 hown hK hP hD hS 0 rfl rfl 4 (by decide) (hts _ (List.mem_of_getElem? (i := 8) rfl)) (fun _ h9 => h9) rfl hin rfl (by decide +kernel) rfl rfl (Nat.le_of_ble_eq_true rfl) rfdX7_init_37 (fun H locs hP hD hS => ?_)
  have hP : va_P D rf_cl [(h0, .inr (7, [.ref q8, .ref q17, .ref q26, .int 0, .ref q35, .int 0, .null, .null, .int 0, .int 0, .int 0, .null, .null, .null])), (q8, .inl (cA, 286, .inl rf_Z)), (q17, .inl (cA, 286, .inl rf_Z)), (q26, .inl (cA, 1144, .inl rf_Z)), (q35, .inl (cA, 286, .inl rf_Z))] H := hP
  have hD : va_D A [(h0, .inr (7, [.ref q8, .ref q17, .ref q26, .int 0, .ref q35, .int 0, .null, .null, .int 0, .int 0, .int 0, .null, .null, .null])), (q8, .inl (cA, 286, .inl rf_Z)), (q17, .inl (cA, 286, .inl rf_Z)), (q26, .inl (cA, 1144, .inl rf_Z)), (q35, .inl (cA, 286, .inl rf_Z))] := hD
  refine lv_aload_n hx hb rfdX7_init_40 rfl (lv_at hl 0 rfl) ?_
  refine lv_bipush (v := (nI 32)) hx hb rfdX7_init_41 (by decide) ?_
  refine rf_newa (N := 32) hx hb (hts _ (List.mem_of_getElem? (i := 4) rfl)) hK hP hD hS hA (by decide) (by decide) (by decide) (Nat.le_of_ble_eq_true rfl) (Nat.le_of_ble_eq_true rfl) rfdX7_init_43 (fun q43 H hP hD hS => ?_)
  have hP : va_P D rf_cl [(h0, .inr (7, [.ref q8, .ref q17, .ref q26, .int 0, .ref q35, .int 0, .null, .null, .int 0, .int 0, .int 0, .null, .null, .null])), (q8, .inl (cA, 286, .inl rf_Z)), (q17, .inl (cA, 286, .inl rf_Z)), (q26, .inl (cA, 1144, .inl rf_Z)), (q35, .inl (cA, 286, .inl rf_Z)), (q43, .inl (cA, 32, .inl rf_Z))] H := hP
  have hD : va_D A [(h0, .inr (7, [.ref q8, .ref q17, .ref q26, .int 0, .ref q35, .int 0, .null, .null, .int 0, .int 0, .int 0, .null, .null, .null])), (q8, .inl (cA, 286, .inl rf_Z)), (q17, .inl (cA, 286, .inl rf_Z)), (q26, .inl (cA, 1144, .inl rf_Z)), (q35, .inl (cA, 286, .inl rf_Z)), (q43, .inl (cA, 32, .inl rf_Z))] := hD
  refine W.widen (k := 5) (n := 2034) (Nat.le_of_ble_eq_true rfl) (Nat.le_of_ble_eq_true rfl) ?_
  refine va_putF (D := D) (ci := 7) (v := .ref q43) (ty := .array .int) (C := rfRX7) (T := rfTX7) (N := 14) hx hb hts rf_in_X7_init_X7 rftyX7 rftyX7_ok rfnmX7 hown hK hP hD hS 0 rfl rfl 6 (by decide) (hts _ (List.mem_of_getElem? (i := 9) rfl)) (fun _ h9 => h9) rfl hin rfl (by decide +kernel) rfl rfl (Nat.le_of_ble_eq_true rfl) rfdX7_init_45 (fun H locs hP hD hS => ?_)
  have hP : va_P D rf_cl [(h0, .inr (7, [.ref q8, .ref q17, .ref q26, .int 0, .ref q35, .int 0, .ref q43, .null, .int 0, .int 0, .int 0, .null, .null, .null])), (q8, .inl (cA, 286, .inl rf_Z)), (q17, .inl (cA, 286, .inl rf_Z)), (q26, .inl (cA, 1144, .inl rf_Z)), (q35, .inl (cA, 286, .inl rf_Z)), (q43, .inl (cA, 32, .inl rf_Z))] H := hP
  have hD : va_D A [(h0, .inr (7, [.ref q8, .ref q17, .ref q26, .int 0, .ref q35, .int 0, .ref q43, .null, .int 0, .int 0, .int 0, .null, .null, .null])), (q8, .inl (cA, 286, .inl rf_Z)), (q17, .inl (cA, 286, .inl rf_Z)), (q26, .inl (cA, 1144, .inl rf_Z)), (q35, .inl (cA, 286, .inl rf_Z)), (q43, .inl (cA, 32, .inl rf_Z))] := hD
  refine lv_aload_n hx hb rfdX7_init_48 rfl (lv_at hl 0 rfl) ?_
  refine lv_bipush (v := (nI 80)) hx hb rfdX7_init_49 (by decide) ?_
  refine rf_newa (N := 80) hx hb (hts _ (List.mem_of_getElem? (i := 4) rfl)) hK hP hD hS hA (by decide) (by decide) (by decide) (Nat.le_of_ble_eq_true rfl) (Nat.le_of_ble_eq_true rfl) rfdX7_init_51 (fun q51 H hP hD hS => ?_)
  have hP : va_P D rf_cl [(h0, .inr (7, [.ref q8, .ref q17, .ref q26, .int 0, .ref q35, .int 0, .ref q43, .null, .int 0, .int 0, .int 0, .null, .null, .null])), (q8, .inl (cA, 286, .inl rf_Z)), (q17, .inl (cA, 286, .inl rf_Z)), (q26, .inl (cA, 1144, .inl rf_Z)), (q35, .inl (cA, 286, .inl rf_Z)), (q43, .inl (cA, 32, .inl rf_Z)), (q51, .inl (cA, 80, .inl rf_Z))] H := hP
  have hD : va_D A [(h0, .inr (7, [.ref q8, .ref q17, .ref q26, .int 0, .ref q35, .int 0, .ref q43, .null, .int 0, .int 0, .int 0, .null, .null, .null])), (q8, .inl (cA, 286, .inl rf_Z)), (q17, .inl (cA, 286, .inl rf_Z)), (q26, .inl (cA, 1144, .inl rf_Z)), (q35, .inl (cA, 286, .inl rf_Z)), (q43, .inl (cA, 32, .inl rf_Z)), (q51, .inl (cA, 80, .inl rf_Z))] := hD
  refine W.widen (k := 6) (n := 2114) (Nat.le_of_ble_eq_true rfl) (Nat.le_of_ble_eq_true rfl) ?_
  refine va_putF (D := D) (ci := 7) (v := .ref q51) (ty := .array .int) (C := rfRX7) (T := rfTX7) (N := 14) hx hb hts rf_in_X7_init_X7 rftyX7 rftyX7_ok rfnmX7 hown hK hP hD hS 0 rfl rfl 7 (by decide) (hts _ (List.mem_of_getElem? (i := 10) rfl)) (fun _ h9 => h9) rfl hin rfl (by decide +kernel) rfl rfl (Nat.le_of_ble_eq_true rfl) rfdX7_init_53 (fun H locs hP hD hS => ?_)
  have hP : va_P D rf_cl [(h0, .inr (7, [.ref q8, .ref q17, .ref q26, .int 0, .ref q35, .int 0, .ref q43, .ref q51, .int 0, .int 0, .int 0, .null, .null, .null])), (q8, .inl (cA, 286, .inl rf_Z)), (q17, .inl (cA, 286, .inl rf_Z)), (q26, .inl (cA, 1144, .inl rf_Z)), (q35, .inl (cA, 286, .inl rf_Z)), (q43, .inl (cA, 32, .inl rf_Z)), (q51, .inl (cA, 80, .inl rf_Z))] H := hP
  have hD : va_D A [(h0, .inr (7, [.ref q8, .ref q17, .ref q26, .int 0, .ref q35, .int 0, .ref q43, .ref q51, .int 0, .int 0, .int 0, .null, .null, .null])), (q8, .inl (cA, 286, .inl rf_Z)), (q17, .inl (cA, 286, .inl rf_Z)), (q26, .inl (cA, 1144, .inl rf_Z)), (q35, .inl (cA, 286, .inl rf_Z)), (q43, .inl (cA, 32, .inl rf_Z)), (q51, .inl (cA, 80, .inl rf_Z))] := hD
  refine lv_aload_n hx hb rfdX7_init_56 rfl (lv_at hl 0 rfl) ?_
  refine lv_bipush (v := (nI 20)) hx hb rfdX7_init_57 (by decide) ?_
  refine rf_newa (N := 20) hx hb (hts _ (List.mem_of_getElem? (i := 4) rfl)) hK hP hD hS hA (by decide) (by decide) (by decide) (Nat.le_of_ble_eq_true rfl) (Nat.le_of_ble_eq_true rfl) rfdX7_init_59 (fun q59 H hP hD hS => ?_)
  have hP : va_P D rf_cl [(h0, .inr (7, [.ref q8, .ref q17, .ref q26, .int 0, .ref q35, .int 0, .ref q43, .ref q51, .int 0, .int 0, .int 0, .null, .null, .null])), (q8, .inl (cA, 286, .inl rf_Z)), (q17, .inl (cA, 286, .inl rf_Z)), (q26, .inl (cA, 1144, .inl rf_Z)), (q35, .inl (cA, 286, .inl rf_Z)), (q43, .inl (cA, 32, .inl rf_Z)), (q51, .inl (cA, 80, .inl rf_Z)), (q59, .inl (cA, 20, .inl rf_Z))] H := hP
  have hD : va_D A [(h0, .inr (7, [.ref q8, .ref q17, .ref q26, .int 0, .ref q35, .int 0, .ref q43, .ref q51, .int 0, .int 0, .int 0, .null, .null, .null])), (q8, .inl (cA, 286, .inl rf_Z)), (q17, .inl (cA, 286, .inl rf_Z)), (q26, .inl (cA, 1144, .inl rf_Z)), (q35, .inl (cA, 286, .inl rf_Z)), (q43, .inl (cA, 32, .inl rf_Z)), (q51, .inl (cA, 80, .inl rf_Z)), (q59, .inl (cA, 20, .inl rf_Z))] := hD
  refine W.widen (k := 7) (n := 2134) (Nat.le_of_ble_eq_true rfl) (Nat.le_of_ble_eq_true rfl) ?_
  refine va_putF (D := D) (ci := 7) (v := .ref q59) (ty := .array .int) (C := rfRX7) (T := rfTX7) (N := 14) hx hb hts rf_in_X7_init_X7 rftyX7 rftyX7_ok rfnmX7 hown hK hP hD hS 0 rfl rfl 11 (by decide) (hts _ (List.mem_of_getElem? (i := 11) rfl)) (fun _ h9 => h9) rfl hin rfl (by decide +kernel) rfl rfl (Nat.le_of_ble_eq_true rfl) rfdX7_init_61 (fun H locs hP hD hS => ?_)
  have hP : va_P D rf_cl [(h0, .inr (7, [.ref q8, .ref q17, .ref q26, .int 0, .ref q35, .int 0, .ref q43, .ref q51, .int 0, .int 0, .int 0, .ref q59, .null, .null])), (q8, .inl (cA, 286, .inl rf_Z)), (q17, .inl (cA, 286, .inl rf_Z)), (q26, .inl (cA, 1144, .inl rf_Z)), (q35, .inl (cA, 286, .inl rf_Z)), (q43, .inl (cA, 32, .inl rf_Z)), (q51, .inl (cA, 80, .inl rf_Z)), (q59, .inl (cA, 20, .inl rf_Z))] H := hP
  have hD : va_D A [(h0, .inr (7, [.ref q8, .ref q17, .ref q26, .int 0, .ref q35, .int 0, .ref q43, .ref q51, .int 0, .int 0, .int 0, .ref q59, .null, .null])), (q8, .inl (cA, 286, .inl rf_Z)), (q17, .inl (cA, 286, .inl rf_Z)), (q26, .inl (cA, 1144, .inl rf_Z)), (q35, .inl (cA, 286, .inl rf_Z)), (q43, .inl (cA, 32, .inl rf_Z)), (q51, .inl (cA, 80, .inl rf_Z)), (q59, .inl (cA, 20, .inl rf_Z))] := hD
  refine lv_aload_n hx hb rfdX7_init_64 rfl (lv_at hl 0 rfl) ?_
  refine lv_bipush (v := (nI 20)) hx hb rfdX7_init_65 (by decide) ?_
  refine rf_newa (N := 20) hx hb (hts _ (List.mem_of_getElem? (i := 4) rfl)) hK hP hD hS hA (by decide) (by decide) (by decide) (Nat.le_of_ble_eq_true rfl) (Nat.le_of_ble_eq_true rfl) rfdX7_init_67 (fun q67 H hP hD hS => ?_)
  have hP : va_P D rf_cl [(h0, .inr (7, [.ref q8, .ref q17, .ref q26, .int 0, .ref q35, .int 0, .ref q43, .ref q51, .int 0, .int 0, .int 0, .ref q59, .null, .null])), (q8, .inl (cA, 286, .inl rf_Z)), (q17, .inl (cA, 286, .inl rf_Z)), (q26, .inl (cA, 1144, .inl rf_Z)), (q35, .inl (cA, 286, .inl rf_Z)), (q43, .inl (cA, 32, .inl rf_Z)), (q51, .inl (cA, 80, .inl rf_Z)), (q59, .inl (cA, 20, .inl rf_Z)), (q67, .inl (cA, 20, .inl rf_Z))] H := hP
  have hD : va_D A [(h0, .inr (7, [.ref q8, .ref q17, .ref q26, .int 0, .ref q35, .int 0, .ref q43, .ref q51, .int 0, .int 0, .int 0, .ref q59, .null, .null])), (q8, .inl (cA, 286, .inl rf_Z)), (q17, .inl (cA, 286, .inl rf_Z)), (q26, .inl (cA, 1144, .inl rf_Z)), (q35, .inl (cA, 286, .inl rf_Z)), (q43, .inl (cA, 32, .inl rf_Z)), (q51, .inl (cA, 80, .inl rf_Z)), (q59, .inl (cA, 20, .inl rf_Z)), (q67, .inl (cA, 20, .inl rf_Z))] := hD
  refine W.widen (k := 8) (n := 2154) (Nat.le_of_ble_eq_true rfl) (Nat.le_of_ble_eq_true rfl) ?_
  refine va_putF (D := D) (ci := 7) (v := .ref q67) (ty := .array .int) (C := rfRX7) (T := rfTX7) (N := 14) hx hb hts rf_in_X7_init_X7 rftyX7 rftyX7_ok rfnmX7 hown hK hP hD hS 0 rfl rfl 12 (by decide) (hts _ (List.mem_of_getElem? (i := 12) rfl)) (fun _ h9 => h9) rfl hin rfl (by decide +kernel) rfl rfl (Nat.le_of_ble_eq_true rfl) rfdX7_init_69 (fun H locs hP hD hS => ?_)
  have hP : va_P D rf_cl [(h0, .inr (7, [.ref q8, .ref q17, .ref q26, .int 0, .ref q35, .int 0, .ref q43, .ref q51, .int 0, .int 0, .int 0, .ref q59, .ref q67, .null])), (q8, .inl (cA, 286, .inl rf_Z)), (q17, .inl (cA, 286, .inl rf_Z)), (q26, .inl (cA, 1144, .inl rf_Z)), (q35, .inl (cA, 286, .inl rf_Z)), (q43, .inl (cA, 32, .inl rf_Z)), (q51, .inl (cA, 80, .inl rf_Z)), (q59, .inl (cA, 20, .inl rf_Z)), (q67, .inl (cA, 20, .inl rf_Z))] H := hP
  have hD : va_D A [(h0, .inr (7, [.ref q8, .ref q17, .ref q26, .int 0, .ref q35, .int 0, .ref q43, .ref q51, .int 0, .int 0, .int 0, .ref q59, .ref q67, .null])), (q8, .inl (cA, 286, .inl rf_Z)), (q17, .inl (cA, 286, .inl rf_Z)), (q26, .inl (cA, 1144, .inl rf_Z)), (q35, .inl (cA, 286, .inl rf_Z)), (q43, .inl (cA, 32, .inl rf_Z)), (q51, .inl (cA, 80, .inl rf_Z)), (q59, .inl (cA, 20, .inl rf_Z)), (q67, .inl (cA, 20, .inl rf_Z))] := hD
  refine lv_aload_n hx hb rfdX7_init_72 rfl (lv_at hl 0 rfl) ?_
  refine lv_bipush (v := (nI 20)) hx hb rfdX7_init_73 (by decide) ?_
  refine rf_newa (N := 20) hx hb (hts _ (List.mem_of_getElem? (i := 4) rfl)) hK hP hD hS hA (by decide) (by decide) (by decide) (Nat.le_of_ble_eq_true rfl) (Nat.le_of_ble_eq_true rfl) rfdX7_init_75 (fun q75 H hP hD hS => ?_)
  have hP : va_P D rf_cl [(h0, .inr (7, [.ref q8, .ref q17, .ref q26, .int 0, .ref q35, .int 0, .ref q43, .ref q51, .int 0, .int 0, .int 0, .ref q59, .ref q67, .null])), (q8, .inl (cA, 286, .inl rf_Z)), (q17, .inl (cA, 286, .inl rf_Z)), (q26, .inl (cA, 1144, .inl rf_Z)), (q35, .inl (cA, 286, .inl rf_Z)), (q43, .inl (cA, 32, .inl rf_Z)), (q51, .inl (cA, 80, .inl rf_Z)), (q59, .inl (cA, 20, .inl rf_Z)), (q67, .inl (cA, 20, .inl rf_Z)), (q75, .inl (cA, 20, .inl rf_Z))] H := hP
  have hD : va_D A [(h0, .inr (7, [.ref q8, .ref q17, .ref q26, .int 0, .ref q35, .int 0, .ref q43, .ref q51, .int 0, .int 0, .int 0, .ref q59, .ref q67, .null])), (q8, .inl (cA, 286, .inl rf_Z)), (q17, .inl (cA, 286, .inl rf_Z)), (q26, .inl (cA, 1144, .inl rf_Z)), (q35, .inl (cA, 286, .inl rf_Z)), (q43, .inl (cA, 32, .inl rf_Z)), (q51, .inl (cA, 80, .inl rf_Z)), (q59, .inl (cA, 20, .inl rf_Z)), (q67, .inl (cA, 20, .inl rf_Z)), (q75, .inl (cA, 20, .inl rf_Z))] := hD
  refine W.widen (k := 9) (n := 2174) (Nat.le_of_ble_eq_true rfl) (Nat.le_of_ble_eq_true rfl) ?_
  refine va_putF (D := D) (ci := 7) (v := .ref q75) (ty := .array .int) (C := rfRX7) (T := rfTX7) (N := 14) hx hb hts rf_in_X7_init_X7 rftyX7 rftyX7_ok rfnmX7 hown hK hP hD hS 0 rfl rfl 13 (by decide) (hts _ (List.mem_of_getElem? (i := 13) rfl)) (fun _ h9 => h9) rfl hin rfl (by decide +kernel) rfl rfl (Nat.le_of_ble_eq_true rfl) rfdX7_init_77 (fun H locs hP hD hS => ?_)
  have hP : va_P D rf_cl [(h0, .inr (7, [.ref q8, .ref q17, .ref q26, .int 0, .ref q35, .int 0, .ref q43, .ref q51, .int 0, .int 0, .int 0, .ref q59, .ref q67, .ref q75])), (q8, .inl (cA, 286, .inl rf_Z)), (q17, .inl (cA, 286, .inl rf_Z)), (q26, .inl (cA, 1144, .inl rf_Z)), (q35, .inl (cA, 286, .inl rf_Z)), (q43, .inl (cA, 32, .inl rf_Z)), (q51, .inl (cA, 80, .inl rf_Z)), (q59, .inl (cA, 20, .inl rf_Z)), (q67, .inl (cA, 20, .inl rf_Z)), (q75, .inl (cA, 20, .inl rf_Z))] H := hP
  have hD : va_D A [(h0, .inr (7, [.ref q8, .ref q17, .ref q26, .int 0, .ref q35, .int 0, .ref q43, .ref q51, .int 0, .int 0, .int 0, .ref q59, .ref q67, .ref q75])), (q8, .inl (cA, 286, .inl rf_Z)), (q17, .inl (cA, 286, .inl rf_Z)), (q26, .inl (cA, 1144, .inl rf_Z)), (q35, .inl (cA, 286, .inl rf_Z)), (q43, .inl (cA, 32, .inl rf_Z)), (q51, .inl (cA, 80, .inl rf_Z)), (q59, .inl (cA, 20, .inl rf_Z)), (q67, .inl (cA, 20, .inl rf_Z)), (q75, .inl (cA, 20, .inl rf_Z))] := hD
  refine lv_aload_n hx hb rfdX7_init_80 rfl (lv_at hl 0 rfl) ?_
  refine va_get (D := D) (ci := 7) (v := .ref q8) (C := rfRX7) (T := rfTX7) (N := 14) hx hb hts rf_in_X7_init_X7 hown hK hP 0 rfl rfl 0 (by decide) (hts _ (List.mem_of_getElem? (i := 5) rfl)) (fun _ h9 => h9) rfl rfdX7_init_81 ?_
  refine lv_iconst (v := 1) hx hb rfdX7_init_84 (by decide) ?_
  refine lv_iconst (v := 3) hx hb rfdX7_init_85 (by decide) ?_
  refine va_iast hx hb hK hP hD hS 1 0 rfl rfl (by unfold vp_in; decide) rfdX7_init_86 (fun H locs hP hD hS => ?_)
  generalize hg86 : upd rf_Z (Int32.toNatClampNeg 1) 3 = g86 at hP hD
  have hP : va_P D rf_cl [(h0, .inr (7, [.ref q8, .ref q17, .ref q26, .int 0, .ref q35, .int 0, .ref q43, .ref q51, .int 0, .int 0, .int 0, .ref q59, .ref q67, .ref q75])), (q8, .inl (cA, 286, .inl g86)), (q17, .inl (cA, 286, .inl rf_Z)), (q26, .inl (cA, 1144, .inl rf_Z)), (q35, .inl (cA, 286, .inl rf_Z)), (q43, .inl (cA, 32, .inl rf_Z)), (q51, .inl (cA, 80, .inl rf_Z)), (q59, .inl (cA, 20, .inl rf_Z)), (q67, .inl (cA, 20, .inl rf_Z)), (q75, .inl (cA, 20, .inl rf_Z))] H := hP
  have hD : va_D A [(h0, .inr (7, [.ref q8, .ref q17, .ref q26, .int 0, .ref q35, .int 0, .ref q43, .ref q51, .int 0, .int 0, .int 0, .ref q59, .ref q67, .ref q75])), (q8, .inl (cA, 286, .inl g86)), (q17, .inl (cA, 286, .inl rf_Z)), (q26, .inl (cA, 1144, .inl rf_Z)), (q35, .inl (cA, 286, .inl rf_Z)), (q43, .inl (cA, 32, .inl rf_Z)), (q51, .inl (cA, 80, .inl rf_Z)), (q59, .inl (cA, 20, .inl rf_Z)), (q67, .inl (cA, 20, .inl rf_Z)), (q75, .inl (cA, 20, .inl rf_Z))] := hD
  refine lv_iconst (v := 0) hx hb rfdX7_init_87 (by decide) ?_
  refine lv_istore_n (lv' := [(1, .int 0), (0, .ref h0)]) hx hb rfdX7_init_88 rfl hl (by decide) rfl (fun ls hl => ?_)
  have LP : ∀ (n_ k_ : Nat), k_ + n_ = 10 → ∀ (f_ : Nat → Int32) (H : Heap) (locs : List Loc) (ls : Array Slot), va_P D rf_cl [(h0, .inr (7, [.ref q8, .ref q17, .ref q26, .int 0, .ref q35, .int 0, .ref q43, .ref q51, .int 0, .int 0, .int 0, .ref q59, .ref q67, .ref q75])), (q8, .inl (cA, 286, .inl f_)), (q17, .inl (cA, 286, .inl rf_Z)), (q26, .inl (cA, 1144, .inl rf_Z)), (q35, .inl (cA, 286, .inl rf_Z)), (q43, .inl (cA, 32, .inl rf_Z)), (q51, .inl (cA, 80, .inl rf_Z)), (q59, .inl (cA, 20, .inl rf_Z)), (q67, .inl (cA, 20, .inl rf_Z)), (q75, .inl (cA, 20, .inl rf_Z))] H → va_D A [(h0, .inr (7, [.ref q8, .ref q17, .ref q26, .int 0, .ref q35, .int 0, .ref q43, .ref q51, .int 0, .int 0, .int 0, .ref q59, .ref q67, .ref q75])), (q8, .inl (cA, 286, .inl f_)), (q17, .inl (cA, 286, .inl rf_Z)), (q26, .inl (cA, 1144, .inl rf_Z)), (q35, .inl (cA, 286, .inl rf_Z)), (q43, .inl (cA, 32, .inl rf_Z)), (q51, .inl (cA, 80, .inl rf_Z)), (q59, .inl (cA, 20, .inl rf_Z)), (q67, .inl (cA, 20, .inl rf_Z)), (q75, .inl (cA, 20, .inl rf_Z))] → va_S A s.heap H locs → lv_has ls 2 [(1, .int (nI k_)), (0, .ref h0)] → W p l e { frames := 1, cells := 9, slots := 2174, locals := 20 } s m args below meth c H locs 9 2174 Q (F0 m 89 ls []) := by
    intro n_
    induction n_ with
    | zero =>
      intro k_ hk_ f_ H locs ls hP hD hS hl
      refine lv_iload_n hx hb rfdX7_init_89 rfl (lv_at hl 0 rfl) ?_
      refine lv_bipush (v := (nI 10)) hx hb rfdX7_init_90 (by decide) ?_
      refine lv_icmp_ge (tgt := 133) hx hb rfdX7_init_92 (by decide) (fun h3 => ?_) (fun h3 => absurd (nI_le (by omega) (by omega)) h3)
      exact RET _ _ _ _ q26 rfdX7_init_133 (hP.sub [3] rfl) (hD.sub [3] (by decide) rfl) hS
    | succ n_ ih_ =>
      intro k_ hk_ f_ H locs ls hP hD hS hl
      refine lv_iload_n hx hb rfdX7_init_89 rfl (lv_at hl 0 rfl) ?_
      refine lv_bipush (v := (nI 10)) hx hb rfdX7_init_90 (by decide) ?_
      refine lv_icmp_ge (tgt := 133) hx hb rfdX7_init_92 (by decide) (fun h3 => absurd h3 (nI_ge (by omega) (by omega))) (fun h3 => ?_)
      refine lv_aload_n hx hb rfdX7_init_95 rfl (lv_at hl 1 rfl) ?_
      refine va_get (D := D) (ci := 7) (v := .ref q8) (C := rfRX7) (T := rfTX7) (N := 14) hx hb hts rf_in_X7_init_X7 hown hK hP 0 rfl rfl 0 (by decide) (hts _ (List.mem_of_getElem? (i := 5) rfl)) (fun _ h9 => h9) rfl rfdX7_init_96 ?_
      refine lv_iconst (v := 2) hx hb rfdX7_init_99 (by decide) ?_
      refine lv_iconst (v := 2) hx hb rfdX7_init_100 (by decide) ?_
      refine lv_iload_n hx hb rfdX7_init_101 rfl (lv_at hl 0 rfl) ?_
      refine lv_imul hx hb rfdX7_init_102 ?_
      refine lv_iadd hx hb rfdX7_init_103 ?_
      refine lv_iload_n hx hb rfdX7_init_104 rfl (lv_at hl 0 rfl) ?_
      refine lv_bipush (v := 6) hx hb rfdX7_init_105 (by decide) ?_
      refine lv_irem hx hb rfdX7_init_107 (by decide) ?_
      refine lv_topi (fun x107_ ex107_ => ?_)
      refine va_iast hx hb hK hP hD hS 1 0 rfl rfl (rf_x1 k_ (by omega)) rfdX7_init_108 (fun H locs hP hD hS => ?_)
      generalize hg108 : upd f_ (Int32.toNatClampNeg (2 + (2 * (nI k_)))) x107_ = g108 at hP hD
      have hP : va_P D rf_cl [(h0, .inr (7, [.ref q8, .ref q17, .ref q26, .int 0, .ref q35, .int 0, .ref q43, .ref q51, .int 0, .int 0, .int 0, .ref q59, .ref q67, .ref q75])), (q8, .inl (cA, 286, .inl g108)), (q17, .inl (cA, 286, .inl rf_Z)), (q26, .inl (cA, 1144, .inl rf_Z)), (q35, .inl (cA, 286, .inl rf_Z)), (q43, .inl (cA, 32, .inl rf_Z)), (q51, .inl (cA, 80, .inl rf_Z)), (q59, .inl (cA, 20, .inl rf_Z)), (q67, .inl (cA, 20, .inl rf_Z)), (q75, .inl (cA, 20, .inl rf_Z))] H := hP
      have hD : va_D A [(h0, .inr (7, [.ref q8, .ref q17, .ref q26, .int 0, .ref q35, .int 0, .ref q43, .ref q51, .int 0, .int 0, .int 0, .ref q59, .ref q67, .ref q75])), (q8, .inl (cA, 286, .inl g108)), (q17, .inl (cA, 286, .inl rf_Z)), (q26, .inl (cA, 1144, .inl rf_Z)), (q35, .inl (cA, 286, .inl rf_Z)), (q43, .inl (cA, 32, .inl rf_Z)), (q51, .inl (cA, 80, .inl rf_Z)), (q59, .inl (cA, 20, .inl rf_Z)), (q67, .inl (cA, 20, .inl rf_Z)), (q75, .inl (cA, 20, .inl rf_Z))] := hD
      refine lv_aload_n hx hb rfdX7_init_109 rfl (lv_at hl 1 rfl) ?_
      refine va_get (D := D) (ci := 7) (v := .ref q8) (C := rfRX7) (T := rfTX7) (N := 14) hx hb hts rf_in_X7_init_X7 hown hK hP 0 rfl rfl 0 (by decide) (hts _ (List.mem_of_getElem? (i := 5) rfl)) (fun _ h9 => h9) rfl rfdX7_init_110 ?_
      refine lv_iconst (v := 2) hx hb rfdX7_init_113 (by decide) ?_
      refine lv_iconst (v := 2) hx hb rfdX7_init_114 (by decide) ?_
      refine lv_iload_n hx hb rfdX7_init_115 rfl (lv_at hl 0 rfl) ?_
      refine lv_imul hx hb rfdX7_init_116 ?_
      refine lv_iadd hx hb rfdX7_init_117 ?_
      refine lv_iconst (v := 1) hx hb rfdX7_init_118 (by decide) ?_
      refine lv_iadd hx hb rfdX7_init_119 ?_
      refine lv_iload_n hx hb rfdX7_init_120 rfl (lv_at hl 0 rfl) ?_
      refine lv_iconst (v := 1) hx hb rfdX7_init_121 (by decide) ?_
      refine lv_iadd hx hb rfdX7_init_122 ?_
      refine lv_bipush (v := 6) hx hb rfdX7_init_123 (by decide) ?_
      refine lv_irem hx hb rfdX7_init_125 (by decide) ?_
      refine lv_topi (fun x125_ ex125_ => ?_)
      refine va_iast hx hb hK hP hD hS 1 0 rfl rfl (rf_x2 k_ (by omega)) rfdX7_init_126 (fun H locs hP hD hS => ?_)
      generalize hg126 : upd g108 (Int32.toNatClampNeg ((2 + (2 * (nI k_))) + 1)) x125_ = g126 at hP hD
      have hP : va_P D rf_cl [(h0, .inr (7, [.ref q8, .ref q17, .ref q26, .int 0, .ref q35, .int 0, .ref q43, .ref q51, .int 0, .int 0, .int 0, .ref q59, .ref q67, .ref q75])), (q8, .inl (cA, 286, .inl g126)), (q17, .inl (cA, 286, .inl rf_Z)), (q26, .inl (cA, 1144, .inl rf_Z)), (q35, .inl (cA, 286, .inl rf_Z)), (q43, .inl (cA, 32, .inl rf_Z)), (q51, .inl (cA, 80, .inl rf_Z)), (q59, .inl (cA, 20, .inl rf_Z)), (q67, .inl (cA, 20, .inl rf_Z)), (q75, .inl (cA, 20, .inl rf_Z))] H := hP
      have hD : va_D A [(h0, .inr (7, [.ref q8, .ref q17, .ref q26, .int 0, .ref q35, .int 0, .ref q43, .ref q51, .int 0, .int 0, .int 0, .ref q59, .ref q67, .ref q75])), (q8, .inl (cA, 286, .inl g126)), (q17, .inl (cA, 286, .inl rf_Z)), (q26, .inl (cA, 1144, .inl rf_Z)), (q35, .inl (cA, 286, .inl rf_Z)), (q43, .inl (cA, 32, .inl rf_Z)), (q51, .inl (cA, 80, .inl rf_Z)), (q59, .inl (cA, 20, .inl rf_Z)), (q67, .inl (cA, 20, .inl rf_Z)), (q75, .inl (cA, 20, .inl rf_Z))] := hD
      refine lv_iinc (v := nI (k_ + 1)) (lv' := [(1, .int (nI (k_ + 1))), (0, .ref h0)]) hx hb rfdX7_init_127 hl (k := 0) rfl (nI_succ k_).symm (by decide) rfl (fun ls hl => ?_)
      refine lv_goto (tgt := 89) hx hb rfdX7_init_130 (by decide) ?_
      exact ih_ (k_ + 1) (by omega) g126 H locs ls hP hD hS hl
  exact LP 10 0 rfl g86 H locs ls hP hD hS (lv_sub hl [0, 1] rfl)
