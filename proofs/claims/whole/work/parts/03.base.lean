/-! base: contracts over a constant part and a changing part of the world; numbers as naturals -/
def nestT : List (String × Nat × MethodName) := [(RX4, 36, yX6_isBelow), (RX4, 40, yX6_isMirrored), (RX4, 44, yX6_kindOf), (RX2, 33, yX6_kindOf), (RX2, 36, yX6_mirrorOf), (RX4, 60, yX6_mirrorOf), (RX2, 25, yX6_isMirrored), (RX2, 29, yX6_oneIf), (RX5, 36, yX6_dollOf), (RX5, 40, yX6_mirrorOf), (RX0, 70, yX6_mirrorOf)]
def nwAll (U : State) : Prop := ∀ q ∈ nestT, va_Nw (.methodLinkNest q.1 q.2.1 q.2.2 "DollGarlands") U
theorem nwAll.same {u U : State} (h : u.vm = U.vm) (hz : nwAll u) : nwAll U := fun q hq => va_Nw.same rfl h (hz q hq)
theorem nwAll.warm {s U : State} (hW : s.WarmedH U.vm) (hz : nwAll s) : nwAll U := fun q hq => va_Nw.warmM hW (hz q hq)
def KK (D : va_G) (cA : ClassId) (U : State) : Prop := va_K D vwCl [(cA, .int)] U ∧ nwAll U
def cP (D : va_G) (cA : ClassId) (av : List Value) (sz : Nat) (wc : va_W) : Array Value → State → Prop := va_Pc av (fun U => U.heap.size = sz ∧ va_P D vwCl wc U.heap ∧ KK D cA U ∧ va_D (fun _ => True) wc)
theorem cP_blind {D : va_G} {cA : ClassId} {av : List Value} {sz : Nat} {wc : va_W} : FrameBlind (cP D cA av sz wc) := fun a U g mk q => by
  obtain ⟨q0, q1, qP, qK, qD⟩ := q
  exact ⟨q0, q1, qP, ⟨va_K.moved (u := U) (U := U.calling g mk a) (Vm.Alike.refl U.vm) qK.1, nwAll.same (u := U) (U := U.calling g mk a) rfl qK.2⟩, qD⟩
theorem cP_at {D : va_G} {cA : ClassId} {av : List Value} {wc : va_W} {H : Heap} {s : State} {A : Nat → Prop} (hP : va_P D vwCl wc H) (hK : KK D cA s) (hD : va_D A wc) : ∀ U : State, U.heap = H → s.WarmedH U.vm → cP D cA av H.size wc av.toArray U :=
  fun U hU hW => ⟨rfl, by rw [hU], by rw [hU]; exact hP, ⟨va_K.moved hW.alike hK.1, hK.2.warm hW⟩, hD.weaken (fun _ _ _ _ => trivial)⟩
def MI (l : Launch) (D : va_G) (cA : ClassId) (y : MethodName) (ws : List Cond) (rm : Room) (av : List Value) (wr wm : va_W) {S : Type} (post : Int32 → S → Prop) (wm' : S → va_W) : Prop :=
  ∀ sz : Nat, Met l y ws rm (cP D cA av sz (wr ++ wm)) (va_Qi post (fun u t => va_P D vwCl (wm' u) t.heap) (va_A wm sz)) 0 0 (va_A wm sz)
def MV (l : Launch) (D : va_G) (cA : ClassId) (y : MethodName) (ws : List Cond) (rm : Room) (av : List Value) (wr wm : va_W) {S : Type} (post : S → Prop) (wm' : S → va_W) : Prop :=
  ∀ sz : Nat, Met l y ws rm (cP D cA av sz (wr ++ wm)) (va_Qv post (fun u t => va_P D vwCl (wm' u) t.heap) (va_A wm sz)) 0 0 (va_A wm sz)
def RO (l : Launch) (D : va_G) (cA : ClassId) (y : MethodName) (ws : List Cond) (rm : Room) (av : List Value) (wr : va_W) (v : Int32) : Prop :=
  MI l D cA y ws rm av wr [] (S := Unit) (fun r _ => r = v) (fun _ => [])
theorem vaP_nil {D : va_G} {H : Heap} : va_P D vwCl [] H := fun k q h => by simp at h
theorem vaD_nil {A : Nat → Prop} : va_D A [] := ⟨fun i j p q h => by simp at h, fun k q h => by simp at h⟩
def RW (D : va_G) (wr : va_W) (A : Nat → Prop) (H0 : Heap) : Prop := va_P D vwCl wr H0 ∧ va_D (fun _ => True) wr ∧ ∀ (k : Nat) (q : Nat × va_E), wr[k]? = some q → ¬ A q.1
theorem RW.at {D : va_G} {wr : va_W} {A : Nat → Prop} {H0 H : Heap} {locs : List Loc} (h : RW D wr A H0) (hS : va_S A H0 H locs) : va_P D vwCl wr H := h.1.kept (fun k q hk => hS.2.1 q.1 (h.1 k q hk).lt (h.2.2 k q hk))
theorem RW.full {D : va_G} {wr wm : va_W} {A : Nat → Prop} {H0 H : Heap} {locs : List Loc} (h : RW D wr A H0) (hS : va_S A H0 H locs) (hP : va_P D vwCl wm H) (hD : va_D A wm) : va_P D vwCl (wr ++ wm) H ∧ va_D (fun _ => True) (wr ++ wm) :=
  ⟨(h.at hS).app hP, h.2.1.app (hD.weaken (fun _ _ _ _ => trivial)) (fun i j p q hp hq e => h.2.2 i p hp (by rw [e]; exact hD.2 j q hq))⟩
theorem ofWi {l : Launch} {D : va_G} {cA : ClassId} {y : MethodName} {ws ws' : List Cond} {rm : Room} {av : List Value} {wr wm : va_W} {S : Type} {post : Int32 → S → Prop} {wm' : S → va_W} {cc : ByteArray} {maxL : Nat} {rt : FieldType}
    (hy : plainName y.cls = true) (hw : ws = Cond.code y cc maxL (some rt) :: ws') (hlen : (lg_sl av).length ≤ maxL)
    (body : ∀ (p : Program) (e : Env) (s : State) (m : MethodId) (args : Array Value) (below : List Frame) (meth : Method) (c : Code) (Q : State → Prop) (A : Nat → Prop) (ls : Array Slot), CallFix p m c cc maxL s args ws y.cls → KK D cA s → RW D wr A s.heap → va_P D vwCl wm s.heap → va_D A wm → (∀ q : Nat, s.heap.size ≤ q → A q) → va_S A s.heap s.heap [] → lv_has ls maxL (lv_args 0 av) →
      (∀ (H : Heap) (locs : List Loc) (pc : Nat) (ls : Array Slot) (r : Int32) (u : S), decode cc pc = .ok (.ireturn, 1) → narrow rt (.int r) = .int r → post r u → va_P D vwCl (wm' u) H → va_S A s.heap H locs → W p l e rm s m args below meth c H locs 0 0 Q (F0 m pc ls [.int r])) →
      W p l e rm s m args below meth c s.heap [] 0 0 Q (F0 m 0 ls [])) : MI l D cA y ws rm av wr wm post wm' := by
  intro sz
  refine Met.ofW (cc := cc) (maxL := maxL) (ret := some rt) hy hw ?_
  intro p e s m args below meth c s₁ B hml hv
  obtain ⟨rfl, hsz, hP, hK, hD0⟩ := hv
  subst hsz
  have hts := atoms_spec (ws := ws) B.pre
  have hown : s.vm.findClass y.cls = some m.cls := findClass_of_methodNamed B.named
  have hlocks := B.notSynchronized
  have hl := lv_entry av (n := maxL) hlen
  rw [lg_entry_eq]
  have hPr : va_P D vwCl wr s.heap := fun k q hk => hP k q (by rw [List.getElem?_append_left (List.getElem?_eq_some_iff.mp hk).1]; exact hk)
  have hPm : va_P D vwCl wm s.heap := fun k q hk => hP (wr.length + k) q (by rw [List.getElem?_append_right (Nat.le_add_right _ _), Nat.add_sub_cancel_left]; exact hk)
  refine body p e s m _ below meth c _ (va_A wm s.heap.size) _ ⟨B.exec, B.bytes, hml, hown, hts⟩ hK ⟨hPr, ?_, ?_⟩ hPm ?_ (fun q h => Or.inr h) va_S.rf hl ?_
  · refine ⟨fun i j p q hi hj he => ?_, fun _ _ _ => trivial⟩
    exact hD0.1 i j p q (by rw [List.getElem?_append_left (List.getElem?_eq_some_iff.mp hi).1]; exact hi) (by rw [List.getElem?_append_left (List.getElem?_eq_some_iff.mp hj).1]; exact hj) he
  · intro k q hk hA
    rcases hA with ⟨j, e2, hj⟩ | hge
    · have h1 : (wr ++ wm)[k]? = some q := by rw [List.getElem?_append_left (List.getElem?_eq_some_iff.mp hk).1]; exact hk
      have h2 : (wr ++ wm)[wr.length + j]? = some (q.1, e2) := by rw [List.getElem?_append_right (Nat.le_add_right _ _), Nat.add_sub_cancel_left]; exact hj
      have h3 := hD0.1 _ _ _ _ h1 h2 rfl
      have h4 := (List.getElem?_eq_some_iff.mp hk).1
      omega
    · have := (hPr k q hk).lt
      omega
  · refine ⟨fun i j p q hi hj he => ?_, fun k q hk => va_A.in hk⟩
    have := hD0.1 (wr.length + i) (wr.length + j) p q (by rw [List.getElem?_append_right (Nat.le_add_right _ _), Nat.add_sub_cancel_left]; exact hi) (by rw [List.getElem?_append_right (Nat.le_add_right _ _), Nat.add_sub_cancel_left]; exact hj) he
    omega
  · intro H locs pc ls r u hd hn hp hP' hS'
    exact W.zret (v := r) B.exec B.bytes B.returns hn (fun t ht hW => ⟨⟨r, u, rfl, hp, by show va_P D vwCl (wm' u) t.heap; rw [ht]; exact hP'⟩, hS'.F ht⟩) hS'.2.2 hd hlocks
theorem ofWv {l : Launch} {D : va_G} {cA : ClassId} {y : MethodName} {ws ws' : List Cond} {rm : Room} {av : List Value} {wr wm : va_W} {S : Type} {post : S → Prop} {wm' : S → va_W} {cc : ByteArray} {maxL : Nat}
    (hy : plainName y.cls = true) (hw : ws = Cond.code y cc maxL none :: ws') (hlen : (lg_sl av).length ≤ maxL)
    (body : ∀ (p : Program) (e : Env) (s : State) (m : MethodId) (args : Array Value) (below : List Frame) (meth : Method) (c : Code) (Q : State → Prop) (A : Nat → Prop) (ls : Array Slot), CallFix p m c cc maxL s args ws y.cls → KK D cA s → RW D wr A s.heap → va_P D vwCl wm s.heap → va_D A wm → (∀ q : Nat, s.heap.size ≤ q → A q) → va_S A s.heap s.heap [] → lv_has ls maxL (lv_args 0 av) →
      (∀ (H : Heap) (locs : List Loc) (pc : Nat) (ls : Array Slot) (u : S), decode cc pc = .ok (.return_, 1) → post u → va_P D vwCl (wm' u) H → va_S A s.heap H locs → W p l e rm s m args below meth c H locs 0 0 Q (F0 m pc ls [])) →
      W p l e rm s m args below meth c s.heap [] 0 0 Q (F0 m 0 ls [])) : MV l D cA y ws rm av wr wm post wm' := by
  intro sz
  refine Met.ofW (cc := cc) (maxL := maxL) (ret := none) hy hw ?_
  intro p e s m args below meth c s₁ B hml hv
  obtain ⟨rfl, hsz, hP, hK, hD0⟩ := hv
  subst hsz
  have hts := atoms_spec (ws := ws) B.pre
  have hown : s.vm.findClass y.cls = some m.cls := findClass_of_methodNamed B.named
  have hlocks := B.notSynchronized
  have hl := lv_entry av (n := maxL) hlen
  rw [lg_entry_eq]
  have hPr : va_P D vwCl wr s.heap := fun k q hk => hP k q (by rw [List.getElem?_append_left (List.getElem?_eq_some_iff.mp hk).1]; exact hk)
  have hPm : va_P D vwCl wm s.heap := fun k q hk => hP (wr.length + k) q (by rw [List.getElem?_append_right (Nat.le_add_right _ _), Nat.add_sub_cancel_left]; exact hk)
  refine body p e s m _ below meth c _ (va_A wm s.heap.size) _ ⟨B.exec, B.bytes, hml, hown, hts⟩ hK ⟨hPr, ?_, ?_⟩ hPm ?_ (fun q h => Or.inr h) va_S.rf hl ?_
  · refine ⟨fun i j p q hi hj he => ?_, fun _ _ _ => trivial⟩
    exact hD0.1 i j p q (by rw [List.getElem?_append_left (List.getElem?_eq_some_iff.mp hi).1]; exact hi) (by rw [List.getElem?_append_left (List.getElem?_eq_some_iff.mp hj).1]; exact hj) he
  · intro k q hk hA
    rcases hA with ⟨j, e2, hj⟩ | hge
    · have h1 : (wr ++ wm)[k]? = some q := by rw [List.getElem?_append_left (List.getElem?_eq_some_iff.mp hk).1]; exact hk
      have h2 : (wr ++ wm)[wr.length + j]? = some (q.1, e2) := by rw [List.getElem?_append_right (Nat.le_add_right _ _), Nat.add_sub_cancel_left]; exact hj
      have h3 := hD0.1 _ _ _ _ h1 h2 rfl
      have h4 := (List.getElem?_eq_some_iff.mp hk).1
      omega
    · have := (hPr k q hk).lt
      omega
  · refine ⟨fun i j p q hi hj he => ?_, fun k q hk => va_A.in hk⟩
    have := hD0.1 (wr.length + i) (wr.length + j) p q (by rw [List.getElem?_append_right (Nat.le_add_right _ _), Nat.add_sub_cancel_left]; exact hi) (by rw [List.getElem?_append_right (Nat.le_add_right _ _), Nat.add_sub_cancel_left]; exact hj) he
    omega
  · intro H locs pc ls u hd hp hP' hS'
    exact W.vret B.exec B.bytes B.returns (fun t ht hW => ⟨⟨u, rfl, hp, by show va_P D vwCl (wm' u) t.heap; rw [ht]; exact hP'⟩, hS'.F ht⟩) hS'.2.2 hd hlocks
def setAll : va_W → List Nat → va_W → va_W
  | ws, [], _ => ws
  | ws, _ :: _, [] => ws
  | ws, i :: is, w :: wm => setAll (ws.set i w) is wm
theorem setAll_nil (ws wm : va_W) : setAll ws [] wm = ws := by cases wm <;> rfl
theorem setAll_get : ∀ (is : List Nat) (ws wm : va_W) (k : Nat) (q : Nat × va_E), is.length = wm.length → (setAll ws is wm)[k]? = some q → q ∈ wm ∨ (ws[k]? = some q ∧ k ∉ is)
  | [], ws, wm, k, q, _, h => Or.inr ⟨by rw [setAll_nil] at h; exact h, List.not_mem_nil⟩
  | i :: is, ws, [], k, q, hl, h => by simp at hl
  | i :: is, ws, w :: wm, k, q, hl, h => by
    rcases setAll_get is (ws.set i w) wm k q (by simpa using hl) h with h1 | ⟨h1, h2⟩
    · exact Or.inl (List.mem_cons_of_mem _ h1)
    · by_cases hk : k = i
      · subst hk
        by_cases hlt : k < ws.length
        · rw [List.getElem?_set_self hlt] at h1
          cases h1
          exact Or.inl List.mem_cons_self
        · rw [List.getElem?_eq_none (by simp; omega)] at h1
          cases h1
      · rw [List.getElem?_set_ne (Ne.symm hk)] at h1
        exact Or.inr ⟨h1, by simp [hk, h2]⟩
theorem vaD_map {A : Nat → Prop} {ws ws' : va_W} (h : ws'.map (·.1) = ws.map (·.1)) (hD : va_D A ws) : va_D A ws' := by
  have key : ∀ (k : Nat) (q : Nat × va_E), ws'[k]? = some q → ∃ q0, ws[k]? = some q0 ∧ q0.1 = q.1 := by
    intro k q hk
    have h1 : (ws'.map (·.1))[k]? = some q.1 := by rw [List.getElem?_map, hk]; rfl
    rw [h, List.getElem?_map] at h1
    cases hw : ws[k]? with
    | none => rw [hw] at h1; cases h1
    | some q0 => rw [hw] at h1; exact ⟨q0, rfl, Option.some.inj h1⟩
  refine ⟨fun i j x y hi hj hxy => ?_, fun k q hk => ?_⟩
  · obtain ⟨x0, h1, h2⟩ := key i x hi
    obtain ⟨y0, h3, h4⟩ := key j y hj
    exact hD.1 i j x0 y0 h1 h3 (h2.trans (hxy.trans h4.symm))
  · obtain ⟨q0, h1, h2⟩ := key k q hk
    rw [← h2]
    exact hD.2 k q0 h1
theorem setAll_map : ∀ (is : List Nat) (ws wm : va_W), is.map (fun i => (ws[i]?).map (·.1)) = wm.map (fun q => some q.1) → (setAll ws is wm).map (·.1) = ws.map (·.1)
  | [], ws, wm, _ => by rw [setAll_nil]
  | i :: is, ws, [], _ => rfl
  | i :: is, ws, w :: wm, h => by
    have h0 : (ws[i]?).map (·.1) = some w.1 := by simpa using (List.cons.inj h).1
    have h1 := (List.cons.inj h).2
    have hm : (ws.set i w).map (·.1) = ws.map (·.1) := by
      apply List.ext_getElem?
      intro j
      rw [List.getElem?_map, List.getElem?_map]
      by_cases hj : i = j
      · subst hj
        cases hw : ws[i]? with
        | none => rw [hw] at h0; cases h0
        | some q0 =>
          rw [List.getElem?_set_self (List.getElem?_eq_some_iff.mp hw).1]
          rw [hw] at h0
          exact h0.symm
      · rw [List.getElem?_set_ne hj]
    show (setAll (ws.set i w) is wm).map (·.1) = _
    rw [setAll_map is (ws.set i w) wm ?_, hm]
    rw [← h1]
    apply List.map_congr_left
    intro j _
    rw [← List.getElem?_map, hm, List.getElem?_map]
theorem setAll_ok {D : va_G} {A A' : Nat → Prop} {ws wm wm' : va_W} {H H1 : Heap} (hP : va_P D vwCl ws H) (hD : va_D A ws) (is : List Nat) (his : is.map (fun i => ws[i]?) = wm.map some) (ha : wm'.map (·.1) = wm.map (·.1)) (hk : ∀ q : Nat, q < H.size → ¬ va_A wm H.size q → H1[q]? = H[q]?) (hP1 : va_P D vwCl wm' H1) : va_P D vwCl (setAll ws is wm') H1 ∧ va_D A (setAll ws is wm') := by
  have hlen : is.length = wm'.length := by
    have h1 := congrArg List.length his
    have h2 := congrArg List.length ha
    simp at h1 h2
    omega
  refine ⟨fun k q hq => ?_, vaD_map (setAll_map is ws wm' ?_) hD⟩
  · rcases setAll_get is ws wm' k q hlen hq with h | ⟨h, hn⟩
    · obtain ⟨j, hj⟩ := List.getElem?_of_mem h
      exact hP1 j q hj
    · refine (hP k q h).kept (hk q.1 (hP k q h).lt (fun hA => ?_))
      rcases hA with ⟨j, e2, hj⟩ | hge
      · have h1 : (is.map (fun i => ws[i]?))[j]? = some (some (q.1, e2)) := by rw [his, List.getElem?_map, hj]; rfl
        rw [List.getElem?_map] at h1
        cases hi : is[j]? with
        | none => rw [hi] at h1; cases h1
        | some i =>
          rw [hi] at h1
          have h2 := hD.1 k i q (q.1, e2) h (Option.some.inj h1) rfl
          subst h2
          exact hn (List.mem_of_getElem? hi)
      · have := (hP k q h).lt
        omega
  · have h1 : is.map (fun i => (ws[i]?).map (·.1)) = (is.map (fun i => ws[i]?)).map (fun o => o.map (·.1)) := by rw [List.map_map]; rfl
    rw [h1, his, List.map_map]
    have h2 := congrArg (List.map some) ha
    rw [List.map_map, List.map_map] at h2
    exact h2.symm
section CALLS
variable {p : Program} {l : Launch} {e : Env} {R : Room} {s : State} {m : MethodId} {args : Array Value} {below : List Frame} {meth : Method} {c : Code} {H : Heap} {locs : List Loc} {Q : State → Prop} {cells slots : Nat}
variable {cc : ByteArray} {nL pc : Nat} {ls : Array Slot} {rest st0 : List Value} {D : va_G} {cA : ClassId} {A : Nat → Prop} {wr wm wrY wmY : va_W} {Ts wsY ws' : List Cond} {rmY : Room} {y : MethodName} {bytes : ByteArray} {maxL index n : Nat} {own : String} {b : Addr} {As : List Value} {S : Type}
theorem pre_of (hK : KK D cA s) (hR : RW D wr A s.heap) (hP : va_P D vwCl wm H) (hD : va_D A wm) (hS : va_S A s.heap H locs) (is : List Nat) (wc : va_W) (his : is.map (fun i => (wr ++ wm)[i]?) = wc.map some) (hnd : va_nd is = true) (av : List Value) : FrameBlind (cP D cA av H.size wc) ∧ ∀ U : State, U.heap = H → s.WarmedH U.vm → cP D cA av H.size wc av.toArray U := by
  obtain ⟨h1, h2⟩ := hR.full hS hP hD
  have h3 : va_D (fun _ => True) wc := h2.sub is hnd his
  refine ⟨cP_blind, cP_at (fun k q hk => ?_) hK h3⟩
  have h4 : (is.map (fun i => (wr ++ wm)[i]?))[k]? = some (some q) := by rw [his, List.getElem?_map, hk]; rfl
  rw [List.getElem?_map] at h4
  cases hi : is[k]? with
  | none => rw [hi] at h4; cases h4
  | some i => rw [hi] at h4; exact h1 i q (Option.some.inj h4)
theorem rcv_of (hK : KK D cA s) (hR : RW D wr A s.heap) (hP : va_P D vwCl wm H) (hS : va_S A s.heap H locs) (q0 ci : Nat) {q : vw_C} {fs : List Value} (hci : vwCl[ci]? = some q) (hq0 : (wr ++ wm)[q0]? = some (b, .inr (ci, fs))) : ∃ cell : Cell, H[b]? = some cell ∧ cell.vm.isStatics = false ∧ s.vm.findClass q.1 = some cell.cls :=
  va_recv hK.1 ((hR.at hS).app hP) hci hq0
/-- a call of a method of an object, which answers an int -/
theorem call_i {post : Int32 → S → Prop} {wmY' : S → va_W} {q : vw_C} {fs : List Value} (F : CallFix p m c cc nL s args Ts own) (hM : MI l D cA y wsY rmY (.ref b :: As) wrY wmY post wmY') {ret : Option FieldType} (cw : CallW R s args own q.1 index y bytes maxL ret wsY rmY 0 0 n)
    (hK : KK D cA s) (hR : RW D wr A s.heap) (hP : va_P D vwCl wm H) (hD : va_D A wm) (hA : ∀ q, s.heap.size ≤ q → A q) (hS : va_S A s.heap H locs) (isR isM : List Nat)
    (hisR : isR.map (fun i => (wr ++ wm)[i]?) = (wrY ++ wmY).map some) (hnd : va_nd isR = true) (hisM : isM.map (fun i => wm[i]?) = wmY.map some) (q0 ci : Nat) (hci : vwCl[ci]? = some q) (hq0 : (wr ++ wm)[q0]? = some (b, .inr (ci, fs))) (hadr : ∀ u, (wmY' u).map (·.1) = wmY.map (·.1))
    (hn : As.length = n) (hl : ls.size = nL) (hst : st0 = As.reverse ++ .ref b :: rest) (hW : (rest.map fun v => v.category).sum ≤ 8) (hdg : decode cc pc = .ok (.invokevirtual index, 3)) (hcs : cells ≤ R.cells ∧ slots ≤ R.slots)
    (kk : ∀ (r : Int32) (u : S) (H1 : Heap) (locs1 : List Loc), post r u → va_P D vwCl (setAll wm isM (wmY' u)) H1 → va_D A (setAll wm isM (wmY' u)) → va_S A s.heap H1 locs1 → W p l e R s m args below meth c H1 locs1 cells slots Q (F0 m (pc + 3) ls (.int r :: rest))) :
    W p l e R s m args below meth c H locs cells slots Q (F0 m pc ls st0) := by
  have hF := va_free (wc := wmY) hD hS hA isM hisM
  obtain ⟨hp1, hp2⟩ := pre_of hK hR hP hD hS isR (wrY ++ wmY) hisR hnd (.ref b :: As)
  refine va_calli (va_runV (As := As) (rest := rest) (C := q.1) F (hM H.size) cw ⟨hp1, rcv_of hK hR hP hS q0 ci hci hq0, hp2⟩ rfl hn hl hst (by show 2 * 0 + _ ≤ 8; omega) hdg hcs) hS (fun q _ h => hF q h) hF (fun r u t H1 locs1 ht hvm hw hB hz hk hS1 => ?_)
  rw [ht] at hB
  obtain ⟨h1, h2⟩ := setAll_ok (A := A) (A' := A) hP hD isM hisM (hadr u) hk hB
  exact kk r u H1 locs1 hw h1 h2 hS1
/-- a call of a method of an object, which answers nothing -/
theorem call_v {post : S → Prop} {wmY' : S → va_W} {q : vw_C} {fs : List Value} (F : CallFix p m c cc nL s args Ts own) (hM : MV l D cA y wsY rmY (.ref b :: As) wrY wmY post wmY') {ret : Option FieldType} (cw : CallW R s args own q.1 index y bytes maxL ret wsY rmY 0 0 n)
    (hK : KK D cA s) (hR : RW D wr A s.heap) (hP : va_P D vwCl wm H) (hD : va_D A wm) (hA : ∀ q, s.heap.size ≤ q → A q) (hS : va_S A s.heap H locs) (isR isM : List Nat)
    (hisR : isR.map (fun i => (wr ++ wm)[i]?) = (wrY ++ wmY).map some) (hnd : va_nd isR = true) (hisM : isM.map (fun i => wm[i]?) = wmY.map some) (q0 ci : Nat) (hci : vwCl[ci]? = some q) (hq0 : (wr ++ wm)[q0]? = some (b, .inr (ci, fs))) (hadr : ∀ u, (wmY' u).map (·.1) = wmY.map (·.1))
    (hn : As.length = n) (hl : ls.size = nL) (hst : st0 = As.reverse ++ .ref b :: rest) (hW : (rest.map fun v => v.category).sum ≤ 8) (hdg : decode cc pc = .ok (.invokevirtual index, 3)) (hcs : cells ≤ R.cells ∧ slots ≤ R.slots)
    (kk : ∀ (u : S) (H1 : Heap) (locs1 : List Loc), post u → va_P D vwCl (setAll wm isM (wmY' u)) H1 → va_D A (setAll wm isM (wmY' u)) → va_S A s.heap H1 locs1 → W p l e R s m args below meth c H1 locs1 cells slots Q (F0 m (pc + 3) ls rest)) :
    W p l e R s m args below meth c H locs cells slots Q (F0 m pc ls st0) := by
  have hF := va_free (wc := wmY) hD hS hA isM hisM
  obtain ⟨hp1, hp2⟩ := pre_of hK hR hP hD hS isR (wrY ++ wmY) hisR hnd (.ref b :: As)
  refine va_callv (va_runV (As := As) (rest := rest) (C := q.1) F (hM H.size) cw ⟨hp1, rcv_of hK hR hP hS q0 ci hci hq0, hp2⟩ rfl hn hl hst (by show 2 * 0 + _ ≤ 8; omega) hdg hcs) hS (fun q _ h => hF q h) hF (fun u t H1 locs1 ht hvm hw hB hz hk hS1 => ?_)
  rw [ht] at hB
  obtain ⟨h1, h2⟩ := setAll_ok (A := A) (A' := A) hP hD isM hisM (hadr u) hk hB
  exact kk u H1 locs1 hw h1 h2 hS1
/-- a call that only reads -/
theorem call_r {q : vw_C} {fs : List Value} {v : Int32} (F : CallFix p m c cc nL s args Ts own) (hM : RO l D cA y wsY rmY (.ref b :: As) wrY v) {ret : Option FieldType} (cw : CallW R s args own q.1 index y bytes maxL ret wsY rmY 0 0 n)
    (hK : KK D cA s) (hR : RW D wr A s.heap) (hP : va_P D vwCl wm H) (hD : va_D A wm) (hA : ∀ q, s.heap.size ≤ q → A q) (hS : va_S A s.heap H locs) (isR : List Nat)
    (hisR : isR.map (fun i => (wr ++ wm)[i]?) = wrY.map some) (hnd : va_nd isR = true) (q0 ci : Nat) (hci : vwCl[ci]? = some q) (hq0 : (wr ++ wm)[q0]? = some (b, .inr (ci, fs)))
    (hn : As.length = n) (hl : ls.size = nL) (hst : st0 = As.reverse ++ .ref b :: rest) (hW : (rest.map fun v => v.category).sum ≤ 8) (hdg : decode cc pc = .ok (.invokevirtual index, 3)) (hcs : cells ≤ R.cells ∧ slots ≤ R.slots)
    (kk : ∀ (H1 : Heap) (locs1 : List Loc), va_P D vwCl wm H1 → va_S A s.heap H1 locs1 → W p l e R s m args below meth c H1 locs1 cells slots Q (F0 m (pc + 3) ls (.int v :: rest))) :
    W p l e R s m args below meth c H locs cells slots Q (F0 m pc ls st0) :=
  call_i (S := Unit) F hM cw hK hR hP hD hA hS isR [] (by rw [List.append_nil]; exact hisR) hnd rfl q0 ci hci hq0 (fun _ => rfl) hn hl hst hW hdg hcs (fun r u H1 locs1 hr h1 h2 h3 => by subst hr; exact kk H1 locs1 h1 h3)
/-- a static call that only reads -/
theorem call_s {v : Int32} (F : CallFix p m c cc nL s args Ts own) (hM : RO l D cA y wsY rmY As [] v) {ret : Option FieldType} (cw : CallB R s args own index y bytes maxL ret wsY rmY 0 0 n ∧ (Cond.static y).before args s = true)
    (hK : KK D cA s) (hR : RW D wr A s.heap) (hP : va_P D vwCl wm H) (hD : va_D A wm) (hA : ∀ q, s.heap.size ≤ q → A q) (hS : va_S A s.heap H locs)
    (hn : As.length = n) (hl : ls.size = nL) (hst : st0 = As.reverse ++ rest) (hW : (rest.map fun v => v.category).sum ≤ 8) (hdg : decode cc pc = .ok (.invokestatic index, 3)) (hcs : cells ≤ R.cells ∧ slots ≤ R.slots)
    (kk : ∀ (H1 : Heap) (locs1 : List Loc), va_P D vwCl wm H1 → va_S A s.heap H1 locs1 → W p l e R s m args below meth c H1 locs1 cells slots Q (F0 m (pc + 3) ls (.int v :: rest))) :
    W p l e R s m args below meth c H locs cells slots Q (F0 m pc ls st0) := by
  have hF := va_free (wc := []) hD hS hA [] rfl
  obtain ⟨hp1, hp2⟩ := pre_of hK hR hP hD hS [] [] rfl rfl As
  refine va_calli (va_runS (As := As) (rest := rest) F (hM H.size) cw ⟨hp1, hp2⟩ rfl hn hl hst (by show 2 * 0 + _ ≤ 8; omega) hdg hcs) hS (fun q _ h => hF q h) hF (fun r u t H1 locs1 ht hvm hw hB hz hk hS1 => ?_)
  obtain ⟨h1, h2⟩ := setAll_ok (A := A) (A' := A) hP hD [] rfl rfl hk vaP_nil
  subst hw
  exact kk H1 locs1 h1 hS1
/-- a static call of a nest mate's method that only reads -/
theorem call_n {v : Int32} {host : String} (F : CallFix p m c cc nL s args Ts own) (hM : RO l D cA y wsY rmY As [] v) {ret : Option FieldType} (cw : va_CN R s args own index y host bytes maxL ret wsY rmY 0 0 n ∧ (Cond.static y).before args s = true ∧ True)
    (hK : KK D cA s) (hR : RW D wr A s.heap) (hP : va_P D vwCl wm H) (hD : va_D A wm) (hA : ∀ q, s.heap.size ≤ q → A q) (hS : va_S A s.heap H locs)
    (hn : As.length = n) (hl : ls.size = nL) (hst : st0 = As.reverse ++ rest) (hW : (rest.map fun v => v.category).sum ≤ 8) (hdg : decode cc pc = .ok (.invokestatic index, 3)) (hcs : cells ≤ R.cells ∧ slots ≤ R.slots)
    (kk : ∀ (H1 : Heap) (locs1 : List Loc), va_P D vwCl wm H1 → va_S A s.heap H1 locs1 → W p l e R s m args below meth c H1 locs1 cells slots Q (F0 m (pc + 3) ls (.int v :: rest))) :
    W p l e R s m args below meth c H locs cells slots Q (F0 m pc ls st0) := by
  have hF := va_free (wc := []) hD hS hA [] rfl
  obtain ⟨hp1, hp2⟩ := pre_of hK hR hP hD hS [] [] rfl rfl As
  refine va_calli (va_runSN (As := As) (rest := rest) F (hM H.size) cw ⟨hp1, hp2⟩ rfl hn hl hst (by show 2 * 0 + _ ≤ 8; omega) hdg hcs) hS (fun q _ h => hF q h) hF (fun r u t H1 locs1 ht hvm hw hB hz hk hS1 => ?_)
  obtain ⟨h1, h2⟩ := setAll_ok (A := A) (A' := A) hP hD [] rfl rfl hk vaP_nil
  subst hw
  exact kk H1 locs1 h1 hS1
end CALLS
theorem sind {P : Nat → Prop} (h : ∀ k, (∀ j, j < k → P j) → P k) : ∀ k, P k := fun k => Nat.strongRecOn k h
