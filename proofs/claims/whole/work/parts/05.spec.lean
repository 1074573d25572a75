/-! what the answers are, over the cells a of the class's table -/
def cpyN (b a : Nat → Nat) (f t z : Nat) : Nat → Nat := fun j => if t ≤ j ∧ j < t + z then b (f + (j - t)) else a j
theorem cpy_nF (b a : Nat → Nat) (f t z : Nat) : va_cpy (nF b) (nF a) f t z = nF (cpyN b a f t z) := by
  funext j
  simp only [va_cpy, cpyN, nF]
  split <;> rfl
section NC
variable {p : Program} {l : Launch} {e : Env} {R : Room} {s : State} {m : MethodId} {args : Array Value} {below : List Frame} {meth : Method} {c : Code} {H : Heap} {locs : List Loc} {cells slots : Nat} {Q : State → Prop}
variable {cc : ByteArray} {pc : Nat} {ls : Array Slot} {rest : List Value} {D : va_G} {cA : ClassId} {A : Nat → Prop} {ws : va_W} {H0 : Heap}
theorem nv_copy (hexec : p.tables.exec = Jvm.exec) (hb : c.code = cc) (hml : c.maxLocals = ls.size) {own : String} {index : Nat} (hown : s.vm.findClass own = some m.cls) (hlink : (Cond.methodLink own index arraycopyName).before args s = true) (hnat : (Cond.native arraycopyName).before args s = true) (hstat : (Cond.static arraycopyName).before args s = true) (hini : (Cond.initialized "java/lang/System").before args s = true)
    (hK : KK D cA s) (hP : va_P D vwCl ws H) (hD : va_D A ws) (hS : va_S A H0 H locs) (q0 q1 : Nat) {a0 a1 n0 n1 : Nat} {f g : Nat → Nat} (ha0 : ws[q0]? = some (a0, .inl (cA, n0, .inl (nF f)))) (ha1 : ws[q1]? = some (a1, .inl (cA, n1, .inl (nF g)))) {sp dp n : Nat} (h4 : sp + n ≤ n0) (h5 : dp + n ≤ n1) (hn0 : n0 < 2 ^ 31) (hn1 : n1 < 2 ^ 31)
    (hframes : 1 ≤ R.frames) (hlocals : (rest.map fun v => v.category).sum + (nativeFrameWords "java/lang/System" "arraycopy" 5 + 11) ≤ R.locals) (hdg : decode cc pc = .ok (.invokestatic index, 3))
    (kk : ∀ (H1 : Heap) (locs1 : List Loc), va_P D vwCl (ws.set q1 (a1, .inl (cA, n1, .inl (nF (cpyN f g sp dp n))))) H1 → va_D A (ws.set q1 (a1, .inl (cA, n1, .inl (nF (cpyN f g sp dp n))))) → va_S A H0 H1 locs1 → W p l e R s m args below meth c H1 locs1 cells slots Q (F0 m (pc + 3) ls rest)) : W p l e R s m args below meth c H locs cells slots Q (F0 m pc ls (.int (nI n) :: .int (nI dp) :: .ref a1 :: .int (nI sp) :: .ref a0 :: rest)) := by
  have e1 : (nI sp).toNatClampNeg = sp := nI_clamp (by omega)
  have e2 : (nI dp).toNatClampNeg = dp := nI_clamp (by omega)
  have e3 : (nI n).toNatClampNeg = n := nI_clamp (by omega)
  refine va_copyi hexec hb hml hown hlink hnat hstat hini hK.1 hP hD hS q0 q1 0 0 (ty := .int) ha0 ha1 rfl rfl rfl (nI_pos (by omega)) (nI_pos (by omega)) (nI_pos (by omega)) (by rw [e1, e3]; exact h4) (by rw [e2, e3]; exact h5) (fun _ _ => rfl) hframes hlocals hdg (fun H1 locs1 h1 h2 h3 => ?_)
  rw [e1, e2, e3, cpy_nF] at h1 h2
  exact kk H1 locs1 h1 h2 h3
end NC
def b2n (b : Bool) : Nat := if b then 1 else 0
def mr (d : Nat) : Bool := d % 2 == 1
def isB (x : Int32) (n : Nat) : Bool := decide (0 ≤ x.toInt ∧ x.toInt < (n : Int))
theorem z_toInt : (0 : Int32).toInt = 0 := rfl
theorem isB_1 {x : Int32} {n : Nat} (h : x < 0) : isB x n = false := by
  have h1 := Int32.lt_iff_toInt_lt.mp h
  rw [z_toInt] at h1
  simp only [isB, decide_eq_false_iff_not]
  omega
theorem isB_2 {x : Int32} {n : Nat} (hn : n < 2 ^ 31) (h : nI n ≤ x) : isB x n = false := by
  have h1 := Int32.le_iff_toInt_le.mp h
  rw [nI_toInt hn] at h1
  simp only [isB, decide_eq_false_iff_not]
  omega
theorem isB_3 {x : Int32} {n : Nat} (hn : n < 2 ^ 31) (h1 : ¬ x < 0) (h2 : ¬ nI n ≤ x) : isB x n = true := by
  have h3 := (not_congr Int32.lt_iff_toInt_lt).mp h1
  have h4 := (not_congr Int32.le_iff_toInt_le).mp h2
  rw [z_toInt] at h3
  rw [nI_toInt hn] at h4
  simp only [isB, decide_eq_true_eq]
  omega
theorem isB_t {x : Int32} {n : Nat} (hn : n < 2 ^ 31) (h : isB x n = true) : ∃ j, j < n ∧ x = nI j := by
  simp only [isB, decide_eq_true_eq] at h
  refine ⟨x.toInt.toNat, by omega, ?_⟩
  apply Int32.toInt_inj.mp
  rw [nI_toInt (by omega)]
  omega
theorem isB_nI {j n : Nat} (hj : j < 2 ^ 31) : isB (nI j) n = decide (j < n) := by
  unfold isB
  rw [nI_toInt hj]
  congr 1
  apply propext
  omega
def ln (a : Nat → Nat) (g : Nat) : Nat := a (22 + g)
def dl (a : Nat → Nat) (g p : Nat) : Nat := a (30 + g * 32 + p)
def hdL (a : Nat → Nat) (d : Nat) : Nat := if mr d then a (12 + d / 2) else a (2 + d / 2)
def hdR (a : Nat → Nat) (d : Nat) : Nat := if mr d then a (2 + d / 2) else a (12 + d / 2)
def inG (a : Nat → Nat) (x : Int32) : Bool := isB x 8 && decide (0 < ln a x.toNatClampNeg)
theorem inG_nI {a : Nat → Nat} {g : Nat} (hg : g < 8) : inG a (nI g) = decide (0 < ln a g) := by
  unfold inG
  rw [isB_nI (by omega), nI_clamp (by omega)]
  simp [hg]
theorem inG_t {a : Nat → Nat} {x : Int32} (h : inG a x = true) : ∃ g, g < 8 ∧ x = nI g ∧ 0 < ln a g := by
  unfold inG at h
  rw [Bool.and_eq_true] at h
  obtain ⟨g, hg, rfl⟩ := isB_t (by decide) h.1
  have h2 := h.2
  rw [nI_clamp (by omega)] at h2
  exact ⟨g, hg, rfl, by simpa using h2⟩
def cl (a : Nat → Nat) (d e : Nat) : Bool :=
  if hdR a d = 0 then false else if hdL a e = 0 then false else
  if a 0 = 0 then decide (hdR a d = hdL a e) && (mr d != mr e) else if a 0 = 1 then decide (hdR a d = hdL a e) else !decide (hdR a d = hdL a e)
/-- a table that is well formed -/
def Vd (a : Nat → Nat) : Prop := (∀ g, g < 8 → ln a g ≤ 32) ∧ a 0 ≤ 2 ∧ 1 ≤ a 1 ∧ a 1 ≤ 10 ∧ (∀ k, k < 20 → a (2 + k) < 6) ∧ (∀ g, g < 8 → ∀ p, p < 32 → dl a g p < 20)
