/-! history, texts, chains: what is told, in naturals -/
section NV2
variable {p : Program} {l : Launch} {e : Env} {R : Room} {s : State} {m : MethodId} {args : Array Value} {below : List Frame} {meth : Method} {c : Code} {H : Heap} {locs : List Loc} {cells slots : Nat} {Q : State → Prop}
variable {cc : ByteArray} {pc : Nat} {ls : Array Slot} {rest : List Value}
theorem nv_ixor (hexec : p.tables.exec = Jvm.exec) (hb : c.code = cc) {a b : Nat} (hdg : decode cc pc = .ok (.ixor, 1)) (k : W p l e R s m args below meth c H locs cells slots Q (F0 m (pc + 1) ls (.int (nI (a ^^^ b)) :: rest))) : W p l e R s m args below meth c H locs cells slots Q (F0 m pc ls (.int (nI b) :: .int (nI a) :: rest)) := lv_ixor hexec hb hdg (by rw [nI_xor]; exact k)
end NV2
def hisO (o r : Nat) : Nat := if r = 4 then (o + 1) % 4 else o
def hisT (r : Nat) : Nat := if r = 4 then 3 else r
def dig (x : Nat) : Bool := decide (48 ≤ x ∧ x ≤ 57)
def flt (tc : Nat → Nat) : Nat → Nat → Nat → Bool → Bool → Nat
  | 0, i, _, w, _ => if w then i else i + 1
  | k + 1, i, n, w, m =>
    if w && dig (tc i) then flt tc k (i + 1) (n + 1) false true
    else if m && decide (tc i = 39) then flt tc k (i + 1) n w false
    else if !w && (decide (tc i = 44) && decide (n < 32)) then flt tc k (i + 1) n true false
    else i
def flI (z x : Nat) : Int32 := if x = z + 1 then -1 else nI x
def spl (tc : Nat → Nat) : Nat → Nat → Nat → (Nat → Nat) → Nat × (Nat → Nat)
  | 0, _, n, b => (n, b)
  | k + 1, i, n, b =>
    if dig (tc i) then spl tc k (i + 1) (n + 1) (updN b n (2 * (tc i - 48) + b2n false))
    else if tc i = 39 then spl tc k (i + 1) n (updN b (n - 1) (mir (b (n - 1))))
    else spl tc k (i + 1) n b
def bit (x d : Nat) : Bool := decide (x / 2 ^ d % 2 = 1)
def fol (a : Nat → Nat) (d : Nat) : Nat := orN (fun j => if cl a d j then 0 else 2 ^ j) (2 * a 1)
def led (a : Nat → Nat) (d : Nat) : Nat := orN (fun j => if cl a j d then 0 else 2 ^ j) (2 * a 1)
def folA (a : Nat → Nat) (x : Nat) : Nat := orN (fun j => if bit x j then fol a j else 0) (2 * a 1)
def fbL (a : Nat → Nat) (ends : Nat) : Nat → Nat → Nat → Nat → Nat
  | 0, _, _, _ => 0
  | k + 1, n, x, y => if x = 0 then 0 else if x &&& ends = 0 then fbL a ends k (n + 1) (folA a x &&& (y ^^^ 4294967295)) (y ||| (folA a x &&& (y ^^^ 4294967295))) else n
def zI (n : Nat) : Int32 := if n = 0 then -5 else nI n
def btw (a : Nat → Nat) (d e : Nat) : Int32 := if cl a d e then zI (fbL a (led a e) 20 1 (fol a d) (fol a d)) else nI 0
def endN (a : Nat → Nat) : Nat → Nat → Nat
  | 0, _ => 1
  | n + 1, j => sumN (fun i => if bit (fol a i) j then endN a n i else 0) (2 * a 1)
def allN (a : Nat → Nat) (z : Nat) : Nat := sumN (fun j => endN a (z - 1) j) (2 * a 1)
def ownN (a : Nat → Nat) (z : Nat) : Nat := if z % 2 = 1 then 0 else sumN (fun j => if bit (fol a j) (mir j) then endN a (z / 2 - 1) j else 0) (2 * a 1)
theorem orN_lt {P : Nat → Nat} {n k : Nat} (h : ∀ j, j < n → P j < 2 ^ k) : orN P n < 2 ^ k := by
  induction n with
  | zero => exact Nat.two_pow_pos k
  | succ n ih =>
    simp only [orN]
    exact Nat.or_lt_two_pow (ih (fun j hj => h j (by omega))) (h n (by omega))
theorem fol_lt {a : Nat → Nat} (h : Vd a) (d : Nat) : fol a d < 2 ^ 20 := by
  refine orN_lt (fun j hj => ?_)
  have := h.k
  split
  · exact Nat.two_pow_pos 20
  · exact Nat.pow_lt_pow_right (by decide) (by omega)
theorem led_lt {a : Nat → Nat} (h : Vd a) (d : Nat) : led a d < 2 ^ 20 := by
  refine orN_lt (fun j hj => ?_)
  have := h.k
  split
  · exact Nat.two_pow_pos 20
  · exact Nat.pow_lt_pow_right (by decide) (by omega)
theorem folA_lt {a : Nat → Nat} (h : Vd a) (x : Nat) : folA a x < 2 ^ 20 := by
  refine orN_lt (fun j hj => ?_)
  split
  · exact fol_lt h j
  · exact Nat.two_pow_pos 20
theorem and_lt20 {x y : Nat} (h : x < 2 ^ 20) : x &&& y < 2 ^ 20 := Nat.lt_of_le_of_lt Nat.and_le_left h
theorem or_lt20 {x y : Nat} (h : x < 2 ^ 20) (h2 : y < 2 ^ 20) : x ||| y < 2 ^ 20 := Nat.or_lt_two_pow h h2
theorem flt_s {tc : Nat → Nat} {z i n : Nat} {w m : Bool} (h : i < z) : flt tc (z - i) i n w m = if w && dig (tc i) then flt tc (z - (i + 1)) (i + 1) (n + 1) false true else if m && decide (tc i = 39) then flt tc (z - (i + 1)) (i + 1) n w false else if !w && (decide (tc i = 44) && decide (n < 32)) then flt tc (z - (i + 1)) (i + 1) n true false else i := by
  rw [show z - i = (z - (i + 1)) + 1 by omega, flt]
theorem spl_s {tc : Nat → Nat} {z i n : Nat} {b : Nat → Nat} (h : i < z) : spl tc (z - i) i n b = if dig (tc i) then spl tc (z - (i + 1)) (i + 1) (n + 1) (updN b n (2 * (tc i - 48) + b2n false)) else if tc i = 39 then spl tc (z - (i + 1)) (i + 1) n (updN b (n - 1) (mir (b (n - 1)))) else spl tc (z - (i + 1)) (i + 1) n b := by
  rw [show z - i = (z - (i + 1)) + 1 by omega, spl]
/-- a reader's state: dolls read, whether a doll is wanted, whether a mark may follow -/
def okS (n : Nat) (w m : Bool) : Prop := (w = true → n < 32) ∧ (m = true → w = false) ∧ (w = false → 1 ≤ n ∧ n ≤ 32)
theorem flt_dig {tc : Nat → Nat} {z i n : Nat} {w m : Bool} (hi : i < z) (h : flt tc (z - i) i n w m = z + 1) (ho : okS n w m) (hd : dig (tc i) = true) : n < 32 ∧ flt tc (z - (i + 1)) (i + 1) (n + 1) false true = z + 1 ∧ okS (n + 1) false true := by
  rw [flt_s hi] at h
  have h39 : tc i ≠ 39 := by intro e; simp [dig, e] at hd
  have h44 : tc i ≠ 44 := by intro e; simp [dig, e] at hd
  cases w with
  | false => simp [h39, h44] at h; omega
  | true =>
    rw [hd] at h
    have hn := ho.1 rfl
    exact ⟨hn, h, fun e => by simp at e, fun _ => rfl, fun _ => ⟨by omega, by omega⟩⟩
theorem flt_mark {tc : Nat → Nat} {z i n : Nat} {w m : Bool} (hi : i < z) (h : flt tc (z - i) i n w m = z + 1) (ho : okS n w m) (hd : tc i = 39) : 1 ≤ n ∧ n ≤ 32 ∧ flt tc (z - (i + 1)) (i + 1) n w false = z + 1 ∧ okS n w false := by
  rw [flt_s hi] at h
  have h0 : dig (tc i) = false := by rw [hd]; rfl
  have h39 : decide (tc i = 39) = true := decide_eq_true hd
  have h44 : decide (tc i = 44) = false := by rw [hd]; rfl
  rw [h0, h39, h44] at h
  simp only [Bool.and_false, Bool.and_true, Bool.false_and, Bool.false_eq_true, if_false] at h
  cases m with
  | false => simp at h; omega
  | true =>
    simp at h
    have hw := ho.2.1 rfl
    have hn := ho.2.2 hw
    exact ⟨hn.1, hn.2, h, ho.1, fun e => by simp at e, ho.2.2⟩
theorem flt_comma {tc : Nat → Nat} {z i n : Nat} {w m : Bool} (hi : i < z) (h : flt tc (z - i) i n w m = z + 1) (h0 : dig (tc i) = false) (hd : tc i ≠ 39) : flt tc (z - (i + 1)) (i + 1) n true false = z + 1 ∧ okS n true false := by
  rw [flt_s hi] at h
  simp only [h0, decide_eq_false hd, Bool.and_false, Bool.false_eq_true, if_false] at h
  split at h
  · rename_i hc
    simp at hc
    exact ⟨h, fun _ => hc.2.2, fun e => by simp at e, fun e => by simp at e⟩
  · omega
theorem dig_44 : dig 44 = false := rfl
theorem dig_39 : dig 39 = false := rfl
