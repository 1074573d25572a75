/-! sets as bits -/
theorem bit_tb (x d : Nat) : bit x d = x.testBit d := by
  unfold bit
  rw [Nat.testBit_eq_decide_div_mod_eq]
theorem bit_or (x y d : Nat) : bit (x ||| y) d = (bit x d || bit y d) := by
  rw [bit_tb, bit_tb, bit_tb, Nat.testBit_or]
theorem bit_and (x y d : Nat) : bit (x &&& y) d = (bit x d && bit y d) := by
  rw [bit_tb, bit_tb, bit_tb, Nat.testBit_and]
theorem bit_0 (d : Nat) : bit 0 d = false := by rw [bit_tb, Nat.zero_testBit]
theorem bit_pow (i d : Nat) : bit (2 ^ i) d = decide (i = d) := by rw [bit_tb, Nat.testBit_two_pow]
theorem bit_not {y d : Nat} (hd : d < 32) : bit (y ^^^ 4294967295) d = !bit y d := by
  rw [bit_tb, bit_tb, Nat.testBit_xor, show (4294967295 : Nat) = 2 ^ 32 - 1 from rfl, Nat.testBit_two_pow_sub_one]
  simp [hd]
theorem bit_orN {P : Nat → Nat} {d : Nat} : ∀ n, bit (orN P n) d = anyB (fun j => bit (P j) d) n
  | 0 => bit_0 d
  | n + 1 => by simp only [orN, anyB]; rw [bit_or, bit_orN n]
theorem bit_or1 {c : Nat → Bool} {n d : Nat} : bit (orN (fun j => if c j then 0 else 2 ^ j) n) d = (decide (d < n) && !c d) := by
  rw [bit_orN]
  by_cases h : d < n
  · cases hc : c d with
    | true =>
      rw [decide_eq_true h]
      refine (anyB_f (fun j hj => ?_)).trans rfl
      cases hj2 : c j with
      | true => simp [bit_0]
      | false =>
        simp only [Bool.false_eq_true, if_false]
        rw [bit_pow, decide_eq_false_iff_not]
        intro e
        subst e
        rw [hc] at hj2
        exact absurd hj2.symm Bool.false_ne_true
    | false =>
      rw [decide_eq_true h]
      exact anyB_t d h (by simp [hc, bit_pow])
  · rw [decide_eq_false h]
    refine (anyB_f (fun j hj => ?_)).trans rfl
    split
    · exact bit_0 d
    · rw [bit_pow, decide_eq_false_iff_not]; omega
theorem bit_fol (a : Nat → Nat) (d j : Nat) : bit (fol a d) j = (decide (j < 2 * a 1) && !cl a d j) := bit_or1
theorem bit_led (a : Nat → Nat) (d j : Nat) : bit (led a d) j = (decide (j < 2 * a 1) && !cl a j d) := bit_or1
theorem bit_folA (a : Nat → Nat) (x j : Nat) : bit (folA a x) j = anyB (fun d => bit x d && (decide (j < 2 * a 1) && !cl a d j)) (2 * a 1) := by
  unfold folA
  rw [bit_orN]
  refine anyB_congr (fun d _ => ?_)
  cases h : bit x d with
  | true => simp [bit_fol]
  | false => simp [bit_0]
theorem bit_ne {x : Nat} (h : x ≠ 0) : ∃ d, bit x d = true := by
  obtain ⟨d, hd⟩ := Nat.exists_testBit_of_ne_zero h
  exact ⟨d, by rw [bit_tb]; exact hd⟩
theorem bit_eq0 {x : Nat} (h : ∀ d, bit x d = false) : x = 0 := by
  by_cases h0 : x = 0
  · exact h0
  · obtain ⟨d, hd⟩ := bit_ne h0
    rw [h d] at hd
    exact absurd hd Bool.false_ne_true
theorem end_step (a : Nat → Nat) (n i : Nat) (hi : i < 2 * a 1) : endN a (n + 1) i = sumN (fun q => if cl a q i then 0 else endN a n q) (2 * a 1) := by
  show sumN (fun q => if bit (fol a q) i then endN a n q else 0) (2 * a 1) = _
  refine sumN_congr (fun q _ => ?_)
  rw [bit_fol, decide_eq_true hi]
  cases cl a q i <;> simp
def cnt (y n : Nat) : Nat := sumN (fun j => b2n (bit y j)) n
theorem cnt_le (y n : Nat) : cnt y n ≤ n := by
  have := sumN_le (P := fun j => b2n (bit y j)) (n := n) (k := 1) (fun j _ => b2n_le _)
  unfold cnt
  omega
theorem cnt_mono {y z : Nat} (h : ∀ j, bit y j = true → bit z j = true) : ∀ n, cnt y n ≤ cnt z n
  | 0 => Nat.le_refl _
  | n + 1 => by
    have h1 := cnt_mono h n
    unfold cnt at h1 ⊢
    simp only [sumN]
    have : b2n (bit y n) ≤ b2n (bit z n) := by
      cases hy : bit y n with
      | false => simp [b2n]
      | true => rw [h n hy]; exact Nat.le_refl _
    omega
theorem cnt_more {y z d : Nat} (h : ∀ j, bit y j = true → bit z j = true) (hy : bit y d = false) (hz : bit z d = true) : ∀ n, d < n → cnt y n + 1 ≤ cnt z n
  | 0, hd => absurd hd (Nat.not_lt_zero d)
  | n + 1, hd => by
    by_cases e : d = n
    · subst e
      have h1 := cnt_mono h d
      unfold cnt at h1 ⊢
      simp only [sumN, hy, hz]
      have e1 : b2n false = 0 := rfl
      have e2 : b2n true = 1 := rfl
      omega
    · have h1 := cnt_more h hy hz n (by omega)
      unfold cnt at h1 ⊢
      simp only [sumN]
      have : b2n (bit y n) ≤ b2n (bit z n) := by
        cases hy2 : bit y n with
        | false => simp [b2n]
        | true => rw [h n hy2]; exact Nat.le_refl _
      omega
/-- the reference's search at its step n: x is reached just now, y is seen -/
def Bfs (a : Nat → Nat) (f : Nat → Int32) (n x y : Nat) : Prop :=
  (∀ d, bit x d = true → d < 2 * a 1 ∧ bit y d = true) ∧ (∀ d, bit y d = true → d < 2 * a 1) ∧
  (∀ d, d < 2 * a 1 → bit x d = true → f d = nI n) ∧ (∀ d, d < 2 * a 1 → bit y d = false → f d = -5) ∧ (∀ d, d < 2 * a 1 → bit y d = true → bit x d = false → ∃ m, 1 ≤ m ∧ m < n ∧ f d = nI m) ∧
  (x ≠ 0 → n ≤ cnt y (2 * a 1))
theorem Bfs.at {a : Nat → Nat} {f : Nat → Int32} {n x y : Nat} (h : Bfs a f n x y) (hn : n < 2 ^ 31) {d : Nat} (hd : d < 2 * a 1) : f d = nI n ↔ bit x d = true := by
  obtain ⟨h1, h2, h3, h4, h5, h6⟩ := h
  refine ⟨fun e => ?_, h3 d hd⟩
  cases hx : bit x d with
  | true => rfl
  | false =>
    cases hy : bit y d with
    | true =>
      obtain ⟨m, m1, m2, m3⟩ := h5 d hd hy hx
      rw [m3, nI_eq (by omega) hn] at e
      omega
    | false =>
      rw [h4 d hd hy] at e
      exact absurd e.symm (nI_m5 hn)
theorem Bfs.no {a : Nat → Nat} {f : Nat → Int32} {n x y : Nat} (h : Bfs a f n x y) (hn : n < 2 ^ 31) {d : Nat} (hd : d < 2 * a 1) : f d = -5 ↔ bit y d = false := by
  obtain ⟨h1, h2, h3, h4, h5, h6⟩ := h
  refine ⟨fun e => ?_, h4 d hd⟩
  cases hy : bit y d with
  | false => rfl
  | true =>
    cases hx : bit x d with
    | true => rw [h3 d hd hx] at e; exact absurd e (nI_m5 hn)
    | false =>
      obtain ⟨m, m1, m2, m3⟩ := h5 d hd hy hx
      rw [m3] at e
      exact absurd e (nI_m5 (by omega))
def nxt (a : Nat → Nat) (f : Nat → Int32) (n k j : Nat) : Bool := anyB (fun q => decide (q % (2 * a 1) = j) && (decide (f (q / (2 * a 1)) = nI n) && !cl a (q / (2 * a 1)) j)) k
theorem Bfs.next {a : Nat → Nat} {f g : Nat → Int32} {n x y : Nat} (h : Bfs a f n x y) (hn1 : 1 ≤ n) (hn : n < 2 ^ 30) (hN : 2 * a 1 ≤ 20) (hg : ∀ j, g j = if f j = -5 ∧ nxt a f n (2 * a 1 * (2 * a 1)) j = true then nI (n + 1) else f j) :
    Bfs a g (n + 1) (folA a x &&& (y ^^^ 4294967295)) (y ||| (folA a x &&& (y ^^^ 4294967295))) := by
  have hat := fun {d : Nat} (hd : d < 2 * a 1) => h.at (by omega) hd
  have hno := fun {d : Nat} (hd : d < 2 * a 1) => h.no (by omega) hd
  obtain ⟨h1, h2, h3, h4, h5, h6⟩ := h
  have key : ∀ j, bit (folA a x &&& (y ^^^ 4294967295)) j = true ↔ j < 2 * a 1 ∧ bit y j = false ∧ nxt a f n (2 * a 1 * (2 * a 1)) j = true := by
    intro j
    rw [bit_and, bit_folA, Bool.and_eq_true]
    refine ⟨fun ⟨q1, q2⟩ => ?_, fun ⟨q1, q2, q3⟩ => ?_⟩
    · have hj : j < 2 * a 1 := by
        by_cases hj : j < 2 * a 1
        · exact hj
        · rw [anyB_f (fun d _ => by simp [hj])] at q1
          exact absurd q1 Bool.false_ne_true
      rw [bit_not (by omega)] at q2
      refine ⟨hj, by simpa using q2, ?_⟩
      cases hx : nxt a f n (2 * a 1 * (2 * a 1)) j with
      | true => rfl
      | false =>
        have hall := anyB_of hx
        rw [anyB_f (fun d hd => ?_)] at q1
        · exact absurd q1 Bool.false_ne_true
        · have hlt : d * (2 * a 1) + j < 2 * a 1 * (2 * a 1) := by
            have : (d + 1) * (2 * a 1) ≤ 2 * a 1 * (2 * a 1) := Nat.mul_le_mul_right _ (by omega)
            rw [Nat.succ_mul] at this
            omega
          have hq := hall _ hlt
          have e1 : (d * (2 * a 1) + j) % (2 * a 1) = j := by rw [Nat.mul_comm, Nat.mul_add_mod]; exact Nat.mod_eq_of_lt hj
          have e2 : (d * (2 * a 1) + j) / (2 * a 1) = d := by rw [Nat.mul_comm, Nat.mul_add_div (by omega), Nat.div_eq_of_lt hj, Nat.add_zero]
          rw [e1, e2, decide_eq_true rfl, Bool.true_and] at hq
          rw [decide_eq_true hj, Bool.true_and]
          cases hxd : bit x d with
          | false => rfl
          | true =>
            rw [decide_eq_true ((hat hd).mpr hxd)] at hq
            exact hq
    · refine ⟨?_, by rw [bit_not (by omega), q2]; rfl⟩
      cases hx : anyB (fun d => bit x d && (decide (j < 2 * a 1) && !cl a d j)) (2 * a 1) with
      | true => rfl
      | false =>
        have hall := anyB_of hx
        unfold nxt at q3
        rw [anyB_f (fun q hq => ?_)] at q3
        · exact absurd q3 Bool.false_ne_true
        · have hqd : q / (2 * a 1) < 2 * a 1 := Nat.div_lt_of_lt_mul hq
          have h7 := hall _ hqd
          rw [decide_eq_true q1, Bool.true_and] at h7
          by_cases e : q % (2 * a 1) = j
          · rw [decide_eq_true e, Bool.true_and]
            by_cases e2 : f (q / (2 * a 1)) = nI n
            · rw [(hat hqd).mp e2] at h7
              rw [decide_eq_true e2]
              exact h7
            · rw [decide_eq_false e2]; rfl
          · rw [decide_eq_false e]; rfl
  refine ⟨fun d hd => ?_, fun d hd => ?_, fun d hd hx => ?_, fun d hd hy => ?_, fun d hd hy hx => ?_, fun hx => ?_⟩
  · exact ⟨((key d).mp hd).1, by rw [bit_or, hd, Bool.or_true]⟩
  · rw [bit_or, Bool.or_eq_true] at hd
    rcases hd with hd | hd
    · exact h2 d hd
    · exact ((key d).mp hd).1
  · have := (key d).mp hx
    rw [hg, if_pos ⟨(hno hd).mpr this.2.1, this.2.2⟩]
  · rw [bit_or, Bool.or_eq_false_iff] at hy
    rw [hg, if_neg (fun hc => ?_)]
    · exact h4 d hd hy.1
    · rw [(key d).mpr ⟨hd, hy.1, hc.2⟩] at hy
      exact absurd hy.2.symm Bool.false_ne_true
  · rw [bit_or, hx, Bool.or_false] at hy
    have hne : ¬ f d = -5 := fun e => by rw [(hno hd).mp e] at hy; exact absurd hy Bool.false_ne_true
    rw [hg, if_neg (fun hc => hne hc.1)]
    cases hxd : bit x d with
    | true => exact ⟨n, hn1, by omega, h3 d hd hxd⟩
    | false =>
      obtain ⟨m, m1, m2, m3⟩ := h5 d hd hy hxd
      exact ⟨m, m1, by omega, m3⟩
  · obtain ⟨d, hd⟩ := bit_ne hx
    have hk := (key d).mp hd
    have hx0 : x ≠ 0 := by
      intro e
      have : folA a x = 0 := bit_eq0 (fun j => by rw [bit_folA, e]; exact anyB_f (fun d _ => by rw [bit_0]; rfl))
      rw [this, Nat.zero_and] at hx
      exact hx rfl
    have h7 := h6 hx0
    have h8 := cnt_more (y := y) (z := y ||| (folA a x &&& (y ^^^ 4294967295))) (d := d) (fun j hj => by rw [bit_or, hj]; rfl) hk.2.1 (by rw [bit_or, hd, Bool.or_true]) (2 * a 1) hk.1
    omega
theorem nxt_step {a : Nat → Nat} {f : Nat → Int32} {n k j : Nat} : nxt a f n (k + 1) j = (nxt a f n k j || (decide (k % (2 * a 1) = j) && (decide (f (k / (2 * a 1)) = nI n) && !cl a (k / (2 * a 1)) j))) := rfl
theorem Bfs.init {a : Nat → Nat} {f : Nat → Int32} {d0 : Nat} (hf : ∀ d, d < 2 * a 1 → f d = if cl a d0 d = true then -5 else nI 1) : Bfs a f 1 (fol a d0) (fol a d0) := by
  have hb : ∀ d, bit (fol a d0) d = true → d < 2 * a 1 := fun d hd => by
    rw [bit_fol, Bool.and_eq_true, decide_eq_true_iff] at hd
    exact hd.1
  refine ⟨fun d hd => ⟨hb d hd, hd⟩, hb, fun d hd hx => ?_, fun d hd hx => ?_, fun d hd hy hx => ?_, fun hx => ?_⟩
  · rw [bit_fol, decide_eq_true hd, Bool.true_and] at hx
    rw [hf d hd, if_neg (by intro e; rw [e] at hx; exact absurd hx Bool.false_ne_true)]
  · rw [bit_fol, decide_eq_true hd, Bool.true_and] at hx
    rw [hf d hd, if_pos (by cases hc : cl a d0 d with | true => rfl | false => rw [hc] at hx; exact absurd hx.symm Bool.false_ne_true)]
  · rw [hx] at hy
    exact absurd hy Bool.false_ne_true
  · obtain ⟨d, hd⟩ := bit_ne hx
    have := cnt_more (y := 0) (z := fol a d0) (d := d) (fun j hj => by rw [bit_0] at hj; exact absurd hj Bool.false_ne_true) (bit_0 d) hd (2 * a 1) (hb d hd)
    omega
/-- the search's rest, and what it comes to -/
def BfsR (a : Nat → Nat) (ends n x y F0 : Nat) : Prop := (x ≠ 0 → fbL a ends (21 - n) n x y = F0) ∧ (x = 0 → F0 = 0)
theorem BfsR.next {a : Nat → Nat} {ends n x y F0 : Nat} (h : BfsR a ends n x y F0) (hn : n ≤ 20) (hx : x &&& ends = 0) : BfsR a ends (n + 1) (folA a x &&& (y ^^^ 4294967295)) (y ||| (folA a x &&& (y ^^^ 4294967295))) F0 := by
  by_cases h0 : x = 0
  · have hF := h.2 h0
    have hf : folA a x = 0 := bit_eq0 (fun j => by rw [bit_folA, h0]; exact anyB_f (fun d _ => by rw [bit_0]; rfl))
    rw [hf, Nat.zero_and]
    exact ⟨fun e => absurd rfl e, fun _ => hF⟩
  · have h1 := h.1 h0
    rw [show 21 - n = (21 - (n + 1)) + 1 by omega, fbL, if_neg h0, if_pos hx] at h1
    refine ⟨fun _ => h1, fun e => ?_⟩
    rw [e] at h1
    rw [← h1]
    cases hk : 21 - (n + 1) with
    | zero => rfl
    | succ k => rw [fbL, if_pos rfl]
theorem BfsR.found {a : Nat → Nat} {ends n x y F0 : Nat} (h : BfsR a ends n x y F0) (hn : n ≤ 20) (hx : x &&& ends ≠ 0) : F0 = n := by
  have h0 : x ≠ 0 := by intro e; rw [e, Nat.zero_and] at hx; exact hx rfl
  have h1 := h.1 h0
  rw [show 21 - n = (21 - (n + 1)) + 1 by omega, fbL, if_neg h0, if_neg hx] at h1
  exact h1.symm
theorem BfsR.end {a : Nat → Nat} {f : Nat → Int32} {ends n x y F0 : Nat} (h : BfsR a ends n x y F0) (hB : Bfs a f n x y) (hn : 2 * a 1 < n) : F0 = 0 := by
  by_cases h0 : x = 0
  · exact h.2 h0
  · have h1 := hB.2.2.2.2.2 h0
    have := cnt_le y (2 * a 1)
    omega
theorem meets {a : Nat → Nat} {x d2 : Nat} (hx : ∀ d, bit x d = true → d < 2 * a 1) : x &&& led a d2 = 0 ↔ ∀ d, d < 2 * a 1 → bit x d = true → cl a d d2 = true := by
  refine ⟨fun h d hd hb => ?_, fun h => bit_eq0 (fun d => ?_)⟩
  · have h1 : bit (x &&& led a d2) d = false := by rw [h, bit_0]
    rw [bit_and, hb, bit_led, decide_eq_true hd, Bool.true_and, Bool.true_and] at h1
    cases hc : cl a d d2 with
    | true => rfl
    | false => rw [hc] at h1; exact absurd h1.symm Bool.false_ne_true
  · rw [bit_and, bit_led]
    cases hb : bit x d with
    | false => rfl
    | true =>
      rw [decide_eq_true (hx d hb), h d (hx d hb) hb]
      rfl
section RV
variable {p : Program} {l : Launch} {e : Env} {R : Room} {s : State} {m : MethodId} {args : Array Value} {below : List Frame} {meth : Method} {c : Code} {H : Heap} {locs : List Loc} {cells slots : Nat} {Q : State → Prop}
variable {cc : ByteArray} {pc : Nat} {ls : Array Slot} {rest : List Value} {D : va_G} {cA : ClassId} {A : Nat → Prop} {q : Nat} {ws : va_W} {H0 : Heap}
theorem rv_iald (hexec : p.tables.exec = Jvm.exec) (hb : c.code = cc) (hK : KK D cA s) (hP : va_P D vwCl ws H) (q0 : Nat) {n : Nat} {f : Nat → Int32} (ha : ws[q0]? = some (q, .inl (cA, n, .inl f))) {k : Nat} (hk : k < n) (hn : n < 2 ^ 31) (hdg : decode cc pc = .ok (.iaload, 1))
    (kk : W p l e R s m args below meth c H locs cells slots Q (F0 m (pc + 1) ls (.int (f k) :: rest))) : W p l e R s m args below meth c H locs cells slots Q (F0 m pc ls (.int (nI k) :: .ref q :: rest)) := by
  refine va_iald hexec hb hK.1 hP q0 0 ha rfl (vp_in_nI hk hn) hdg ?_
  rw [nI_clamp (by omega)]
  exact kk
theorem rv_iast (hexec : p.tables.exec = Jvm.exec) (hb : c.code = cc) (hK : KK D cA s) (hP : va_P D vwCl ws H) (hD : va_D A ws) (hS : va_S A H0 H locs) (q0 : Nat) {n : Nat} {f : Nat → Int32} (ha : ws[q0]? = some (q, .inl (cA, n, .inl f))) {k : Nat} {v : Int32} (hk : k < n) (hn : n < 2 ^ 31) (hdg : decode cc pc = .ok (.iastore, 1))
    (kk : ∀ (H1 : Heap) (locs1 : List Loc), va_P D vwCl (ws.set q0 (q, .inl (cA, n, .inl (upd f k v)))) H1 → va_D A (ws.set q0 (q, .inl (cA, n, .inl (upd f k v)))) → va_S A H0 H1 locs1 → W p l e R s m args below meth c H1 locs1 cells slots Q (F0 m (pc + 1) ls rest)) : W p l e R s m args below meth c H locs cells slots Q (F0 m pc ls (.int v :: .int (nI k) :: .ref q :: rest)) := by
  refine va_iast hexec hb hK.1 hP hD hS q0 0 ha rfl (vp_in_nI hk hn) hdg (fun H1 locs1 h1 h2 h3 => ?_)
  rw [nI_clamp (by omega)] at h1 h2
  exact kk H1 locs1 h1 h2 h3
end RV
theorem far_step {a : Nat → Nat} {f g : Nat → Int32} {n k : Nat} {v : Int32} (hn : n < 2 ^ 30) (h : ∀ j, g j = if f j = -5 ∧ nxt a f n k j = true then nI (n + 1) else f j)
    (hv : v = if g (k / (2 * a 1)) = nI n ∧ g (k % (2 * a 1)) = -5 ∧ cl a (k / (2 * a 1)) (k % (2 * a 1)) = false then nI (n + 1) else g (k % (2 * a 1))) :
    ∀ j, upd g (k % (2 * a 1)) v j = if f j = -5 ∧ nxt a f n (k + 1) j = true then nI (n + 1) else f j := by
  have e1 : ∀ d, g d = nI n ↔ f d = nI n := by
    intro d
    rw [h d]
    by_cases hc : f d = -5 ∧ nxt a f n k d = true
    · rw [if_pos hc, hc.1]
      exact ⟨fun e => by rw [nI_eq (by omega) (by omega)] at e; omega, fun e => absurd e.symm (nI_m5 (by omega))⟩
    · rw [if_neg hc]
  have e2 : ∀ d, g d = -5 ↔ f d = -5 ∧ nxt a f n k d = false := by
    intro d
    rw [h d]
    by_cases hc : f d = -5 ∧ nxt a f n k d = true
    · rw [if_pos hc, hc.2]
      exact ⟨fun e => absurd e (nI_m5 (by omega)), fun e => absurd e.2 (by decide)⟩
    · rw [if_neg hc]
      refine ⟨fun e => ⟨e, ?_⟩, fun e => e.1⟩
      cases hx : nxt a f n k d with
      | false => rfl
      | true => exact absurd ⟨e, hx⟩ hc
  intro j
  rw [nxt_step]
  by_cases hj : j = k % (2 * a 1)
  · subst hj
    simp only [upd, if_true]
    rw [hv]
    simp only [decide_true, Bool.true_and]
    by_cases hd : f (k / (2 * a 1)) = nI n
    · rw [decide_eq_true hd, Bool.true_and]
      cases hc : cl a (k / (2 * a 1)) (k % (2 * a 1)) with
      | true =>
        rw [if_neg (fun q => absurd q.2.2 (by decide)), h]
        simp
      | false =>
        by_cases hm : f (k % (2 * a 1)) = -5
        · cases hx : nxt a f n k (k % (2 * a 1)) with
          | false =>
            rw [if_pos ⟨(e1 _).mpr hd, (e2 _).mpr ⟨hm, hx⟩, rfl⟩, if_pos ⟨hm, rfl⟩]
          | true =>
            rw [if_neg (fun q => by have := ((e2 _).mp q.2.1).2; rw [hx] at this; exact absurd this (by decide)), h, hx]
            simp
        · rw [if_neg (fun q => hm ((e2 _).mp q.2.1).1), h, if_neg (fun q => hm q.1), if_neg (fun q => hm q.1)]
    · rw [decide_eq_false hd, Bool.false_and, Bool.or_false, if_neg (fun q => hd ((e1 _).mp q.1)), h]
  · simp only [upd, if_neg hj]
    rw [h j, decide_eq_false (fun e => hj e.symm), Bool.false_and, Bool.or_false]
theorem nxt_0 {a : Nat → Nat} {f : Nat → Int32} {n : Nat} : ∀ j, f j = if f j = -5 ∧ nxt a f n 0 j = true then nI (n + 1) else f j := by
  intro j
  rw [if_neg (fun q => absurd q.2 (by simp [nxt, anyB]))]
theorem zI_n {n : Nat} (h : 1 ≤ n) : zI n = nI n := by rw [zI, if_neg (by omega)]
theorem swN_nI {t : Nat} (h : t < 2 ^ 31) : swN (nI t) = t := by
  unfold swN
  rw [nI_toInt h]
  simp
theorem swN_bad {w : Int32} {n : Nat} (h : isB w n = false) (hn : n < 1000) : n ≤ swN w := by
  unfold isB at h
  rw [decide_eq_false_iff_not] at h
  unfold swN
  split <;> omega
theorem own_one (a : Nat → Nat) {z : Nat} (j : Nat) (hj : j < 2 * a 1) : (if bit (fol a j) (mir j) then endN a (z / 2 - 1) j else 0) = if cl a j (mir j) then 0 else endN a (z / 2 - 1) j := by
  have : mir j < 2 * a 1 := by unfold mir; omega
  rw [bit_fol, decide_eq_true this]
  cases cl a j (mir j) <;> simp
