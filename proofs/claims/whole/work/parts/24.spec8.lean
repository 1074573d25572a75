/-! the reference's reader -/
def tkO (tm : Nat → Nat) (z i x : Nat) : Bool := decide (i < z) && decide (tm i = x)
def rdO (tm : Nat → Nat) (z i : Nat) : Bool := decide (i < z) && dig (tm i)
def fltM (z x : Nat) : Int32 := if x = z + 1 then -5 else nI x
theorem fltM_y {z x : Nat} (h : x = z + 1) : fltM z x = -5 := by rw [fltM, if_pos h]
theorem fltM_n {z x : Nat} (h : x ≤ z) : fltM z x = nI x := by rw [fltM, if_neg (by omega)]
def wrI (a w : Nat → Nat) (z : Nat) : Int32 := if hasKs a w z = false then -1 else if clIn a w 0 z = true then -4 else if fr a = 8 then -3 else nI 0
theorem wrI_c (a w : Nat → Nat) (z : Nat) : (hasKs a w z = false ∧ wrI a w z = -1) ∨ (hasKs a w z = true ∧ clIn a w 0 z = true ∧ wrI a w z = -4) ∨ (hasKs a w z = true ∧ clIn a w 0 z = false ∧ fr a = 8 ∧ wrI a w z = -3) ∨ (hasKs a w z = true ∧ clIn a w 0 z = false ∧ fr a < 8 ∧ wrI a w z = nI 0) := by
  unfold wrI
  cases h1 : hasKs a w z with
  | false => exact Or.inl ⟨rfl, if_pos rfl⟩
  | true =>
    rw [if_neg (by decide)]
    cases h2 : clIn a w 0 z with
    | true => exact Or.inr (Or.inl ⟨rfl, rfl, if_pos rfl⟩)
    | false =>
      rw [if_neg (by decide)]
      rcases fr_c a with h3 | h3
      · exact Or.inr (Or.inr (Or.inl ⟨rfl, rfl, h3, if_pos h3⟩))
      · exact Or.inr (Or.inr (Or.inr ⟨rfl, rfl, h3, if_neg (by omega)⟩))
theorem flt_m {tm : Nat → Nat} {z i n : Nat} {w : Bool} (hi : i ≤ z) (h : i < z → tm i ≠ 39) : flt tm (z - i) i n w true = flt tm (z - i) i n w false := by
  by_cases e : i < z
  · rw [flt_s e, flt_s e]
    simp [h e]
  · rw [show z - i = 0 by omega]
    rfl
/-- one doll read -/
theorem pars_doll {tm : Nat → Nat} {z i n F : Nat} (h : flt tm (z - i) i n true false = F) (hr : rdO tm z i = true) : i + 1 + b2n (tkO tm z (i + 1) 39) ≤ z ∧ flt tm (z - (i + 1 + b2n (tkO tm z (i + 1) 39))) (i + 1 + b2n (tkO tm z (i + 1) 39)) (n + 1) false false = F := by
  unfold rdO at hr
  rw [Bool.and_eq_true, decide_eq_true_iff] at hr
  rw [flt_s hr.1, hr.2] at h
  simp only [Bool.and_self, if_true] at h
  cases hq : tkO tm z (i + 1) 39 with
  | true =>
    unfold tkO at hq
    rw [Bool.and_eq_true, decide_eq_true_iff, decide_eq_true_iff] at hq
    rw [flt_s hq.1, hq.2] at h
    simp only [dig_39, Bool.and_false, decide_true, Bool.and_self, Bool.false_eq_true, if_false, if_true] at h
    exact ⟨by simp only [b2n, if_true]; omega, h⟩
  | false =>
    simp only [b2n, Bool.false_eq_true, if_false, Nat.add_zero]
    rw [flt_m (by omega) (fun hi e => by unfold tkO at hq; rw [decide_eq_true hi, decide_eq_true e] at hq; exact absurd hq (by decide))] at h
    exact ⟨by omega, h⟩
theorem pars_no {tm : Nat → Nat} {z i n F : Nat} (hi : i ≤ z) (h : flt tm (z - i) i n true false = F) (hr : rdO tm z i = false) : F = i := by
  by_cases e : i < z
  · unfold rdO at hr
    rw [decide_eq_true e, Bool.true_and] at hr
    rw [flt_s e, hr] at h
    simp at h
    exact h.symm
  · rw [show z - i = 0 by omega] at h
    simp only [flt, if_true] at h
    exact h.symm
theorem pars_comma {tm : Nat → Nat} {z i n F : Nat} (h : flt tm (z - i) i n false false = F) (hn : n < 32) (hq : tkO tm z i 44 = true) : i + 1 ≤ z ∧ flt tm (z - (i + 1)) (i + 1) n true false = F := by
  unfold tkO at hq
  rw [Bool.and_eq_true, decide_eq_true_iff, decide_eq_true_iff] at hq
  rw [flt_s hq.1, hq.2] at h
  simp [hn] at h
  exact ⟨by omega, h⟩
theorem pars_end {tm : Nat → Nat} {z i n F : Nat} (hi : i ≤ z) (h : flt tm (z - i) i n false false = F) (hs : i < z → ¬ (tm i = 44 ∧ n < 32)) : (i = z → F = z + 1) ∧ (i ≠ z → F = i) := by
  refine ⟨fun e => ?_, fun e => ?_⟩
  · rw [show z - i = 0 by omega, e] at h
    simp only [flt, Bool.false_eq_true, if_false] at h
    exact h.symm
  · have hl : i < z := by omega
    have h2 := hs hl
    rw [flt_s hl] at h
    simp only [Bool.false_and, Bool.false_eq_true, if_false, Bool.not_false, Bool.true_and] at h
    rw [if_neg (by rw [Bool.and_eq_true, decide_eq_true_iff, decide_eq_true_iff]; exact h2)] at h
    exact h.symm
def SplR (tm : Nat → Nat) (z i n : Nat) (w : Nat → Nat) : Prop := ∀ b : Nat → Nat, ∃ b2 : Nat → Nat, spl tm (z - i) i n b2 = spl tm z 0 0 b ∧ ∀ j, j < n → w j = b2 j
theorem SplR.init {tm : Nat → Nat} {z : Nat} (w : Nat → Nat) : SplR tm z 0 0 w := fun b => ⟨b, rfl, fun j hj => absurd hj (Nat.not_lt_zero j)⟩
theorem SplR.doll {tm : Nat → Nat} {z i n : Nat} {w w2 : Nat → Nat} (h : SplR tm z i n w) (hr : rdO tm z i = true) (h1 : w2 n = 2 * (tm i - 48) + b2n (tkO tm z (i + 1) 39)) (h2 : ∀ j, j ≠ n → w2 j = w j) : SplR tm z (i + 1 + b2n (tkO tm z (i + 1) 39)) (n + 1) w2 := by
  intro b
  obtain ⟨b2, q1, q2⟩ := h b
  unfold rdO at hr
  rw [Bool.and_eq_true, decide_eq_true_iff] at hr
  rw [spl_s hr.1, if_pos hr.2] at q1
  cases hq : tkO tm z (i + 1) 39 with
  | true =>
    rw [hq] at h1
    unfold tkO at hq
    rw [Bool.and_eq_true, decide_eq_true_iff, decide_eq_true_iff] at hq
    rw [spl_s hq.1, if_neg (by rw [hq.2]; decide), if_pos hq.2] at q1
    refine ⟨_, q1, fun j hj => ?_⟩
    by_cases e : j = n
    · rw [e, h1, Nat.add_sub_cancel, updN_s, updN_s]
      simp only [b2n, mir, if_true, Bool.false_eq_true, if_false]
      omega
    · rw [Nat.add_sub_cancel, updN_n e, updN_n e, h2 j e]
      exact q2 j (by omega)
  | false =>
    rw [hq] at h1
    refine ⟨_, q1, fun j hj => ?_⟩
    by_cases e : j = n
    · rw [e, h1, updN_s]
    · rw [updN_n e, h2 j e]
      exact q2 j (by omega)
theorem SplR.comma {tm : Nat → Nat} {z i n : Nat} {w : Nat → Nat} (h : SplR tm z i n w) (hq : tkO tm z i 44 = true) : SplR tm z (i + 1) n w := by
  intro b
  obtain ⟨b2, q1, q2⟩ := h b
  unfold tkO at hq
  rw [Bool.and_eq_true, decide_eq_true_iff, decide_eq_true_iff] at hq
  rw [spl_s hq.1, if_neg (by rw [hq.2]; decide), if_neg (by rw [hq.2]; decide)] at q1
  exact ⟨b2, q1, q2⟩
theorem SplR.fin {tm : Nat → Nat} {z n : Nat} {w : Nat → Nat} (h : SplR tm z z n w) (b : Nat → Nat) : n = (spl tm z 0 0 b).1 ∧ ∀ j, j < n → w j = (spl tm z 0 0 b).2 j := by
  obtain ⟨b2, q1, q2⟩ := h b
  rw [Nat.sub_self] at q1
  simp only [spl] at q1
  rw [← q1]
  exact ⟨rfl, q2⟩
theorem hasKs_congr {a b w : Nat → Nat} {z : Nat} (h : ∀ j, j < z → w j = b j) : hasKs a b z = hasKs a w z := allB_congr (fun j hj => by rw [h j hj])
theorem clIn_congr {a b w : Nat → Nat} {z : Nat} (h : ∀ j, j < z → w j = b j) : clIn a b 0 z = clIn a w 0 z := anyB_congr (fun j hj => by rw [h (0 + (j + 1)) (by omega), h (0 + (j + 1) - 1) (by omega)])
theorem wr_step {a w : Nat → Nat} {i : Nat} {v u : Bool} (h : v = anyB (fun j => cl a (w (0 + (j + 1) - 1)) (w (0 + (j + 1)))) (i - 1)) (hu : u = (v || (decide (0 < i) && cl a (w (i - 1)) (w i)))) : u = anyB (fun j => cl a (w (0 + (j + 1) - 1)) (w (0 + (j + 1)))) (i + 1 - 1) := by
  rw [hu, h, Nat.add_sub_cancel]
  cases i with
  | zero => simp [anyB]
  | succ k =>
    simp only [Nat.add_sub_cancel, anyB]
    rw [decide_eq_true (Nat.succ_pos k), Bool.true_and, Nat.zero_add, Nat.add_sub_cancel]
theorem Rl_both {a b M M2 : Nat → Nat} (h : Rl a M) (hV : Vd a) (hb : ∀ j, j < 286 → b j = a j) (hm : ∀ j, j < 286 → M2 j = M j) : Rl b M2 := by
  have h1 := Rl_congr h hV.1 hm
  have e : ∀ g, g < 8 → ln b g = ln a g := fun g hg => hb _ (by omega)
  refine ⟨by rw [hb _ (by omega)]; exact h1.1, by rw [hb _ (by omega)]; exact h1.2.1, fun k hk => ?_, fun g hg => ?_, fun g hg q hq => ?_⟩
  · rw [hb _ (by omega), hb _ (by omega)]; exact h1.2.2.1 k hk
  · rw [e g hg]; exact h1.l hg
  · rw [e g hg] at hq
    have := hV.l hg
    unfold dl
    rw [hb _ (by omega)]
    exact h1.d hg hq
theorem cntG_le (a : Nat → Nat) : cntG a ≤ 8 := by
  have := sumN_le (P := fun g => b2n (inG a (nI g))) (n := 8) (k := 1) (fun j _ => b2n_le _)
  unfold cntG
  omega
theorem b2n_t {b : Bool} (h : b2n b ≠ 0) : b = true := by cases b; exact absurd rfl h; rfl
theorem b2n_f {b : Bool} (h : b2n b = 0) : b = false := by cases b; rfl; exact absurd h (by decide)
theorem tkO_no {tm : Nat → Nat} {z i x : Nat} (h : tkO tm z i x = false) (hi : i < z) : ¬ tm i = x := by
  intro e
  unfold tkO at h
  rw [decide_eq_true hi, decide_eq_true e] at h
  exact absurd h (by decide)
