/-! the reference's row over the class's table -/
theorem isB_k {x : Int32} {n : Nat} (hn : 1 ≤ n) : inR x 0 (n - 1) = isB x n := by
  unfold inR isB
  congr 1
  apply propext
  omega
def inL (v lo hi : Int64) : Bool := decide (lo ≤ v ∧ v ≤ hi)
theorem toI64 (x : Int32) : (x.toInt64).toInt = x.toInt := by simp
theorem inL_R {x : Int32} {lo hi : Nat} (hl : lo < 2 ^ 31) (hh : hi < 2 ^ 31) : inL x.toInt64 (lN lo) (lN hi) = inR x lo hi := by
  unfold inL inR
  congr 1
  apply propext
  rw [Int64.le_iff_toInt_le, Int64.le_iff_toInt_le, lN_toInt hl, lN_toInt hh, toI64]
theorem inL_B {x : Int32} {n : Nat} (hn : n < 2 ^ 30) : inL x.toInt64 (lN 0) (lN n) = isB x (n + 1) := by
  rw [inL_R (by decide) (by omega), ← isB_k (by omega)]
  rfl
theorem inL_K {x : Int32} {n : Nat} (h1 : 1 ≤ n) (hn : n < 2 ^ 30) : inL x.toInt64 (lN 0) (lN (n - 1)) = isB x n := by
  rw [inL_R (by decide) (by omega), isB_k h1]
theorem inL_D {d : Nat} (h : d < 2 ^ 31) : inL (lN d) (lN 48) (lN 57) = dig d := by
  unfold inL dig
  congr 1
  apply propext
  rw [lN_le (by decide) h, lN_le h (by decide)]
theorem lg_lt0 {x y : Int64} : lg_cmp x y < 0 ↔ ¬ y ≤ x := by
  rw [← lg_cmp_ge, Int32.lt_iff_toInt_lt, Int32.le_iff_toInt_le, z_toInt]
  omega
theorem lg_gt0 {x y : Int64} : 0 < lg_cmp x y ↔ y < x := by
  unfold lg_cmp
  by_cases h : x > y
  · rw [if_pos h]; exact ⟨fun _ => h, fun _ => by decide⟩
  · rw [if_neg h]
    by_cases e : x = y
    · rw [if_pos e]; exact ⟨fun q => absurd q (by decide), fun q => absurd q h⟩
    · rw [if_neg e]; exact ⟨fun q => absurd q (by decide), fun q => absurd q h⟩
theorem inL_1 {v lo hi : Int64} (h : lg_cmp v lo < 0) : inL v lo hi = false := by
  unfold inL
  rw [decide_eq_false_iff_not]
  exact fun hc => lg_lt0.mp h hc.1
theorem inL_2 {v lo hi : Int64} (h : 0 < lg_cmp v hi) : inL v lo hi = false := by
  unfold inL
  rw [decide_eq_false_iff_not]
  intro hc
  have h1 := Int64.lt_iff_toInt_lt.mp (lg_gt0.mp h)
  have h2 := Int64.le_iff_toInt_le.mp hc.2
  omega
theorem inL_3 {v lo hi : Int64} (h1 : ¬ lg_cmp v lo < 0) (h2 : ¬ 0 < lg_cmp v hi) : inL v lo hi = true := by
  unfold inL
  rw [decide_eq_true_iff]
  have h3 := (not_congr lg_lt0).mp h1
  have h4 := (not_congr lg_gt0).mp h2
  refine ⟨Classical.not_not.mp h3, ?_⟩
  have h5 := (not_congr Int64.lt_iff_toInt_lt).mp h4
  rw [Int64.le_iff_toInt_le]
  omega
/-- the reference's row M says what the class's table a says -/
def Rl (a M : Nat → Nat) : Prop := M 0 = a 0 ∧ M 1 = a 1 ∧ (∀ k, k < 10 → M (2 + 2 * k) = a (2 + k) ∧ M (2 + 2 * k + 1) = a (12 + k)) ∧ (∀ g, g < 8 → M (22 + g) = ln a g) ∧ ∀ g, g < 8 → ∀ q, q < ln a g → M (30 + 32 * g + q) = dl a g q
theorem Rl.l {a M : Nat → Nat} (h : Rl a M) {g : Nat} (hg : g < 8) : M (22 + g) = ln a g := h.2.2.2.1 g hg
theorem Rl.d {a M : Nat → Nat} (h : Rl a M) {g q : Nat} (hg : g < 8) (hq : q < ln a g) : M (30 + 32 * g + q) = dl a g q := h.2.2.2.2 g hg q hq
theorem Rl.a {a M : Nat → Nat} (h : Rl a M) {k : Nat} (hk : k < 10) : M (2 + 2 * k) = a (2 + k) := (h.2.2.1 k hk).1
theorem Rl.b {a M : Nat → Nat} (h : Rl a M) {k : Nat} (hk : k < 10) : M (2 + 2 * k + 1) = a (12 + k) := (h.2.2.1 k hk).2
theorem hand_L {a M : Nat → Nat} (h : Rl a M) {d : Nat} (hd : d < 20) : M (2 + d / 2 * 2 + (0 + d) % 2) = hdL a d := by
  unfold hdL mr
  by_cases e : d % 2 = 1
  · rw [show 2 + d / 2 * 2 + (0 + d) % 2 = 2 + 2 * (d / 2) + 1 by omega, h.b (by omega)]; simp [e]
  · rw [show 2 + d / 2 * 2 + (0 + d) % 2 = 2 + 2 * (d / 2) by omega, h.a (by omega)]; simp [e]
theorem hand_R {a M : Nat → Nat} (h : Rl a M) {d : Nat} (hd : d < 20) : M (2 + d / 2 * 2 + (1 + d) % 2) = hdR a d := by
  unfold hdR mr
  by_cases e : d % 2 = 1
  · rw [show 2 + d / 2 * 2 + (1 + d) % 2 = 2 + 2 * (d / 2) by omega, h.a (by omega)]; simp [e]
  · rw [show 2 + d / 2 * 2 + (1 + d) % 2 = 2 + 2 * (d / 2) + 1 by omega, h.b (by omega)]; simp [e]
theorem par_mr (d e : Nat) : (mr d != mr e) = decide ((d + e) % 2 = 1) := by
  unfold mr
  rcases Nat.mod_two_eq_zero_or_one d with h1 | h1 <;> rcases Nat.mod_two_eq_zero_or_one e with h2 | h2 <;> simp [Nat.add_mod, h1, h2]
theorem b2n_mr (d : Nat) : b2n (mr d) = d % 2 := by
  unfold mr b2n
  rcases Nat.mod_two_eq_zero_or_one d with h | h <;> simp [h]
def frM (n : Nat) : Int32 := if n = 8 then -5 else nI n
theorem frM_8 {a : Nat → Nat} (h : fr a = 8) : frM (fr a) = -5 := by rw [h]; rfl
theorem frM_n {a : Nat → Nat} (h : fr a < 8) : frM (fr a) = nI (fr a) := by rw [frM, if_neg (by omega)]
theorem nI_m5 {n : Nat} (h : n < 2 ^ 31) : ¬ nI n = -5 := by
  intro e
  have h1 := congrArg Int32.toInt e
  rw [nI_toInt h] at h1
  have : (-5 : Int32).toInt = -5 := by decide
  omega
def clG (a : Nat → Nat) (g : Nat) : Bool := anyB (fun j => cl a (dl a g (j + 1 - 1)) (dl a g (j + 1))) (ln a g - 1)
theorem clG_eq (a : Nat → Nat) (g : Nat) : clIn a a (30 + g * 32 + 0) (ln a g) = clG a g := rfl
theorem hasCl_eq (a : Nat → Nat) : hasCl a = anyB (fun g => clG a g) 8 := rfl
theorem anyB_st {P : Nat → Bool} {w v : Bool} {j : Nat} (h : v = (w || anyB P j)) {u : Bool} (hu : u = (v || P j)) : u = (w || anyB P (j + 1)) := by
  rw [hu, h]
  simp only [anyB, Bool.or_assoc]
theorem allB_mono {P : Nat → Bool} {i n : Nat} (h : i ≤ n) (hf : allB P i = false) : allB P n = false := by
  cases hn : allB P n with
  | false => rfl
  | true =>
    have := allB_t (n := i) (fun j hj => allB_of hn j (by omega))
    rw [this] at hf
    exact absurd hf.symm Bool.false_ne_true
theorem same_sym (a : Nat → Nat) (g o : Nat) : same a g o = same a o g := by
  unfold same
  by_cases h : ln a g = ln a o
  · rw [h]
    congr 1
    exact allB_congr (fun j _ => by congr 1; exact propext ⟨Eq.symm, Eq.symm⟩)
  · rw [decide_eq_false h, decide_eq_false (fun e => h e.symm)]; rfl
theorem mir_mir (d : Nat) : mir (mir d) = d := by unfold mir; omega
theorem mird_imp {a : Nat → Nat} {g o : Nat} (h : mird a g o = true) : mird a o g = true := by
  unfold mird at h ⊢
  rw [Bool.and_eq_true, decide_eq_true_eq] at h
  obtain ⟨h1, h2⟩ := h
  rw [Bool.and_eq_true, decide_eq_true_eq]
  refine ⟨h1.symm, allB_t (fun j hj => ?_)⟩
  have h3 := allB_of h2 (ln a g - 1 - j) (by omega)
  rw [decide_eq_true_eq] at h3 ⊢
  rw [← h1, h3, mir_mir]
  congr 1
  omega
theorem mird_sym (a : Nat → Nat) (g o : Nat) : mird a g o = mird a o g := by
  cases h : mird a g o with
  | true => rw [mird_imp h]
  | false =>
    cases h2 : mird a o g with
    | true => rw [mird_imp h2] at h; exact absurd h.symm Bool.false_ne_true
    | false => rfl
theorem same_self (a : Nat → Nat) (g : Nat) : same a g g = true := by
  unfold same
  rw [Bool.and_eq_true]
  exact ⟨decide_eq_true rfl, allB_t (fun j _ => decide_eq_true rfl)⟩
theorem likeD_two (a : Nat → Nat) (k : Nat) : likeD a (2 * k + b2n false) + likeD a (2 * k + b2n true) = sumN (fun g => sumN (fun j => b2n (decide (dl a g j / 2 = k))) (ln a g)) 8 := by
  unfold likeD
  rw [← sumN_add]
  refine sumN_congr (fun g _ => ?_)
  rw [← sumN_add]
  refine sumN_congr (fun j _ => ?_)
  by_cases h : dl a g j / 2 = k
  · by_cases h2 : dl a g j = 2 * k
    · have h3 : ¬ dl a g j = 2 * k + 1 := by omega
      simp [b2n, h, h2] <;> omega
    · have h3 : dl a g j = 2 * k + 1 := by omega
      simp [b2n, h3] <;> omega
  · have h2 : ¬ dl a g j = 2 * k := by omega
    have h3 : ¬ dl a g j = 2 * k + 1 := by omega
    simp [b2n, h, h2, h3]
theorem likeD_one (a : Nat → Nat) (k : Nat) : likeD a (2 * k + b2n true) = sumN (fun g => sumN (fun j => b2n (decide (dl a g j / 2 = k) && decide (dl a g j % 2 = 1))) (ln a g)) 8 := by
  unfold likeD
  refine sumN_congr (fun g _ => sumN_congr (fun j _ => ?_))
  congr 1
  rw [← Bool.decide_and]
  congr 1
  apply propext
  simp only [b2n, if_true]
  omega
theorem add_lt31 {x y : Nat} (hx : x < 2 ^ 30) (hy : y < 2 ^ 30) : x + y < 2 ^ 31 := by omega
