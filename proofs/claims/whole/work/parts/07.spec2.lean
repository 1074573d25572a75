/-! folds, searches, and what is told of garlands -/
def sumN (P : Nat → Nat) : Nat → Nat
  | 0 => 0
  | n + 1 => sumN P n + P n
def orN (P : Nat → Nat) : Nat → Nat
  | 0 => 0
  | n + 1 => orN P n ||| P n
def anyB (P : Nat → Bool) : Nat → Bool
  | 0 => false
  | n + 1 => anyB P n || P n
def allB (P : Nat → Bool) : Nat → Bool
  | 0 => true
  | n + 1 => allB P n && P n
def foldN (f : Nat → Nat → Nat) (z : Nat) : Nat → Nat
  | 0 => z
  | n + 1 => f n (foldN f z n)
def lst (P : Nat → Bool) : Nat → Nat → Nat
  | 0, i => i
  | n + 1, i => if P i then i else lst P n (i + 1)
theorem lst_eq {P : Nat → Bool} : ∀ (n i r : Nat), i ≤ r → r ≤ i + n → (∀ j, i ≤ j → j < r → P j = false) → (r < i + n → P r = true) → lst P n i = r
  | 0, i, r, h1, h2, _, _ => by simp only [lst]; omega
  | n + 1, i, r, h1, h2, h3, h4 => by
    simp only [lst]
    by_cases hi : i = r
    · subst hi
      rw [if_pos (h4 (by omega))]
    · rw [if_neg (by rw [h3 i (Nat.le_refl _) (by omega)]; exact Bool.false_ne_true)]
      exact lst_eq n (i + 1) r (by omega) (by omega) (fun j a b => h3 j (by omega) b) (fun h => h4 (by omega))
theorem lst_le {P : Nat → Bool} : ∀ (n i : Nat), i ≤ lst P n i ∧ lst P n i ≤ i + n
  | 0, i => by simp only [lst]; omega
  | n + 1, i => by
    simp only [lst]
    split
    · omega
    · have := lst_le (P := P) n (i + 1)
      omega
theorem lst_t {P : Nat → Bool} : ∀ (n i : Nat), lst P n i < i + n → P (lst P n i) = true
  | 0, i, h => by simp only [lst] at h; omega
  | n + 1, i, h => by
    simp only [lst] at h ⊢
    by_cases hP : P i = true
    · rw [if_pos hP]; exact hP
    · rw [if_neg hP] at h ⊢
      exact lst_t n (i + 1) (by omega)
theorem lst_f {P : Nat → Bool} : ∀ (n i j : Nat), i ≤ j → j < lst P n i → P j = false
  | 0, i, j, h1, h2 => by simp only [lst] at h2; omega
  | n + 1, i, j, h1, h2 => by
    simp only [lst] at h2
    by_cases hP : P i = true
    · rw [if_pos hP] at h2; omega
    · rw [if_neg hP] at h2
      by_cases hj : j = i
      · subst hj; simpa using hP
      · exact lst_f n (i + 1) j (by omega) h2
theorem anyB_f {P : Nat → Bool} {n : Nat} (h : ∀ j, j < n → P j = false) : anyB P n = false := by
  induction n with
  | zero => rfl
  | succ n ih =>
    simp only [anyB, ih (fun j hj => h j (by omega)), h n (by omega), Bool.or_self]
theorem anyB_t {P : Nat → Bool} {n : Nat} (j : Nat) (hj : j < n) (h : P j = true) : anyB P n = true := by
  induction n with
  | zero => omega
  | succ n ih =>
    simp only [anyB, Bool.or_eq_true]
    by_cases e : j = n
    · subst e; exact Or.inr h
    · exact Or.inl (ih (by omega))
theorem anyB_of {P : Nat → Bool} {n : Nat} (h : anyB P n = false) : ∀ j, j < n → P j = false := by
  intro j hj
  cases hP : P j with
  | false => rfl
  | true => rw [anyB_t j hj hP] at h; exact absurd h.symm Bool.false_ne_true
theorem allB_t {P : Nat → Bool} {n : Nat} (h : ∀ j, j < n → P j = true) : allB P n = true := by
  induction n with
  | zero => rfl
  | succ n ih =>
    simp only [allB, ih (fun j hj => h j (by omega)), h n (by omega), Bool.and_self]
theorem allB_f {P : Nat → Bool} {n : Nat} (j : Nat) (hj : j < n) (h : P j = false) : allB P n = false := by
  induction n with
  | zero => omega
  | succ n ih =>
    simp only [allB, Bool.and_eq_false_iff]
    by_cases e : j = n
    · subst e; exact Or.inr h
    · exact Or.inl (ih (by omega))
theorem allB_of {P : Nat → Bool} {n : Nat} (h : allB P n = true) : ∀ j, j < n → P j = true := by
  intro j hj
  cases hP : P j with
  | true => rfl
  | false => rw [allB_f j hj hP] at h; exact absurd h Bool.false_ne_true
theorem ext_b {P : Nat → Bool} {i : Nat} {v : Bool} (h : ∀ j, j < i → P j = v) (hi : P i = v) : ∀ j, j < i + 1 → P j = v := by
  intro j hj
  by_cases e : j = i
  · subst e; exact hi
  · exact h j (by omega)
theorem sumN_congr {P R : Nat → Nat} {n : Nat} (h : ∀ j, j < n → P j = R j) : sumN P n = sumN R n := by
  induction n with
  | zero => rfl
  | succ n ih => simp only [sumN, ih (fun j hj => h j (by omega)), h n (by omega)]
theorem orN_congr {P R : Nat → Nat} {n : Nat} (h : ∀ j, j < n → P j = R j) : orN P n = orN R n := by
  induction n with
  | zero => rfl
  | succ n ih => simp only [orN, ih (fun j hj => h j (by omega)), h n (by omega)]
theorem anyB_congr {P R : Nat → Bool} {n : Nat} (h : ∀ j, j < n → P j = R j) : anyB P n = anyB R n := by
  induction n with
  | zero => rfl
  | succ n ih => simp only [anyB, ih (fun j hj => h j (by omega)), h n (by omega)]
theorem allB_congr {P R : Nat → Bool} {n : Nat} (h : ∀ j, j < n → P j = R j) : allB P n = allB R n := by
  induction n with
  | zero => rfl
  | succ n ih => simp only [allB, ih (fun j hj => h j (by omega)), h n (by omega)]
theorem sumN_le {P : Nat → Nat} {n k : Nat} (h : ∀ j, j < n → P j ≤ k) : sumN P n ≤ n * k := by
  induction n with
  | zero => simp [sumN]
  | succ n ih =>
    have h1 := ih (fun j hj => h j (by omega))
    have h2 := h n (by omega)
    simp only [sumN, Nat.succ_mul]
    omega
theorem sumN_add (P R : Nat → Nat) (n : Nat) : sumN (fun j => P j + R j) n = sumN P n + sumN R n := by
  induction n with
  | zero => rfl
  | succ n ih => simp only [sumN, ih]; omega
theorem b2n_le (b : Bool) : b2n b ≤ 1 := by cases b <;> decide
def frI (n : Nat) : Int32 := if n = 8 then -1 else nI n
def fr (a : Nat → Nat) : Nat := lst (fun g => ln a g == 0) 8 0
theorem fr_at {a : Nat → Nat} {i : Nat} (hi : i < 8) (h : ∀ j, j < i → ln a j ≠ 0) (h0 : ln a i = 0) : fr a = i :=
  lst_eq 8 0 i (by omega) (by omega) (fun j _ hj => by simpa using h j hj) (fun _ => by simpa using h0)
theorem fr_8 {a : Nat → Nat} (h : ∀ j, j < 8 → ln a j ≠ 0) : fr a = 8 :=
  lst_eq 8 0 8 (by omega) (by omega) (fun j _ hj => by simpa using h j hj) (fun h => by omega)
theorem fr_le (a : Nat → Nat) : fr a ≤ 8 := by have := lst_le (P := fun g => ln a g == 0) 8 0; unfold fr; omega
theorem fr_ln {a : Nat → Nat} (h : fr a < 8) : ln a (fr a) = 0 := by
  have := lst_t (P := fun g => ln a g == 0) 8 0 (by unfold fr at h; omega)
  unfold fr
  simpa using this
def clIn (a b : Nat → Nat) (f z : Nat) : Bool := anyB (fun j => cl a (b (f + (j + 1) - 1)) (b (f + (j + 1)))) (z - 1)
def hasCl (a : Nat → Nat) : Bool := anyB (fun g => clIn a a (30 + g * 32 + 0) (ln a g)) 8
def hasKs (a b : Nat → Nat) (z : Nat) : Bool := allB (fun j => decide (b j / 2 < a 1)) z
def mirIn (a : Nat → Nat) (g : Nat) : Nat := sumN (fun j => b2n (mr (dl a g j))) (ln a g)
def kdsIn (a : Nat → Nat) (g : Nat) : Nat := orN (fun j => 2 ^ (dl a g j / 2)) (ln a g)
def same (a : Nat → Nat) (g o : Nat) : Bool := decide (ln a g = ln a o) && allB (fun j => decide (dl a g j = dl a o j)) (ln a g)
def mird (a : Nat → Nat) (g o : Nat) : Bool := decide (ln a g = ln a o) && allB (fun j => decide (dl a g j = mir (dl a o (ln a g - 1 - j)))) (ln a g)
def repB (a : Nat → Nat) (g st : Nat) : Bool := allB (fun j => decide (dl a g (st + j) = dl a g (st + j - st))) (ln a g - st)
def repO (a : Nat → Nat) (g : Nat) : Nat := lst (fun st => repB a g st) (ln a g - 1) 1
def lowA (a : Nat → Nat) (g : Nat) : Nat := lst (fun o => same a g o || mird a g o) g 0
def hiK (a : Nat → Nat) : Nat := foldN (fun g z => foldN (fun j y => max y (dl a g j / 2)) z (ln a g)) 0 8
def likeD (a : Nat → Nat) (d : Nat) : Nat := sumN (fun g => sumN (fun j => b2n (decide (dl a g j = d))) (ln a g)) 8
def cntG (a : Nat → Nat) : Nat := sumN (fun g => b2n (inG a (nI g))) 8
def cntD (a : Nat → Nat) : Nat := sumN (fun g => ln a g) 8
def cntM (a : Nat → Nat) : Nat := sumN (fun g => mirIn a g) 8
def cntO (a : Nat → Nat) : Nat := sumN (fun g => b2n (inG a (nI g) && mird a g g)) 8
def meet (a : Nat → Nat) (g : Nat) : Nat := sumN (fun j => b2n (!decide (hdR a (dl a g (j + 1 - 1)) = 0) && !decide (hdL a (dl a g (j + 1)) = 0))) (ln a g - 1)
def cntH (a : Nat → Nat) : Nat := sumN (fun g => meet a g) 8
def cntK (a : Nat → Nat) : Nat := sumN (fun g => b2n (inG a (nI g) && decide (lowA a g = g))) 8
def turnA (a : Nat → Nat) (g : Nat) : Nat → Nat := fun j => if 30 + g * 32 ≤ j ∧ j < 30 + g * 32 + ln a g then mir (a (30 + g * 32 + (ln a g - 1 - (j - (30 + g * 32))))) else a j
def foldA (a : Nat → Nat) (g : Nat) : Nat → Nat := fun j => if 30 + g * 32 + ln a g ≤ j ∧ j < 30 + g * 32 + ln a g + ln a g then mir (a (30 + g * 32 + (ln a g - 1 - (j - (30 + g * 32 + ln a g))))) else a j
theorem Vd.l {a : Nat → Nat} (h : Vd a) {g : Nat} (hg : g < 8) : ln a g ≤ 32 := h.1 g hg
theorem Vd.d {a : Nat → Nat} (h : Vd a) {g q : Nat} (hg : g < 8) (hq : q < 32) : dl a g q < 20 := h.2.2.2.2.2 g hg q hq
theorem Vd.r {a : Nat → Nat} (h : Vd a) : a 0 ≤ 2 := h.2.1
theorem Vd.k {a : Nat → Nat} (h : Vd a) : 1 ≤ a 1 ∧ a 1 ≤ 10 := ⟨h.2.2.1, h.2.2.2.1⟩
theorem Vd.h {a : Nat → Nat} (h : Vd a) {k : Nat} (hk : k < 20) : a (2 + k) < 6 := h.2.2.2.2.1 k hk
theorem nI_max {a b : Nat} (ha : a < 2 ^ 31) (hb : b < 2 ^ 31) : (if nI a < nI b then nI b else nI a) = nI (max a b) := by
  by_cases h : a < b
  · rw [if_pos (nI_lt h hb), Nat.max_eq_right (by omega)]
  · rw [if_neg (nI_nlt (by omega) ha), Nat.max_eq_left (by omega)]
theorem mir_lt {d : Nat} (h : d < 20) : mir d < 20 := by unfold mir; omega
theorem hdL_lt {a : Nat → Nat} (h : Vd a) {d : Nat} (hd : d < 20) : hdL a d < 6 := by
  unfold hdL
  split
  · have := h.h (k := 10 + d / 2) (by omega)
    rw [show 12 + d / 2 = 2 + (10 + d / 2) by omega]; exact this
  · exact h.h (by omega)
theorem hdR_lt {a : Nat → Nat} (h : Vd a) {d : Nat} (hd : d < 20) : hdR a d < 6 := by
  unfold hdR
  split
  · exact h.h (by omega)
  · have := h.h (k := 10 + d / 2) (by omega)
    rw [show 12 + d / 2 = 2 + (10 + d / 2) by omega]; exact this
theorem sub1 {x i : Nat} (h : i < x) : nI (x - i) + -1 = nI (x - (i + 1)) := by
  rw [show x - i = (x - (i + 1)) + 1 by omega]
  exact pk_m1 _
theorem le_m1 {i x : Nat} (hi : i < 2 ^ 30) (hx : x < 2 ^ 30) : (nI x + -1 < nI i) ↔ x ≤ i := by
  by_cases h0 : x = 0
  · subst h0
    simp only [Nat.zero_le, iff_true]
    rw [Int32.lt_iff_toInt_lt, nI_toInt (by omega)]
    have : (nI 0 + -1 : Int32).toInt = -1 := by decide
    omega
  · rw [show x = (x - 1) + 1 by omega, pk_m1, nI_ltI (by omega) (by omega)]
    omega
theorem turn_step {a b : Nat → Nat} {g i : Nat} (hi : i < ln a g - i) (hL : ln a g ≤ 32) (hb : ∀ j, b j = if (30 + g * 32 ≤ j ∧ j < 30 + g * 32 + i) ∨ (30 + g * 32 + (ln a g - i) ≤ j ∧ j < 30 + g * 32 + ln a g) then mir (a (30 + g * 32 + (ln a g - 1 - (j - (30 + g * 32))))) else a j) :
    ∀ j, updN (updN b (30 + g * 32 + i) (mir (dl b g (ln a g - (i + 1))))) (30 + g * 32 + (ln a g - (i + 1))) (mir (dl b g i)) j = if (30 + g * 32 ≤ j ∧ j < 30 + g * 32 + (i + 1)) ∨ (30 + g * 32 + (ln a g - (i + 1)) ≤ j ∧ j < 30 + g * 32 + ln a g) then mir (a (30 + g * 32 + (ln a g - 1 - (j - (30 + g * 32))))) else a j := by
  intro j
  have e1 : dl b g i = dl a g i := by unfold dl; rw [hb, if_neg (by omega)]
  have e2 : dl b g (ln a g - (i + 1)) = dl a g (ln a g - (i + 1)) := by unfold dl; rw [hb, if_neg (by omega)]
  rw [e1, e2]
  generalize hz : ln a g = z at *
  simp only [updN]
  by_cases h2 : j = 30 + g * 32 + (z - (i + 1))
  · rw [if_pos h2, if_pos (by omega)]
    unfold dl
    rw [show 30 + g * 32 + (z - 1 - (j - (30 + g * 32))) = 30 + g * 32 + i by omega]
  · rw [if_neg h2]
    by_cases h1 : j = 30 + g * 32 + i
    · rw [if_pos h1, if_pos (by omega)]
      unfold dl
      rw [show 30 + g * 32 + (z - 1 - (j - (30 + g * 32))) = 30 + g * 32 + (z - (i + 1)) by omega]
    · rw [if_neg h1, hb j]
      by_cases h3 : (30 + g * 32 ≤ j ∧ j < 30 + g * 32 + i) ∨ (30 + g * 32 + (z - i) ≤ j ∧ j < 30 + g * 32 + z)
      · rw [if_pos h3, if_pos (by omega)]
      · rw [if_neg h3, if_neg (by omega)]
theorem turn_end {a b : Nat → Nat} {g i : Nat} (h1 : ln a g - i ≤ i) (hi : i ≤ ln a g) (hb : ∀ j, b j = if (30 + g * 32 ≤ j ∧ j < 30 + g * 32 + i) ∨ (30 + g * 32 + (ln a g - i) ≤ j ∧ j < 30 + g * 32 + ln a g) then mir (a (30 + g * 32 + (ln a g - 1 - (j - (30 + g * 32))))) else a j) : b = turnA a g := by
  funext j
  rw [hb j]
  unfold turnA
  by_cases h3 : 30 + g * 32 ≤ j ∧ j < 30 + g * 32 + ln a g
  · rw [if_pos h3, if_pos (by omega)]
  · rw [if_neg h3, if_neg (by omega)]
theorem fold_step {a b : Nat → Nat} {g i : Nat} (hi : i < ln a g) (hL : ln a g + ln a g ≤ 32) (hb : ∀ j, b j = if 30 + g * 32 + ln a g ≤ j ∧ j < 30 + g * 32 + ln a g + i then mir (a (30 + g * 32 + (ln a g - 1 - (j - (30 + g * 32 + ln a g))))) else a j) :
    ∀ j, updN b (30 + g * 32 + (ln a g + i)) (mir (dl b g (ln a g - 1 - i))) j = if 30 + g * 32 + ln a g ≤ j ∧ j < 30 + g * 32 + ln a g + (i + 1) then mir (a (30 + g * 32 + (ln a g - 1 - (j - (30 + g * 32 + ln a g))))) else a j := by
  intro j
  have e1 : dl b g (ln a g - 1 - i) = dl a g (ln a g - 1 - i) := by unfold dl; rw [hb, if_neg (by omega)]
  rw [e1]
  generalize hz : ln a g = z at *
  simp only [updN]
  by_cases h1 : j = 30 + g * 32 + (z + i)
  · rw [if_pos h1, if_pos (by omega)]
    unfold dl
    rw [show 30 + g * 32 + (z - 1 - (j - (30 + g * 32 + z))) = 30 + g * 32 + (z - 1 - i) by omega]
  · rw [if_neg h1, hb j]
    by_cases h3 : 30 + g * 32 + z ≤ j ∧ j < 30 + g * 32 + z + i
    · rw [if_pos h3, if_pos (by omega)]
    · rw [if_neg h3, if_neg (by omega)]
theorem fold_end {a b : Nat → Nat} {g i : Nat} (hi : i = ln a g) (hb : ∀ j, b j = if 30 + g * 32 + ln a g ≤ j ∧ j < 30 + g * 32 + ln a g + i then mir (a (30 + g * 32 + (ln a g - 1 - (j - (30 + g * 32 + ln a g))))) else a j) : b = foldA a g := by
  funext j
  rw [hb j, hi]
  rfl
