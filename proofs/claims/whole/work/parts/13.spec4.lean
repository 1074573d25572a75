/-! what each call answers, and the table behind it -/
def cN (x : Int32) : Nat := x.toNatClampNeg
theorem cN_nI {n : Nat} (h : n < 2 ^ 31) : cN (nI n) = n := nI_clamp h
def swN (w : Int32) : Nat := if 0 ≤ w.toInt then w.toInt.toNat else 1000
theorem swN_ge {w : Int32} {n : Nat} (hn : n < 1000) (h : w.toInt < 0 ∨ (n : Int) < w.toInt) : n < swN w := by
  unfold swN
  split <;> omega
theorem swN_0 : swN (nI 0) = 0 := rfl
theorem swN_1 : swN (nI 1) = 1 := rfl
theorem swN_2 : swN (nI 2) = 2 := rfl
theorem swN_3 : swN (nI 3) = 3 := rfl
theorem swN_4 : swN (nI 4) = 4 := rfl
theorem swN_5 : swN (nI 5) = 5 := rfl
theorem swN_6 : swN (nI 6) = 6 := rfl
theorem swN_7 : swN (nI 7) = 7 := rfl
theorem swN_8 : swN (nI 8) = 8 := rfl
theorem swN_9 : swN (nI 9) = 9 := rfl
theorem sw_k (n : Nat) (hn : n < 2 ^ 31) (w : Int32) : (∃ k, k < n ∧ w = nI k) ∨ (w.toInt < 0 ∨ (n : Int) ≤ w.toInt) := by
  by_cases h : w.toInt < 0 ∨ (n : Int) ≤ w.toInt
  · exact Or.inr h
  · refine Or.inl ⟨w.toInt.toNat, by omega, Int32.toInt_inj.mp ?_⟩
    rw [nI_toInt (by omega)]
    omega
theorem sw_3 (w : Int32) : w = nI 0 ∨ w = nI 1 ∨ w = nI 2 ∨ (w.toInt < 0 ∨ 2 < w.toInt) := by
  rcases sw_k 3 (by decide) w with ⟨k, hk, rfl⟩ | h
  · match k, hk with
    | 0, _ => simp
    | 1, _ => simp
    | 2, _ => simp
  · right; right; right; omega
theorem sw_4 (w : Int32) : w = nI 0 ∨ w = nI 1 ∨ w = nI 2 ∨ w = nI 3 ∨ (w.toInt < 0 ∨ 3 < w.toInt) := by
  rcases sw_3 w with h | h | h | h
  · simp [h]
  · simp [h]
  · simp [h]
  · by_cases e : w = nI 3
    · simp [e]
    · right; right; right; right
      have : w.toInt ≠ 3 := fun q => e (Int32.toInt_inj.mp q)
      omega
theorem sw_5 (w : Int32) : w = nI 0 ∨ w = nI 1 ∨ w = nI 2 ∨ w = nI 3 ∨ w = nI 4 ∨ (w.toInt < 0 ∨ 4 < w.toInt) := by
  rcases sw_4 w with h | h | h | h | h
  · simp [h]
  · simp [h]
  · simp [h]
  · simp [h]
  · by_cases e : w = nI 4
    · simp [e]
    · right; right; right; right; right
      have : w.toInt ≠ 4 := fun q => e (Int32.toInt_inj.mp q)
      omega
theorem sw_8 (w : Int32) : w = nI 0 ∨ w = nI 1 ∨ w = nI 2 ∨ w = nI 3 ∨ w = nI 4 ∨ w = nI 5 ∨ w = nI 6 ∨ w = nI 7 ∨ (w.toInt < 0 ∨ 7 < w.toInt) := by
  rcases sw_k 8 (by decide) w with ⟨k, hk, rfl⟩ | h
  · match k, hk with
    | 0, _ => simp
    | 1, _ => simp
    | 2, _ => simp
    | 3, _ => simp
    | 4, _ => simp
    | 5, _ => simp
    | 6, _ => simp
    | 7, _ => simp
  · have : w.toInt < 0 ∨ 7 < w.toInt := by omega
    simp [this]
theorem sw_10 (w : Int32) : w = nI 0 ∨ w = nI 1 ∨ w = nI 2 ∨ w = nI 3 ∨ w = nI 4 ∨ w = nI 5 ∨ w = nI 6 ∨ w = nI 7 ∨ w = nI 8 ∨ w = nI 9 ∨ (w.toInt < 0 ∨ 9 < w.toInt) := by
  rcases sw_k 10 (by decide) w with ⟨k, hk, rfl⟩ | h
  · match k, hk with
    | 0, _ => simp
    | 1, _ => simp
    | 2, _ => simp
    | 3, _ => simp
    | 4, _ => simp
    | 5, _ => simp
    | 6, _ => simp
    | 7, _ => simp
    | 8, _ => simp
    | 9, _ => simp
  · have : w.toInt < 0 ∨ 9 < w.toInt := by omega
    simp [this]
def inR (x : Int32) (lo hi : Nat) : Bool := decide ((lo : Int) ≤ x.toInt ∧ x.toInt ≤ (hi : Int))
theorem inR_t {x : Int32} {lo hi : Nat} (hh : hi < 2 ^ 31) (h : inR x lo hi = true) : ∃ j, lo ≤ j ∧ j ≤ hi ∧ x = nI j := by
  simp only [inR, decide_eq_true_eq] at h
  refine ⟨x.toInt.toNat, by omega, by omega, ?_⟩
  apply Int32.toInt_inj.mp
  rw [nI_toInt (by omega)]
  omega
theorem inR_lo {x : Int32} {lo hi : Nat} (hl : lo < 2 ^ 31) (h : x < nI lo) : inR x lo hi = false := by
  have h1 := Int32.lt_iff_toInt_lt.mp h
  rw [nI_toInt hl] at h1
  simp only [inR, decide_eq_false_iff_not]
  omega
theorem inR_hi {x : Int32} {lo hi : Nat} (hh : hi < 2 ^ 31) (h : ¬ x ≤ nI hi) : inR x lo hi = false := by
  have h1 := (not_congr Int32.le_iff_toInt_le).mp h
  rw [nI_toInt hh] at h1
  simp only [inR, decide_eq_false_iff_not]
  omega
theorem inR_hi2 {x : Int32} {lo hi n : Nat} (hn : n = hi + 1) (hh : n < 2 ^ 31) (h : ¬ x < nI n) : inR x lo hi = false := by
  have h1 := (not_congr Int32.lt_iff_toInt_lt).mp h
  rw [nI_toInt hh] at h1
  simp only [inR, decide_eq_false_iff_not]
  omega
theorem inR_in {x : Int32} {lo hi : Nat} (hl : lo < 2 ^ 31) (hh : hi < 2 ^ 31) (h1 : ¬ x < nI lo) (h2 : x ≤ nI hi) : inR x lo hi = true := by
  have h3 := (not_congr Int32.lt_iff_toInt_lt).mp h1
  have h4 := Int32.le_iff_toInt_le.mp h2
  rw [nI_toInt hl] at h3
  rw [nI_toInt hh] at h4
  simp only [inR, decide_eq_true_eq]
  omega
theorem inR_in2 {x : Int32} {lo hi n : Nat} (hn : n = hi + 1) (hl : lo < 2 ^ 31) (hh : n < 2 ^ 31) (h1 : ¬ x < nI lo) (h2 : x < nI n) : inR x lo hi = true := by
  have h3 := (not_congr Int32.lt_iff_toInt_lt).mp h1
  have h4 := Int32.lt_iff_toInt_lt.mp h2
  rw [nI_toInt hl] at h3
  rw [nI_toInt hh] at h4
  simp only [inR, decide_eq_true_eq]
  omega
abbrev Act : Type := Int32 × Option (Nat → Nat)
def aHands (a : Nat → Nat) (x u v : Int32) : Act :=
  if isB x (a 1) = false then (-1, none) else if isB u 6 = false then (-2, none) else if isB v 6 = false then (-2, none) else
  if hasCl (updN (updN a (2 + cN x) (cN u)) (12 + cN x) (cN v)) = true then (-4, none) else
  if cN u = a (2 + cN x) ∧ cN v = a (12 + cN x) then (-5, none) else (nI (10 * a (2 + cN x) + a (12 + cN x)), some (updN (updN a (2 + cN x) (cN u)) (12 + cN x) (cN v)))
def aRule (a : Nat → Nat) (x : Int32) : Act :=
  if isB x 3 = false then (-2, none) else if hasCl (updN a 0 (cN x)) = true then (-4, none) else if cN x = a 0 then (-5, none) else (nI (a 0), some (updN a 0 (cN x)))
def aKinds (a : Nat → Nat) (x : Int32) : Act :=
  if inR x 1 10 = false then (-2, none) else if cN x ≤ hiK a then (-4, none) else if cN x = a 1 then (-5, none) else (nI (a 1), some (updN a 1 (cN x)))
def aCut (a : Nat → Nat) (x : Int32) (b : Bool) : Act :=
  if isB x (a 1) = false then (-1, none) else if fr a = 8 then (-3, none) else (nI (fr a), some (updN (updN a (30 + fr a * 32 + 0) (2 * cN x + b2n b)) (22 + fr a) 1))
def aJoin (a : Nat → Nat) (x y : Int32) : Act :=
  if inG a x = false then (-1, none) else if inG a y = false then (-1, none) else if cN x = cN y then (-2, none) else
  if cl a (dl a (cN x) (ln a (cN x) - 1)) (dl a (cN y) 0) = true then (-4, none) else if 32 < ln a (cN x) + ln a (cN y) then (-3, none) else
  (nI (ln a (cN x) + ln a (cN y)), some (updN (updN (cpyN a a (30 + cN y * 32 + 0) (30 + cN x * 32 + ln a (cN x)) (ln a (cN x) + ln a (cN y) - ln a (cN x))) (22 + cN x) (ln a (cN x) + ln a (cN y))) (22 + cN y) 0))
def aApart (a : Nat → Nat) (x y : Int32) : Act :=
  if inG a x = false then (-1, none) else if inR y 1 (ln a (cN x) - 1) = false then (-2, none) else if fr a = 8 then (-3, none) else
  (nI (fr a), some (updN (updN (cpyN a a (30 + cN x * 32 + cN y) (30 + fr a * 32 + 0) (ln a (cN x) - cN y)) (22 + fr a) (ln a (cN x) - cN y)) (22 + cN x) (cN y)))
def aTurn (a : Nat → Nat) (x : Int32) : Act :=
  if inG a x = false then (-1, none) else if mird a (cN x) (cN x) = true then (-5, none) else (nI (mirIn (turnA a (cN x)) (cN x)), some (turnA a (cN x)))
def aFold (a : Nat → Nat) (x : Int32) : Act :=
  if inG a x = false then (-1, none) else if cl a (dl a (cN x) (ln a (cN x) - 1)) (mir (dl a (cN x) (ln a (cN x) - 1))) = true then (-4, none) else
  if 32 < 2 * ln a (cN x) then (-3, none) else (nI (2 * ln a (cN x)), some (updN (foldA a (cN x)) (22 + cN x) (2 * ln a (cN x))))
def aTake (a : Nat → Nat) (x : Int32) : Act :=
  if inG a x = false then (-1, none) else (nI (ln a (cN x)), some (updN a (22 + cN x) 0))
def aRead (a tc : Nat → Nat) (z : Nat) (b : Nat → Nat) : Act :=
  if flt tc z 0 0 true false ≠ z + 1 then (-100 - nI (flt tc z 0 0 true false), none) else
  if hasKs a (spl tc z 0 0 b).2 (spl tc z 0 0 b).1 = false then (-1, none) else
  if clIn a (spl tc z 0 0 b).2 0 (spl tc z 0 0 b).1 = true then (-4, none) else
  if fr a = 8 then (-3, none) else
  (nI (fr a), some (updN (cpyN (spl tc z 0 0 b).2 a 0 (30 + fr a * 32 + 0) (spl tc z 0 0 b).1) (22 + fr a) (spl tc z 0 0 b).1))
def aRest (a sn : Nat → Nat) (has : Bool) : Act :=
  if has = false then (-5, none) else (nI (cntG (cpyN sn a 0 0 286)), some (cpyN sn a 0 0 286))
def sKind (a : Nat → Nat) (x w : Int32) : Int32 :=
  if isB x (a 1) = false then -1 else if swN w = 0 then nI (a (2 + cN x)) else if swN w = 1 then nI (a (12 + cN x)) else
  if swN w = 2 then nI (likeD a (2 * cN x + b2n false) + likeD a (2 * cN x + b2n true)) else if swN w = 3 then nI (likeD a (2 * cN x + b2n true)) else
  if swN w = 4 then nI (b2n (decide (a (2 + cN x) = a (12 + cN x)))) else -2
def sGar (a : Nat → Nat) (x w : Int32) : Int32 :=
  if inG a x = false then -1 else if swN w = 0 then nI (ln a (cN x)) else if swN w = 1 then nI (hdL a (dl a (cN x) 0)) else if swN w = 2 then nI (hdR a (dl a (cN x) (ln a (cN x) - 1))) else
  if swN w = 3 then nI (mirIn a (cN x)) else if swN w = 4 then nI (kdsIn a (cN x)) else if swN w = 5 then nI (b2n (mird a (cN x) (cN x))) else if swN w = 6 then nI (repO a (cN x)) else
  if swN w = 7 then nI (lowA a (cN x)) else -2
def sDoll (a : Nat → Nat) (x y w : Int32) : Int32 :=
  if inG a x = false then -1 else if isB y (ln a (cN x)) = false then -1 else if swN w = 0 then nI (dl a (cN x) (cN y) / 2) else if swN w = 1 then nI (b2n (mr (dl a (cN x) (cN y)))) else
  if swN w = 2 then nI (hdL a (dl a (cN x) (cN y))) else if swN w = 3 then nI (hdR a (dl a (cN x) (cN y))) else -2
def sReas (a : Nat → Nat) (x y : Int32) : Int32 :=
  if inG a x = false then -1 else if inG a y = false then -1 else if cN x = cN y then nI 1 else
  if cl a (dl a (cN x) (ln a (cN x) - 1)) (dl a (cN y) 0) = true then nI 2 else if 32 < ln a (cN x) + ln a (cN y) then nI 3 else nI 0
def sBtw (a : Nat → Nat) (x y : Int32) : Int32 :=
  if inG a x = false then -1 else if inG a y = false then -1 else btw a (dl a (cN x) (ln a (cN x) - 1)) (dl a (cN y) 0)
def sWays (a : Nat → Nat) (x w : Int32) : Int32 :=
  if inR x 1 6 = false then -2 else if swN w = 0 then nI (allN a (cN x)) else if swN w = 1 then nI (ownN a (cN x)) else if swN w = 2 then nI (allN a (cN x) + ownN a (cN x)) / nI 2 else -2
def lonP (a : Nat → Nat) : Nat → Nat × Nat
  | 0 => (8, 0)
  | n + 1 => if (lonP a n).2 < ln a n then (n, ln a n) else lonP a n
def lonI (n : Nat) : Int32 := if n = 8 then -5 else nI n
def sLon (a : Nat → Nat) : Int32 := lonI (lonP a 8).1
def sCnt (a : Nat → Nat) (r z : Nat) (w : Int32) : Int32 :=
  if swN w = 0 then nI (cntG a) else if swN w = 1 then nI (cntD a) else if swN w = 2 then nI (cntM a) else if swN w = 3 then nI (cntO a) else if swN w = 4 then nI (a 0) else if swN w = 5 then nI (a 1) else
  if swN w = 6 then nI (cntH a) else if swN w = 7 then nI (cntK a) else if swN w = 8 then nI r else if swN w = 9 then nI z else -2
def ActC (a hs : Nat → Nat) (o r : Nat) (t : Option (Nat → Nat)) (o2 r2 : Nat) (hs2 a2 : Nat → Nat) : Prop := match t with
  | none => o2 = o ∧ r2 = r ∧ hs2 = hs ∧ a2 = a
  | some b => o2 = hisO o r ∧ r2 = hisT r + 1 ∧ hs2 = cpyN a hs 0 ((hisO o r + hisT r) % 4 * 286) 286 ∧ a2 = b
theorem Vd_congr {a b : Nat → Nat} (h : Vd a) (he : ∀ i, i < 286 → b i = a i) : Vd b := by
  obtain ⟨h1, h2, h3, h4, h5, h6⟩ := h
  refine ⟨fun g hg => ?_, ?_, ?_, ?_, fun k hk => ?_, fun g hg q hq => ?_⟩
  · unfold ln; rw [he _ (by omega)]; exact h1 g hg
  · rw [he _ (by omega)]; exact h2
  · rw [he _ (by omega)]; exact h3
  · rw [he _ (by omega)]; exact h4
  · rw [he _ (by omega)]; exact h5 k hk
  · unfold dl; rw [he _ (by omega)]; exact h6 g hg q hq
theorem Vd_hands {a : Nat → Nat} {k u v : Nat} (h : Vd a) (hk : k < 10) (hu : u < 6) (hv : v < 6) : Vd (updN (updN a (2 + k) u) (12 + k) v) := by
  obtain ⟨h1, h2, h3, h4, h5, h6⟩ := h
  refine ⟨fun g hg => ?_, ?_, ?_, ?_, fun j hj => ?_, fun g hg q hq => ?_⟩
  · simp only [ln, updN]; rw [if_neg (by omega), if_neg (by omega)]; exact h1 g hg
  · simp only [updN]; rw [if_neg (by omega), if_neg (by omega)]; exact h2
  · simp only [updN]; rw [if_neg (by omega), if_neg (by omega)]; exact h3
  · simp only [updN]; rw [if_neg (by omega), if_neg (by omega)]; exact h4
  · simp only [updN]
    split
    · exact hv
    · split
      · exact hu
      · exact h5 j hj
  · simp only [dl, updN]; rw [if_neg (by omega), if_neg (by omega)]; exact h6 g hg q hq
theorem Vd_rule {a : Nat → Nat} {u : Nat} (h : Vd a) (hu : u ≤ 2) : Vd (updN a 0 u) := by
  obtain ⟨h1, h2, h3, h4, h5, h6⟩ := h
  refine ⟨fun g hg => ?_, ?_, ?_, ?_, fun j hj => ?_, fun g hg q hq => ?_⟩
  · simp only [ln, updN]; rw [if_neg (by omega)]; exact h1 g hg
  · rw [updN_s]; exact hu
  · simp only [updN]; rw [if_neg (by omega)]; exact h3
  · simp only [updN]; rw [if_neg (by omega)]; exact h4
  · simp only [updN]; rw [if_neg (by omega)]; exact h5 j hj
  · simp only [dl, updN]; rw [if_neg (by omega)]; exact h6 g hg q hq
theorem turnA_lo {a : Nat → Nat} {g i : Nat} (hi : i < 30) : turnA a g i = a i := by
  unfold turnA
  rw [if_neg (by omega)]
theorem Vd_turn {a : Nat → Nat} {g : Nat} (h : Vd a) (hg : g < 8) : Vd (turnA a g) := by
  have hl := h.l hg
  obtain ⟨h1, h2, h3, h4, h5, h6⟩ := h
  refine ⟨fun o ho => ?_, ?_, ?_, ?_, fun j hj => ?_, fun o ho q hq => ?_⟩
  · unfold ln; rw [turnA_lo (by omega)]; exact h1 o ho
  · rw [turnA_lo (by omega)]; exact h2
  · rw [turnA_lo (by omega)]; exact h3
  · rw [turnA_lo (by omega)]; exact h4
  · rw [turnA_lo (by omega)]; exact h5 j hj
  · unfold dl turnA
    split
    · rename_i hc
      have := h6 g hg (ln a g - 1 - (30 + o * 32 + q - (30 + g * 32))) (by omega)
      exact mir_lt this
    · exact h6 o ho q hq
theorem put_back {a : Nat → Nat} {i j u v : Nat} : updN (updN (updN (updN a i u) j v) i (a i)) j (a j) = a := by
  funext k
  simp only [updN]
  by_cases h : k = j
  · rw [if_pos h, h]
  · rw [if_neg h]
    by_cases h2 : k = i
    · rw [if_pos h2, h2]
    · rw [if_neg h2, if_neg h, if_neg h2]
theorem put_back1 {a : Nat → Nat} {i u : Nat} : updN (updN a i u) i (a i) = a := by
  funext k
  simp only [updN]
  by_cases h2 : k = i
  · rw [if_pos h2, h2]
  · rw [if_neg h2, if_neg h2]
theorem nI_m1 {n : Nat} (h : n < 2 ^ 31) : ¬ nI n = -1 := by
  intro e
  have h1 := congrArg Int32.toInt e
  rw [nI_toInt h] at h1
  have : (-1 : Int32).toInt = -1 := by decide
  omega
theorem fr_c (a : Nat → Nat) : fr a = 8 ∨ fr a < 8 := by have := fr_le a; omega
theorem frI_8 {a : Nat → Nat} (h : fr a = 8) : frI (fr a) = -1 := by rw [h]; rfl
theorem frI_n {a : Nat → Nat} (h : fr a < 8) : frI (fr a) = nI (fr a) := by rw [frI, if_neg (by omega)]
theorem foldN_le {f : Nat → Nat → Nat} {z B n : Nat} (hz : z ≤ B) (h : ∀ i, i < n → ∀ y, y ≤ B → f i y ≤ B) : foldN f z n ≤ B := by
  induction n with
  | zero => exact hz
  | succ n ih => exact h n (by omega) _ (ih (fun i hi => h i (by omega)))
theorem hiK_le {a : Nat → Nat} (h : Vd a) : hiK a ≤ 10 := by
  refine foldN_le (by omega) (fun g hg y hy => foldN_le hy (fun j hj z hz => ?_))
  have h1 := h.l hg
  have := h.d (q := j) hg (by omega)
  exact Nat.max_le.mpr ⟨hz, by omega⟩
theorem flt_le {tc : Nat → Nat} : ∀ (k i n : Nat) (w m : Bool), flt tc k i n w m ≤ i + k + 1
  | 0, i, n, w, m => by simp only [flt]; split <;> omega
  | k + 1, i, n, w, m => by
    simp only [flt]
    split
    · have := flt_le (tc := tc) k (i + 1) (n + 1) false true; omega
    · split
      · have := flt_le (tc := tc) k (i + 1) n w false; omega
      · split
        · have := flt_le (tc := tc) k (i + 1) n true false; omega
        · omega
theorem flt_ge {tc : Nat → Nat} : ∀ (k i n : Nat) (w m : Bool), i ≤ flt tc k i n w m
  | 0, i, n, w, m => by simp only [flt]; split <;> omega
  | k + 1, i, n, w, m => by
    simp only [flt]
    split
    · have := flt_ge (tc := tc) k (i + 1) (n + 1) false true; omega
    · split
      · have := flt_ge (tc := tc) k (i + 1) n w false; omega
      · split
        · have := flt_ge (tc := tc) k (i + 1) n true false; omega
        · omega
theorem flt_c (tc : Nat → Nat) (z : Nat) : flt tc z 0 0 true false = z + 1 ∨ flt tc z 0 0 true false ≤ z := by have := flt_le (tc := tc) z 0 0 true false; omega
theorem flI_y {z x : Nat} (h : x = z + 1) : flI z x = -1 := by rw [flI, if_pos h]
theorem flI_n {z x : Nat} (h : x ≤ z) : flI z x = nI x := by rw [flI, if_neg (by omega)]
theorem spl_ok {tc : Nat → Nat} {z : Nat} : ∀ (k i n : Nat) (w m : Bool) (b : Nat → Nat), i + k = z → flt tc k i n w m = z + 1 → okS n w m → (∀ j, j < n → b j < 20) → 1 ≤ (spl tc k i n b).1 ∧ (spl tc k i n b).1 ≤ 32 ∧ ∀ j, j < (spl tc k i n b).1 → (spl tc k i n b).2 j < 20
  | 0, i, n, w, m, b, hz, hf, ho, hb => by
    simp only [flt] at hf
    cases w with
    | true => simp at hf; omega
    | false => exact ⟨(ho.2.2 rfl).1, (ho.2.2 rfl).2, hb⟩
  | k + 1, i, n, w, m, b, hz, hf, ho, hb => by
    have hi : i < z := by omega
    have hf' : flt tc (z - i) i n w m = z + 1 := by rw [show z - i = k + 1 by omega]; exact hf
    have hk : z - (i + 1) = k := by omega
    simp only [spl]
    by_cases hd : dig (tc i) = true
    · obtain ⟨h1, h2, h3⟩ := flt_dig hi hf' ho hd
      rw [hk] at h2
      rw [if_pos hd]
      refine spl_ok k (i + 1) (n + 1) false true _ (by omega) h2 h3 (fun j hj => ?_)
      simp only [updN]
      split
      · have := hd; simp [dig] at this; simp [b2n]; omega
      · exact hb j (by omega)
    · rw [if_neg hd]
      by_cases h39 : tc i = 39
      · obtain ⟨h1, h2, h3, h4⟩ := flt_mark hi hf' ho h39
        rw [hk] at h3
        rw [if_pos h39]
        refine spl_ok k (i + 1) n w false _ (by omega) h3 h4 (fun j hj => ?_)
        simp only [updN]
        split
        · exact mir_lt (hb _ (by omega))
        · exact hb j hj
      · obtain ⟨h1, h2⟩ := flt_comma hi hf' (by simpa using hd) h39
        rw [hk] at h1
        rw [if_neg h39]
        exact spl_ok k (i + 1) n true false _ (by omega) h1 h2 hb
theorem okS_0 : okS 0 true false := ⟨fun _ => by decide, fun e => by simp at e, fun e => by simp at e⟩
theorem spl_ok0 {tc : Nat → Nat} {z : Nat} (b : Nat → Nat) (h : flt tc z 0 0 true false = z + 1) : 1 ≤ (spl tc z 0 0 b).1 ∧ (spl tc z 0 0 b).1 ≤ 32 ∧ ∀ j, j < (spl tc z 0 0 b).1 → (spl tc z 0 0 b).2 j < 20 :=
  spl_ok z 0 0 true false b (by omega) h okS_0 (fun j hj => absurd hj (Nat.not_lt_zero j))
def txZ (z : Nat) : Nat := if z < 80 then z + 1 else z
def txC (tc : Nat → Nat) (z x : Nat) : Nat → Nat := if z < 80 then updN tc z x else tc
def txR (z : Nat) : Int32 := if z < 80 then nI (z + 1) else -3
def unA (a hs : Nat → Nat) (o r : Nat) : Nat → Nat := if r = 0 then a else cpyN hs a ((o + (r - 1)) % 4 * 286) 0 286
def unR (r : Nat) : Int32 := if r = 0 then -5 else nI (r - 1)
theorem lonP_s {a : Nat → Nat} {i x y : Nat} (h : lonP a i = (x, y)) : lonP a (i + 1) = if y < ln a i then (i, ln a i) else (x, y) := by
  rw [lonP, h]
theorem lonI_n {n : Nat} (h : n < 8) : lonI n = nI n := by rw [lonI, if_neg (by omega)]
theorem lonP_le (a : Nat → Nat) : ∀ n, n ≤ 8 → ((lonP a n).1 = 8 ∨ (lonP a n).1 < n)
  | 0, _ => Or.inl rfl
  | n + 1, h => by
    rw [lonP]
    split
    · exact Or.inr (Nat.lt_succ_self n)
    · have := lonP_le a n (by omega)
      omega
