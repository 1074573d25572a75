/-! acts of the reference -/
def RecM (h K : Nat → Nat) (y : Nat) (h2 : Nat → Nat) : Prop := (∀ j, j < 286 * hisT y → h2 j = if y = 4 then h (j + 286) else h j) ∧ ∀ j, j < 286 → h2 (286 * hisT y + j) = K j
def ActM (a M h : Nat → Nat) (y : Nat) (t : Option (Nat → Nat)) (y2 : Nat) (h2 M2 : Nat → Nat) : Prop := match t with
  | none => y2 = y ∧ h2 = h ∧ Rl a M2
  | some b => Rl b M2 ∧ y2 = hisT y + 1 ∧ RecM h M y h2
theorem Rl_congr {a M M2 : Nat → Nat} (h : Rl a M) (hl : ∀ g, g < 8 → ln a g ≤ 32) (he : ∀ j, j < 286 → M2 j = M j) : Rl a M2 := by
  obtain ⟨h1, h2, h3, h4, h5⟩ := h
  refine ⟨by rw [he _ (by omega)]; exact h1, by rw [he _ (by omega)]; exact h2, fun k hk => ?_, fun g hg => ?_, fun g hg q hq => ?_⟩
  · rw [he _ (by omega), he _ (by omega)]; exact h3 k hk
  · rw [he _ (by omega)]; exact h4 g hg
  · have := hl g hg
    rw [he _ (by omega)]; exact h5 g hg q hq
theorem ends_no {a M K M2 h h2 : Nat → Nat} {y y2 : Nat} (hV : Vd a) (hM : Rl a M) (hK : ∀ j, j < 286 → K j = M j) (q : (∀ j, j < 286 → M2 j = K j) ∧ y2 = y ∧ h2 = h) : ActM a M h y none y2 h2 M2 :=
  ⟨q.2.1, q.2.2, Rl_congr hM hV.1 (fun j hj => (q.1 j hj).trans (hK j hj))⟩
theorem ends_yes {a b M K M1 M2 h h2 : Nat → Nat} {y y2 : Nat} (hR : Rl b M1) (hK : ∀ j, j < 286 → K j = M j) (q : M2 = M1 ∧ y2 = hisT y + 1 ∧ RecM h K y h2) : ActM a M h y (some b) y2 h2 M2 := by
  obtain ⟨rfl, q2, q3⟩ := q
  exact ⟨hR, q2, q3.1, fun j hj => (q3.2 j hj).trans (hK j hj)⟩
theorem Rl_hands {a M : Nat → Nat} {k u v : Nat} (h : Rl a M) (hl : ∀ g, g < 8 → ln a g ≤ 32) (hk : k < 10) : Rl (updN (updN a (2 + k) u) (12 + k) v) (updN (updN M (2 + 2 * k) u) (2 + 2 * k + 1) v) := by
  obtain ⟨h1, h2, h3, h4, h5⟩ := h
  have e : ∀ g, g < 8 → ln (updN (updN a (2 + k) u) (12 + k) v) g = ln a g := fun g hg => by unfold ln; rw [updN_n (by omega), updN_n (by omega)]
  refine ⟨?_, ?_, fun j hj => ⟨?_, ?_⟩, fun g hg => ?_, fun g hg q hq => ?_⟩
  · rw [updN_n (by omega), updN_n (by omega), updN_n (by omega), updN_n (by omega)]; exact h1
  · rw [updN_n (by omega), updN_n (by omega), updN_n (by omega), updN_n (by omega)]; exact h2
  · by_cases hjk : j = k
    · subst hjk
      rw [updN_n (by omega), updN_s, updN_n (by omega), updN_s]
    · rw [updN_n (by omega), updN_n (by omega), updN_n (by omega), updN_n (by omega)]; exact (h3 j hj).1
  · by_cases hjk : j = k
    · subst hjk
      rw [updN_s, updN_s]
    · rw [updN_n (by omega), updN_n (by omega), updN_n (by omega), updN_n (by omega)]; exact (h3 j hj).2
  · rw [e g hg, updN_n (by omega), updN_n (by omega)]; exact h4 g hg
  · rw [e g hg] at hq
    have := hl g hg
    unfold dl
    rw [updN_n (by omega), updN_n (by omega), updN_n (by omega), updN_n (by omega)]
    exact h5 g hg q hq
theorem Rl_low {a M : Nat → Nat} {i u : Nat} (h : Rl a M) (hi : i < 2) : Rl (updN a i u) (updN M i u) := by
  obtain ⟨h1, h2, h3, h4, h5⟩ := h
  have e : ∀ g, ln (updN a i u) g = ln a g := fun g => by unfold ln; rw [updN_n (by omega)]
  refine ⟨?_, ?_, fun j hj => ⟨?_, ?_⟩, fun g hg => ?_, fun g hg q hq => ?_⟩
  · by_cases hi0 : i = 0
    · subst hi0; rw [updN_s, updN_s]
    · rw [updN_n (by omega), updN_n (by omega)]; exact h1
  · by_cases hi0 : i = 1
    · subst hi0; rw [updN_s, updN_s]
    · rw [updN_n (by omega), updN_n (by omega)]; exact h2
  · rw [updN_n (by omega), updN_n (by omega)]; exact (h3 j hj).1
  · rw [updN_n (by omega), updN_n (by omega)]; exact (h3 j hj).2
  · rw [e, updN_n (by omega)]; exact h4 g hg
  · rw [e] at hq
    unfold dl
    rw [updN_n (by omega), updN_n (by omega)]
    exact h5 g hg q hq
/-- the reference's row against a table that differs from a in lengths and dolls alone -/
theorem Rl_mk {a b M M2 : Nat → Nat} (h : Rl a M) (h1 : ∀ j, j < 22 → b j = a j) (h2 : ∀ j, j < 22 → M2 j = M j) (h3 : ∀ g, g < 8 → M2 (22 + g) = ln b g) (h4 : ∀ g, g < 8 → ∀ q, q < ln b g → M2 (30 + 32 * g + q) = dl b g q) : Rl b M2 := by
  obtain ⟨q1, q2, q3, q4, q5⟩ := h
  refine ⟨?_, ?_, fun j hj => ⟨?_, ?_⟩, h3, h4⟩
  · rw [h1 _ (by omega), h2 _ (by omega)]; exact q1
  · rw [h1 _ (by omega), h2 _ (by omega)]; exact q2
  · rw [h1 _ (by omega), h2 _ (by omega)]; exact (q3 j hj).1
  · rw [h1 _ (by omega), h2 _ (by omega)]; exact (q3 j hj).2
theorem Rl_cut {a M : Nat → Nat} {f d : Nat} (h : Rl a M) (hl : ∀ g, g < 8 → ln a g ≤ 32) (hf : f < 8) : Rl (updN (updN a (30 + f * 32 + 0) d) (22 + f) 1) (updN (updN M (22 + f) 1) (30 + 32 * f + 0) d) := by
  refine Rl_mk h (fun j hj => ?_) (fun j hj => ?_) (fun g hg => ?_) (fun g hg q hq => ?_)
  · rw [updN_n (by omega), updN_n (by omega)]
  · rw [updN_n (by omega), updN_n (by omega)]
  · unfold ln
    rw [updN_n (by omega)]
    by_cases e : g = f
    · subst e; rw [updN_s, updN_s]
    · rw [updN_n (by omega), updN_n (by omega), updN_n (by omega)]; exact h.l hg
  · unfold dl
    rw [updN_n (j := 30 + g * 32 + q) (by omega)]
    by_cases e : g = f
    · subst e
      have : q = 0 := by
        unfold ln at hq
        rw [updN_s] at hq
        omega
      subst this
      rw [show 30 + 32 * g + 0 = 30 + g * 32 + 0 by omega, updN_s, updN_s]
    · have hq2 : q < ln a g := by
        unfold ln at hq ⊢
        rw [updN_n (by omega), updN_n (by omega)] at hq
        exact hq
      have := hl g hg
      rw [updN_n (by omega), updN_n (by omega), updN_n (by omega)]
      exact h.d hg hq2
theorem Rl_take {a M M2 : Nat → Nat} {t : Nat} (h : Rl a M) (hl : ∀ g, g < 8 → ln a g ≤ 32) (ht : t < 8) (hM : ∀ j, M2 j = if j = 22 + t ∨ (30 + 32 * t ≤ j ∧ j < 30 + 32 * t + 32) then 0 else M j) : Rl (updN a (22 + t) 0) M2 := by
  refine Rl_mk h (fun j hj => updN_n (by omega)) (fun j hj => by rw [hM, if_neg (by omega)]) (fun g hg => ?_) (fun g hg q hq => ?_)
  · unfold ln
    by_cases e : g = t
    · subst e; rw [updN_s, hM, if_pos (by omega)]
    · rw [updN_n (by omega), hM, if_neg (by omega)]; exact h.l hg
  · by_cases e : g = t
    · subst e
      unfold ln at hq
      rw [updN_s] at hq
      omega
    · have hq2 : q < ln a g := by
        unfold ln at hq ⊢
        rw [updN_n (by omega)] at hq
        exact hq
      have := hl g hg
      unfold dl
      rw [hM, if_neg (by omega), updN_n (by omega)]
      exact h.d hg hq2
theorem Rl_turn {a M M2 : Nat → Nat} {t : Nat} (h : Rl a M) (hl : ∀ g, g < 8 → ln a g ≤ 32) (ht : t < 8) (hM : ∀ j, M2 j = if 30 + 32 * t ≤ j ∧ j < 30 + 32 * t + ln a t then mir (dl a t (ln a t - 1 - (j - (30 + 32 * t)))) else M j) : Rl (turnA a t) M2 := by
  have e : ∀ g, g < 8 → ln (turnA a t) g = ln a g := fun g hg => by unfold ln; rw [turnA_lo (by omega)]
  have h0 := hl t ht
  refine Rl_mk h (fun j hj => turnA_lo (by omega)) (fun j hj => by rw [hM, if_neg (by omega)]) (fun g hg => ?_) (fun g hg q hq => ?_)
  · rw [e g hg, hM, if_neg (by omega)]; exact h.l hg
  · rw [e g hg] at hq
    have := hl g hg
    rw [hM]
    unfold dl turnA
    by_cases eq : g = t
    · subst eq
      rw [if_pos (by omega), if_pos (by omega), show 30 + 32 * g + q - (30 + 32 * g) = q by omega, show 30 + g * 32 + q - (30 + g * 32) = q by omega]
    · rw [if_neg (by omega), if_neg (by omega)]
      exact h.d hg hq
theorem Rl_fold {a M M2 : Nat → Nat} {t : Nat} (h : Rl a M) (hl : ∀ g, g < 8 → ln a g ≤ 32) (ht : t < 8) (h2 : ln a t + ln a t ≤ 32)
    (hM : ∀ j, M2 j = if j = 22 + t then 2 * ln a t else if 30 + 32 * t + ln a t ≤ j ∧ j < 30 + 32 * t + ln a t + ln a t then mir (dl a t (ln a t - 1 - (j - (30 + 32 * t + ln a t)))) else M j) : Rl (updN (foldA a t) (22 + t) (2 * ln a t)) M2 := by
  have e0 : ∀ i, i < 30 → foldA a t i = a i := fun i hi => by unfold foldA; rw [if_neg (by omega)]
  refine Rl_mk h (fun j hj => ?_) (fun j hj => by rw [hM, if_neg (by omega), if_neg (by omega)]) (fun g hg => ?_) (fun g hg q hq => ?_)
  · rw [updN_n (by omega)]; exact e0 j (by omega)
  · rw [hM]
    show _ = updN _ _ _ (22 + g)
    by_cases eq : g = t
    · subst eq; rw [if_pos rfl, updN_s]
    · rw [if_neg (by omega), if_neg (by omega), updN_n (by omega), e0 _ (by omega)]; exact h.l hg
  · have hq' : q < updN (foldA a t) (22 + t) (2 * ln a t) (22 + g) := hq
    rw [hM, if_neg (by have := hl g hg; omega)]
    show _ = updN _ _ _ (30 + g * 32 + q)
    rw [updN_n (by omega)]
    unfold foldA
    by_cases eq : g = t
    · subst eq
      rw [updN_s] at hq'
      by_cases hc : q < ln a g
      · rw [if_neg (by omega), if_neg (by omega)]
        exact h.d hg hc
      · rw [if_pos (by omega), if_pos (by omega)]
        unfold dl
        rw [show 30 + 32 * g + q - (30 + 32 * g + ln a g) = 30 + g * 32 + q - (30 + g * 32 + ln a g) by omega]
    · rw [updN_n (by omega), e0 _ (by omega)] at hq'
      have h3 : q < ln a g := hq'
      have := hl g hg
      rw [if_neg (by omega), if_neg (by omega)]
      exact h.d hg h3
theorem Rl_join {a M M2 : Nat → Nat} {g o : Nat} (h : Rl a M) (hl : ∀ g, g < 8 → ln a g ≤ 32) (hg : g < 8) (ho : o < 8) (hne : g ≠ o) (h2 : ln a g + ln a o ≤ 32)
    (hM : ∀ j, M2 j = if j = 22 + o ∨ (30 + 32 * o ≤ j ∧ j < 30 + 32 * o + 32) then 0 else if j = 22 + g then ln a g + ln a o else if 30 + 32 * g + ln a g ≤ j ∧ j < 30 + 32 * g + ln a g + ln a o then dl a o (j - (30 + 32 * g + ln a g)) else M j) :
    Rl (updN (updN (cpyN a a (30 + o * 32 + 0) (30 + g * 32 + ln a g) (ln a g + ln a o - ln a g)) (22 + g) (ln a g + ln a o)) (22 + o) 0) M2 := by
  have e0 : ∀ i, i < 30 → cpyN a a (30 + o * 32 + 0) (30 + g * 32 + ln a g) (ln a g + ln a o - ln a g) i = a i := fun i hi => by unfold cpyN; rw [if_neg (by omega)]
  refine Rl_mk h (fun j hj => ?_) (fun j hj => by rw [hM, if_neg (by omega), if_neg (by omega), if_neg (by omega)]) (fun k hk => ?_) (fun k hk q hq => ?_)
  · rw [updN_n (by omega), updN_n (by omega)]; exact e0 j (by omega)
  · rw [hM]
    show _ = updN _ _ _ (22 + k)
    by_cases eo : k = o
    · subst eo; rw [if_pos (by omega), updN_s]
    · rw [if_neg (by omega), updN_n (by omega)]
      by_cases eg : k = g
      · subst eg; rw [if_pos rfl, updN_s]
      · rw [if_neg (by omega), if_neg (by omega), updN_n (by omega), e0 _ (by omega)]; exact h.l hk
  · have hq' : q < updN (updN (cpyN a a (30 + o * 32 + 0) (30 + g * 32 + ln a g) (ln a g + ln a o - ln a g)) (22 + g) (ln a g + ln a o)) (22 + o) 0 (22 + k) := hq
    by_cases eo : k = o
    · subst eo; rw [updN_s] at hq'; omega
    · rw [updN_n (by omega)] at hq'
      show M2 _ = updN _ _ _ (30 + k * 32 + q)
      by_cases eg : k = g
      · subst eg
        rw [updN_s] at hq'
        rw [hM, if_neg (by omega), if_neg (by omega), updN_n (by omega), updN_n (by omega)]
        unfold cpyN
        by_cases hc : q < ln a k
        · rw [if_neg (by omega), if_neg (by omega)]; exact h.d hk hc
        · rw [if_pos (by omega), if_pos (by omega)]
          unfold dl
          congr 1
          omega
      · rw [updN_n (by omega), e0 _ (by omega)] at hq'
        have h3 : q < ln a k := hq'
        have := hl k hk
        rw [hM, if_neg (by omega), if_neg (by omega), if_neg (by omega), updN_n (by omega), updN_n (by omega)]
        unfold cpyN
        rw [if_neg (by omega)]
        exact h.d hk h3
theorem Rl_apart {a M M2 : Nat → Nat} {g f t : Nat} (h : Rl a M) (hl : ∀ g, g < 8 → ln a g ≤ 32) (hg : g < 8) (hf : f < 8) (hne : g ≠ f) (ht : t < ln a g)
    (hM : ∀ j, M2 j = if j = 22 + g then t else if j = 22 + f then ln a g - t else if 30 + 32 * g + t ≤ j ∧ j < 30 + 32 * g + ln a g then 0 else if 30 + 32 * f ≤ j ∧ j < 30 + 32 * f + (ln a g - t) then dl a g (j - (30 + 32 * f) + t) else M j) :
    Rl (updN (updN (cpyN a a (30 + g * 32 + t) (30 + f * 32 + 0) (ln a g - t)) (22 + f) (ln a g - t)) (22 + g) t) M2 := by
  have h0 := hl g hg
  have e0 : ∀ i, i < 30 → cpyN a a (30 + g * 32 + t) (30 + f * 32 + 0) (ln a g - t) i = a i := fun i hi => by unfold cpyN; rw [if_neg (by omega)]
  refine Rl_mk h (fun j hj => ?_) (fun j hj => by rw [hM, if_neg (by omega), if_neg (by omega), if_neg (by omega), if_neg (by omega)]) (fun k hk => ?_) (fun k hk q hq => ?_)
  · rw [updN_n (by omega), updN_n (by omega)]; exact e0 j (by omega)
  · rw [hM]
    show _ = updN _ _ _ (22 + k)
    by_cases eg : k = g
    · subst eg; rw [if_pos rfl, updN_s]
    · rw [if_neg (by omega), updN_n (by omega)]
      by_cases ef : k = f
      · subst ef; rw [if_pos rfl, updN_s]
      · rw [if_neg (by omega), if_neg (by omega), if_neg (by omega), updN_n (by omega), e0 _ (by omega)]; exact h.l hk
  · have hq' : q < updN (updN (cpyN a a (30 + g * 32 + t) (30 + f * 32 + 0) (ln a g - t)) (22 + f) (ln a g - t)) (22 + g) t (22 + k) := hq
    show M2 _ = updN _ _ _ (30 + k * 32 + q)
    by_cases eg : k = g
    · subst eg
      rw [updN_s] at hq'
      rw [hM, if_neg (by omega), if_neg (by omega), if_neg (by omega), if_neg (by omega), updN_n (by omega), updN_n (by omega)]
      unfold cpyN
      rw [if_neg (by omega)]
      exact h.d hk (by omega)
    · rw [updN_n (by omega)] at hq'
      by_cases ef : k = f
      · subst ef
        rw [updN_s] at hq'
        rw [hM, if_neg (by omega), if_neg (by omega), if_neg (by omega), if_pos (by omega), updN_n (by omega), updN_n (by omega)]
        unfold cpyN
        rw [if_pos (by omega)]
        unfold dl
        congr 1
        omega
      · rw [updN_n (by omega), e0 _ (by omega)] at hq'
        have h3 : q < ln a k := hq'
        have := hl k hk
        rw [hM, if_neg (by omega), if_neg (by omega), if_neg (by omega), if_neg (by omega), updN_n (by omega), updN_n (by omega)]
        unfold cpyN
        rw [if_neg (by omega)]
        exact h.d hk h3
theorem Rl_read {a M M2 b w : Nat → Nat} {f z : Nat} (h : Rl a M) (hl : ∀ g, g < 8 → ln a g ≤ 32) (hf : f < 8) (hz : z ≤ 32) (hw : ∀ j, j < z → w j = b j)
    (hM : ∀ j, M2 j = if j = 22 + f then z else if 30 + 32 * f ≤ j ∧ j < 30 + 32 * f + z then w (j - (30 + 32 * f)) else M j) : Rl (updN (cpyN b a 0 (30 + f * 32 + 0) z) (22 + f) z) M2 := by
  have e0 : ∀ i, i < 30 → cpyN b a 0 (30 + f * 32 + 0) z i = a i := fun i hi => by unfold cpyN; rw [if_neg (by omega)]
  refine Rl_mk h (fun j hj => ?_) (fun j hj => by rw [hM, if_neg (by omega), if_neg (by omega)]) (fun k hk => ?_) (fun k hk q hq => ?_)
  · rw [updN_n (by omega)]; exact e0 j (by omega)
  · rw [hM]
    show _ = updN _ _ _ (22 + k)
    by_cases ef : k = f
    · subst ef; rw [if_pos rfl, updN_s]
    · rw [if_neg (by omega), if_neg (by omega), updN_n (by omega), e0 _ (by omega)]; exact h.l hk
  · have hq' : q < updN (cpyN b a 0 (30 + f * 32 + 0) z) (22 + f) z (22 + k) := hq
    show M2 _ = updN _ _ _ (30 + k * 32 + q)
    by_cases ef : k = f
    · subst ef
      rw [updN_s] at hq'
      rw [hM, if_neg (by omega), if_pos (by omega), updN_n (by omega), hw _ (by omega)]
      unfold cpyN
      rw [if_pos (by omega)]
      congr 1
      omega
    · rw [updN_n (by omega), e0 _ (by omega)] at hq'
      have h3 : q < ln a k := hq'
      have := hl k hk
      rw [hM, if_neg (by omega), if_neg (by omega), updN_n (by omega)]
      unfold cpyN
      rw [if_neg (by omega)]
      exact h.d hk h3
theorem apart_step {a M M3 : Nat → Nat} {g f q i : Nat} (hne : g ≠ f) (hi : q + i < 32) (hm : ∀ j, M3 j = if 30 + 32 * g + q ≤ j ∧ j < 30 + 32 * g + q + i then 0 else if 30 + 32 * f ≤ j ∧ j < 30 + 32 * f + i then dl a g (j - (30 + 32 * f) + q) else M j) :
    ∀ j, updN (updN M3 (30 + 32 * f + (q + i - q)) (dl a g (q + i))) (30 + 32 * g + (q + i)) 0 j = if 30 + 32 * g + q ≤ j ∧ j < 30 + 32 * g + q + (i + 1) then 0 else if 30 + 32 * f ≤ j ∧ j < 30 + 32 * f + (i + 1) then dl a g (j - (30 + 32 * f) + q) else M j := by
  intro j
  simp only [updN]
  by_cases e1 : j = 30 + 32 * g + (q + i)
  · rw [if_pos e1, if_pos (by omega)]
  · rw [if_neg e1]
    by_cases e2 : j = 30 + 32 * f + (q + i - q)
    · rw [if_pos e2, if_neg (by omega), if_pos (by omega), show j - (30 + 32 * f) + q = q + i by omega]
    · rw [if_neg e2, hm]
      by_cases e3 : 30 + 32 * g + q ≤ j ∧ j < 30 + 32 * g + q + i
      · rw [if_pos e3, if_pos (by omega)]
      · rw [if_neg e3]
        by_cases e4 : 30 + 32 * f ≤ j ∧ j < 30 + 32 * f + i
        · rw [if_pos e4, if_neg (by omega), if_pos (by omega)]
        · rw [if_neg e4, if_neg (by omega), if_neg (by omega)]
theorem mirIn_le {a : Nat → Nat} (h : Vd a) {g : Nat} (hg : g < 8) : mirIn a g ≤ 32 := by
  have := sumN_le (P := fun j => b2n (mr (dl a g j))) (n := ln a g) (k := 1) (fun j _ => b2n_le _)
  have h1 := h.l hg
  unfold mirIn
  omega
