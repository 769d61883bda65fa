/-! ===== settled rings ===== -/
def dbl (P : Nat → Pt) : Nat → Pt := fun s => scP 2 (P s)
theorem vr_dbl (P : Nat → Pt) (c : Nat → Nat) (n : Nat) : vr (dbl P) c n = fun k => scP 2 (vr P c n k) := rfl
theorem ldr_sc (v : Nat → Pt) : ∀ k, ldr (fun k => scP 2 (v k)) k = ldr v k := by
  intro k
  induction k with
  | zero => rfl
  | succ k ih =>
    show (if ltP (scP 2 (v k)) (scP 2 (v (ldr (fun k => scP 2 (v k)) k))) = true then k else ldr (fun k => scP 2 (v k)) k) = if ltP (v k) (v (ldr v k)) = true then k else ldr v k
    rw [ih, sc_lt (by decide)]
theorem are_sc (v : Nat → Pt) : ∀ n, are (fun k => scP 2 (v k)) n = 4 * are v n := by
  intro n
  induction n with
  | zero => rfl
  | succ n ih =>
    have e : ∀ w : Nat → Pt, are w (n + 1) = are w n + arf w n := fun w => rfl
    rw [e, e, ih]
    unfold arf scP
    grind
theorem ldr_least {v : Nat → Pt} : ∀ k j, j < k → ltP (v j) (v (ldr v k)) = false := by
  intro k
  induction k with
  | zero => intro j hj; omega
  | succ k ih =>
    intro j hj
    show ltP (v j) (v (if ltP (v k) (v (ldr v k)) = true then k else ldr v k)) = false
    by_cases q : j = k
    · subst q
      by_cases c : ltP (v j) (v (ldr v j)) = true
      · rw [if_pos c, ltP_f]; omega
      · rw [if_neg c]; cases h : ltP (v j) (v (ldr v j)) with
        | true => exact absurd h c
        | false => rfl
    · have hj2 := ih j (by omega)
      by_cases c : ltP (v k) (v (ldr v k)) = true
      · rw [if_pos c]
        rw [ltP_t] at c
        rw [ltP_f] at hj2 ⊢
        omega
      · rw [if_neg c]; exact hj2
theorem ldr_all {v : Nat → Pt} {n : Nat} (h : soundS v n) (k : Nat) : ltP (v k) (v (ldr v n)) = false := by
  have h3 := h.1
  rw [sound_per (S_sound h) k]
  exact ldr_least n _ (Nat.mod_lt _ (by omega))
theorem stl_turn {v : Nat → Pt} {n : Nat} (h : soundS v n) : (are v n < 0 ↔ orP (v (ldr v n + n - 1)) (v (ldr v n)) (v (ldr v n + 1)) < 0) ∧ orP (v (ldr v n + n - 1)) (v (ldr v n)) (v (ldr v n + 1)) ≠ 0 := by
  have h3 := h.1
  have e1 : v (ldr v n + n - 1 + 1) = v (ldr v n) := by rw [show ldr v n + n - 1 + 1 = ldr v n + n by omega]; exact h.2.1 _
  have e2 : v (ldr v n + n - 1 + 2) = v (ldr v n + 1) := by rw [show ldr v n + n - 1 + 2 = ldr v n + 1 + n by omega]; exact h.2.1 _
  have hl : ∀ k, ltP (v k) (v (ldr v n + n - 1 + 1)) = false := fun k => by rw [e1]; exact ldr_all h k
  have s := are_sign h (i := ldr v n + n - 1) hl
  have t := turn_ne (S_sound h) (i := ldr v n + n - 1) hl
  rw [e1, e2] at s t
  refine ⟨⟨fun k => ?_, s.2⟩, t⟩
  rcases Int.lt_or_le (orP (v (ldr v n + n - 1)) (v (ldr v n)) (v (ldr v n + 1))) 0 with w | w
  · exact w
  · have := s.1 (by omega); omega
theorem stl_eq {P : Nat → Pt} {c : Nat → Nat} {n : Nat} (h : soundS (vr P c n) n) : stlA (vr (dbl P) c n) n c = stl (vr P c n) n c := by
  funext k
  unfold stlA stl
  have t := stl_turn h
  rw [vr_dbl, ldr_sc, are_sc]
  by_cases q : are (vr P c n) n < 0
  · rw [if_pos (by omega), if_pos (t.1.mp q)]
  · rw [if_neg (by omega), if_neg (fun z => q (t.1.mpr z))]
/-- the settled ring, as points -/
theorem stl_pts {P : Nat → Pt} {c : Nat → Nat} {n : Nat} (h : soundS (vr P c n) n) : soundS (vr P (stl (vr P c n) n c) n) n ∧ lefty (vr P (stl (vr P c n) n c) n) ∧ ∀ k, ltP (vr P (stl (vr P c n) n c) n k) (vr P (stl (vr P c n) n c) n 0) = false := by
  have h3 := h.1
  have t := stl_turn h
  have ld := ldr_lt (vr P c n) n (by omega)
  have m0 : 0 % n = 0 := Nat.zero_mod n
  by_cases q : orP (vr P c n (ldr (vr P c n) n + n - 1)) (vr P c n (ldr (vr P c n) n)) (vr P c n (ldr (vr P c n) n + 1)) < 0
  · have e : vr P (stl (vr P c n) n c) n = rv (fun i => vr P c n (i + ldr (vr P c n) n)) n := by
      funext k
      show P (stl (vr P c n) n c (k % n)) = P (c ((n - k % n + ldr (vr P c n) n) % n))
      unfold stl
      rw [if_pos q, show ldr (vr P c n) n + n - k % n = n - k % n + ldr (vr P c n) n by have := Nat.mod_lt k (show 0 < n by omega); omega]
    have hr := rot_S h (ldr (vr P c n) n)
    have hs := rv_S hr
    have w0 : rv (fun i => vr P c n (i + ldr (vr P c n) n)) n 0 = vr P c n (ldr (vr P c n) n) := by
      show vr P c n (n - 0 % n + ldr (vr P c n) n) = _
      rw [m0, Nat.sub_zero, show n + ldr (vr P c n) n = ldr (vr P c n) n + n by omega]; exact h.2.1 _
    have wn : rv (fun i => vr P c n (i + ldr (vr P c n) n)) n n = vr P c n (ldr (vr P c n) n) := by
      show vr P c n (n - n % n + ldr (vr P c n) n) = _
      rw [Nat.mod_self, Nat.sub_zero, show n + ldr (vr P c n) n = ldr (vr P c n) n + n by omega]; exact h.2.1 _
    have w1 : rv (fun i => vr P c n (i + ldr (vr P c n) n)) n (n + 1) = vr P c n (ldr (vr P c n) n + n - 1) := by
      show vr P c n (n - (n + 1) % n + ldr (vr P c n) n) = _
      rw [Nat.add_mod_left, Nat.mod_eq_of_lt (show 1 < n by omega), show n - 1 + ldr (vr P c n) n = ldr (vr P c n) n + n - 1 by omega]
    have wl : rv (fun i => vr P c n (i + ldr (vr P c n) n)) n (n - 1) = vr P c n (ldr (vr P c n) n + 1) := by
      show vr P c n (n - (n - 1) % n + ldr (vr P c n) n) = _
      rw [Nat.mod_eq_of_lt (show n - 1 < n by omega), show n - (n - 1) + ldr (vr P c n) n = ldr (vr P c n) n + 1 by omega]
    rw [e]
    refine ⟨hs, ⟨n - 1, ?_, ?_⟩, fun k => ?_⟩
    · intro k
      rw [show n - 1 + 1 = n by omega, wn]
      exact ldr_all h _
    · rw [show n - 1 + 1 = n by omega, show n - 1 + 2 = n + 1 by omega, wn, w1, wl]
      have : orP (vr P c n (ldr (vr P c n) n + 1)) (vr P c n (ldr (vr P c n) n)) (vr P c n (ldr (vr P c n) n + n - 1)) = -orP (vr P c n (ldr (vr P c n) n + n - 1)) (vr P c n (ldr (vr P c n) n)) (vr P c n (ldr (vr P c n) n + 1)) := by unfold orP; grind
      omega
    · rw [w0]; exact ldr_all h _
  · have e : vr P (stl (vr P c n) n c) n = fun i => vr P c n (i + ldr (vr P c n) n) := by
      funext k
      show P (stl (vr P c n) n c (k % n)) = P (c ((k + ldr (vr P c n) n) % n))
      unfold stl
      rw [if_neg q, Nat.add_mod_mod, Nat.add_comm]
    have hr := rot_S h (ldr (vr P c n) n)
    rw [e]
    refine ⟨hr, ⟨n - 1, ?_, ?_⟩, fun k => ?_⟩
    · intro k
      show ltP _ (vr P c n (n - 1 + 1 + ldr (vr P c n) n)) = false
      rw [show n - 1 + 1 + ldr (vr P c n) n = ldr (vr P c n) n + n by omega, h.2.1]
      exact ldr_all h _
    · show 0 < orP (vr P c n (n - 1 + ldr (vr P c n) n)) (vr P c n (n - 1 + 1 + ldr (vr P c n) n)) (vr P c n (n - 1 + 2 + ldr (vr P c n) n))
      rw [show n - 1 + ldr (vr P c n) n = ldr (vr P c n) n + n - 1 by omega, show n - 1 + 1 + ldr (vr P c n) n = ldr (vr P c n) n + n by omega, h.2.1, show n - 1 + 2 + ldr (vr P c n) n = ldr (vr P c n) n + 1 + n by omega, h.2.1]
      have := t.2
      omega
    · show ltP _ (vr P c n (0 + ldr (vr P c n) n)) = false
      rw [Nat.zero_add]; exact ldr_all h _
/-- a ring as it stands in a parcel -/
def good (nc : Nat) (P : Nat → Pt) (n : Nat) (c : Nat → Nat) : Prop := 3 ≤ n ∧ n ≤ 12 ∧ (∀ i, i < n → c i < nc) ∧ (∀ i j, i < n → j < n → c i = c j → i = j) ∧ soundS (vr P c n) n ∧ lefty (vr P c n) ∧ ∀ k, ltP (vr P c n k) (vr P c n 0) = false
theorem stl_good {nc : Nat} {P : Nat → Pt} {c : Nat → Nat} {n : Nat} (h : soundS (vr P c n) n) (hn : n ≤ 12) (hc : ∀ i, i < n → c i < nc) : good nc P n (stl (vr P c n) n c) := by
  have h3 := h.1
  have sp := stl_pts h
  refine ⟨h3, hn, fun i hi => ?_, fun i j hi hj e => ?_, sp⟩
  · unfold stl
    split <;> exact hc _ (Nat.mod_lt _ (by omega))
  · have := sp.1.2.2.1 i j hi hj (by show P (stl _ n c (i % n)) = P (stl _ n c (j % n)); rw [Nat.mod_eq_of_lt hi, Nat.mod_eq_of_lt hj, e])
    exact this
theorem good_RGd {nc : Nat} {P : Nat → Pt} {n : Nat} {c : Nat → Nat} (h : good nc P n c) : RGd nc (dbl P) n c := by
  refine ⟨h.2.2.1, h.2.2.2.1, ?_, ?_⟩
  · rw [vr_dbl]; exact sc_S (by decide) h.2.2.2.2.1
  · rw [vr_dbl]; exact sc_lefty (by decide) h.2.2.2.2.2.1
theorem good_lt {nc : Nat} {P : Nat → Pt} {n : Nat} {c : Nat → Nat} (h : good nc P n c) : ltP (vr P c n 0) (vr P c n 1) = true := by
  rcases lt_tri (vr P c n 0) (vr P c n 1) with k | k | k
  · exact k
  · exact absurd k (next_ne h.2.2.2.2.1 0)
  · have := h.2.2.2.2.2.2 1; rw [k] at this; exact absurd this (by decide)
/-- faults, both ways -/
theorem ft_eq {nc : Nat} {P : Nat → Pt} {n : Nat} {c : Nat → Nat} (hc : ∀ i, i < n → c i < nc) (hi : ∀ x y, x < nc → y < nc → P x = P y → x = y) : ft metP (vr P c n) n c = ft comP (vr (dbl P) c n) n c := by
  unfold ft
  by_cases h3 : n < 3 ∨ 12 < n
  · rw [if_pos h3, if_pos h3]
  rw [if_neg h3, if_neg h3]
  rcases fstP_cases (twR c) n with ⟨i, k, f, e⟩ | ⟨no, e⟩
  · rw [e]
  · rw [e]
    have inj : ∀ i j, i < n → j < n → c i = c j → i = j := fun i j a b e => by
      rcases Nat.lt_trichotomy i j with k | k | k
      · exact absurd e (no i j k b)
      · exact k
      · exact absurd e.symm (no j i k a)
    have ne : ∀ k, vr P c n k ≠ vr P c n (k + 1) := fun k e => by
      have lt1 := Nat.mod_lt k (show 0 < n by omega)
      have lt2 := Nat.mod_lt (k + 1) (show 0 < n by omega)
      have := inj _ _ lt1 lt2 (hi _ _ (hc _ lt1) (hc _ lt2) e)
      have e2 : (k % n + 1) % n = (k + 1) % n := Nat.mod_add_mod k n 1
      rw [← e2] at this
      by_cases q : k % n + 1 < n
      · rw [Nat.mod_eq_of_lt q] at this; omega
      · rw [show k % n + 1 = n by omega, Nat.mod_self] at this; omega
    have : fstP (crR metP (vr P c n) n) n = fstP (crR comP (vr (dbl P) c n) n) n := fstP_congr (fun i k _ _ => by
      unfold crR
      rw [vr_dbl, comP_sc (by decide), met_com (ne i) (ne k)])
    simp only [this]
theorem ft_sound {nc : Nat} {P : Nat → Pt} {n : Nat} {c : Nat → Nat} (hc : ∀ i, i < n → c i < nc) (hi : ∀ x y, x < nc → y < nc → P x = P y → x = y) (h : (ft comP (vr (dbl P) c n) n c).1 = 0) : soundS (vr P c n) n ∧ n ≤ 12 := by
  unfold ft at h
  by_cases h3 : n < 3 ∨ 12 < n
  · rw [if_pos h3] at h; exact absurd h (ne0c _ _ (by decide))
  rw [if_neg h3] at h
  rcases fstP_cases (twR c) n with ⟨i, k, f, e⟩ | ⟨no, e⟩
  · rw [e] at h; exact absurd h (ne0c _ _ (by decide))
  rw [e] at h
  rcases fstP_cases (crR comP (vr (dbl P) c n) n) n with ⟨i, k, f, e2⟩ | ⟨nc2, e2⟩
  · simp only [e2] at h; exact absurd h (by decide)
  refine ⟨?_, by omega⟩
  apply sound_S
  refine ⟨by omega, fun i => ?_, fun i j a b e => ?_, fun i j a b => ?_⟩
  · show P (c ((i + n) % n)) = P (c (i % n)); rw [Nat.add_mod_right]
  · have e : P (c (i % n)) = P (c (j % n)) := e
    rw [Nat.mod_eq_of_lt a, Nat.mod_eq_of_lt b] at e
    have e := hi _ _ (hc _ a) (hc _ b) e
    rcases Nat.lt_trichotomy i j with k | k | k
    · exact absurd e (no i j k b)
    · exact k
    · exact absurd e.symm (no j i k a)
  · have := nc2 i j a b
    unfold crR at this
    rw [vr_dbl, comP_sc (by decide)] at this
    exact Classical.not_not.mp this
