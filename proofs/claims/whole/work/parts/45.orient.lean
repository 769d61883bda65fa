/-! ===== the ring gone round the other way; the turn at the corner ahead of all tells the area's sign ===== -/
def rv (v : Nat → Pt) (n : Nat) : Nat → Pt := fun i => v (n - i % n)
theorem rv_le {v : Nat → Pt} {n i : Nat} (h0 : v n = v 0) (h : i ≤ n) : rv v n i = v (n - i) := by
  unfold rv
  by_cases q : i = n
  · subst q; rw [Nat.mod_self, Nat.sub_zero, Nat.sub_self]; exact h0
  · rw [Nat.mod_eq_of_lt (by omega)]
theorem rv_S {v : Nat → Pt} {n : Nat} (h : soundS v n) : soundS (rv v n) n := by
  have h3 := h.1
  have e0 := v_n h.2.1
  refine ⟨h3, fun i => ?_, fun i j hi hj e => ?_, fun i k hik hk N x hN g1 g2 => ?_⟩
  · unfold rv; rw [Nat.add_mod_right]
  · rw [rv_le e0 (by omega), rv_le e0 (by omega)] at e
    have key : ∀ i, i < n → ∃ a, a < n ∧ v (n - i) = v a ∧ ((i = 0 ∧ a = 0) ∨ (0 < i ∧ a = n - i)) := by
      intro i hi
      by_cases q : i = 0
      · subst q; exact ⟨0, by omega, e0, Or.inl ⟨rfl, rfl⟩⟩
      · exact ⟨n - i, by omega, rfl, Or.inr ⟨by omega, rfl⟩⟩
    obtain ⟨a, ha, ea, ca⟩ := key i hi
    obtain ⟨b, hb, eb, cb⟩ := key j hj
    rw [ea, eb] at e
    have := h.2.2.1 a b ha hb e
    omega
  · rw [rv_le e0 (by omega), rv_le e0 (by omega)] at g1 g2
    have g1 := bet_rev g1
    have g2 := bet_rev g2
    rw [show n - i = n - (i + 1) + 1 by omega] at g1
    rw [show n - k = n - (k + 1) + 1 by omega] at g2
    have := soundS_all h (show n - (i + 1) < n by omega) (show n - (k + 1) < n by omega) (by omega) N x hN g1 g2
    rw [rv_le e0 (by omega), rv_le e0 (by omega)]
    rw [modS (show n - (i + 1) < n by omega), modS (show n - (k + 1) < n by omega)] at this
    rw [modS hk, modS (show i < n by omega)]
    rcases this with ⟨p, q⟩ | ⟨p, q⟩
    · right
      refine ⟨?_, ?_⟩
      · split at p <;> split <;> omega
      · rw [q]; congr 2; split at p <;> omega
    · left
      refine ⟨?_, ?_⟩
      · split at p <;> split <;> omega
      · rw [q]
        split at p
        · rw [← p, show n - i = n by omega, e0]
        · congr 2; omega
theorem sumZ_first (f : Nat → Int) : ∀ n, sumZ f (n + 1) = f 0 + sumZ (fun i => f (i + 1)) n := by
  intro n
  have := sumZ_shift f n
  show sumZ f n + f n = _
  omega
theorem sumZ_back (f : Nat → Int) : ∀ n, sumZ (fun i => f (n - 1 - i)) n = sumZ f n := by
  intro n
  induction n with
  | zero => rfl
  | succ n ih =>
    rw [sumZ_first]
    have e : sumZ (fun i => f (n + 1 - 1 - (i + 1))) n = sumZ (fun i => f (n - 1 - i)) n := sumZ_congr n (fun i hi => by congr 1; omega)
    rw [e, ih]
    show f (n + 1 - 1 - 0) + sumZ f n = sumZ f n + f n
    rw [show n + 1 - 1 - 0 = n by omega]; omega
theorem are_rv {v : Nat → Pt} {n : Nat} (h : ∀ i, v (i + n) = v i) : are (rv v n) n = -are v n := by
  have e0 := v_n h
  unfold are
  rw [← sumZ_back (fun k => (v k).1 * (v (k + 1)).2 - (v k).2 * (v (k + 1)).1), ← Int.neg_one_mul, ← sumZ_mulc]
  refine sumZ_congr n (fun k hk => ?_)
  rw [rv_le e0 (by omega), rv_le e0 (by omega), show n - 1 - k = n - (k + 1) by omega, show n - (k + 1) + 1 = n - k by omega]
  grind
/-- at the corner ahead of all others a sound ring never goes straight on -/
theorem turn_ne {v : Nat → Pt} {n : Nat} (h : sound v n) {i : Nat} (hl : ∀ k, ltP (v k) (v (i + 1)) = false) : orP (v i) (v (i + 1)) (v (i + 2)) ≠ 0 := by
  intro e
  have g := sound_goes h i
  have g := g.resolve_left (fun q => q e)
  have a := hl i
  have b := hl (i + 2)
  have n1 := sound_next h i
  have n2 := sound_next h (i + 1)
  rw [or_cr] at e
  unfold cr dl at e
  dsimp only at e
  rw [ltP_f] at a b
  generalize v i = u at *
  generalize v (i + 1) = w at *
  generalize v (i + 2) = z at *
  rcases g with g | g
  · rcases mul_pos_cases g with q | q <;> omega
  · have n1' : u.1 ≠ w.1 ∨ u.2 ≠ w.2 := by
      by_cases q : u.1 = w.1
      · right; intro q2; exact n1 (Prod.ext q q2)
      · exact Or.inl q
    rcases mul_pos_cases g with q | q
    · -- both fall
      have hz : w.1 < z.1 := by omega
      have hu : w.1 ≤ u.1 := by omega
      have w1 := m_zz (show w.1 - u.1 ≤ 0 by omega) (show z.2 - w.2 ≤ 0 by omega)
      have w2 := np (show w.2 - u.2 < 0 by omega) (show 0 < z.1 - w.1 by omega)
      omega
    · have hu : w.1 < u.1 := by omega
      have hz : w.1 ≤ z.1 := by omega
      have w1 := np (show w.1 - u.1 < 0 by omega) (show 0 < z.2 - w.2 by omega)
      have w2 := m_nn (show 0 ≤ w.2 - u.2 by omega) (show 0 ≤ z.1 - w.1 by omega)
      omega
theorem are_rot {v : Nat → Pt} {n : Nat} (hp : ∀ i, v (i + n) = v i) (r : Nat) : are (fun i => v (i + r)) n = are v n := by
  induction r with
  | zero => rfl
  | succ r ih =>
    rw [← ih]
    have t := sumZ_shift (fun i => (v (i + r)).1 * (v (i + 1 + r)).2 - (v (i + r)).2 * (v (i + 1 + r)).1) n
    have e1 : are (fun i => v (i + (r + 1))) n = sumZ (fun i => (v (i + 1 + r)).1 * (v (i + 1 + 1 + r)).2 - (v (i + 1 + r)).2 * (v (i + 1 + 1 + r)).1) n := by
      refine sumZ_congr n (fun i _ => ?_)
      show (v (i + (r + 1))).1 * (v (i + 1 + (r + 1))).2 - (v (i + (r + 1))).2 * (v (i + 1 + (r + 1))).1 = _
      rw [show i + (r + 1) = i + 1 + r by omega, show i + 1 + (r + 1) = i + 1 + 1 + r by omega]
    have e2 : v (n + r) = v (0 + r) ∧ v (n + 1 + r) = v (0 + 1 + r) := by
      rw [show n + r = r + n by omega, show n + 1 + r = 1 + r + n by omega, hp, hp, Nat.zero_add, Nat.zero_add]
      exact ⟨rfl, rfl⟩
    rw [e1]
    rw [e2.1, e2.2] at t
    have e3 : are (fun i => v (i + r)) n = sumZ (fun i => (v (i + r)).1 * (v (i + 1 + r)).2 - (v (i + r)).2 * (v (i + 1 + r)).1) n := rfl
    omega
theorem are_sign {v : Nat → Pt} {n : Nat} (h : soundS v n) {i : Nat} (hl : ∀ k, ltP (v k) (v (i + 1)) = false) : (0 < orP (v i) (v (i + 1)) (v (i + 2)) → 0 < are v n) ∧ (orP (v i) (v (i + 1)) (v (i + 2)) < 0 → are v n < 0) := by
  constructor
  · intro q
    exact are_pos h ⟨i, hl, q⟩
  · intro q
    have h3 := h.1
    have hw := rot_S h i
    have e0 := v_n (v := fun k => v (k + i)) (n := n) hw.2.1
    have hr := rv_S hw
    have : 0 < are (rv (fun k => v (k + i)) n) n := by
      refine are_pos hr ⟨n - 2, fun k => ?_, ?_⟩
      · rw [rv_le e0 (show n - 2 + 1 ≤ n by omega), show n - (n - 2 + 1) = 1 by omega]
        show ltP (v (n - k % n + i)) (v (1 + i)) = false
        rw [Nat.add_comm 1 i]
        exact hl _
      · rw [rv_le e0 (show n - 2 ≤ n by omega), rv_le e0 (show n - 2 + 1 ≤ n by omega), rv_le e0 (show n - 2 + 2 ≤ n by omega), show n - (n - 2) = 2 by omega, show n - (n - 2 + 1) = 1 by omega, show n - (n - 2 + 2) = 0 by omega]
        show 0 < orP (v (2 + i)) (v (1 + i)) (v (0 + i))
        rw [Nat.add_comm 2 i, Nat.add_comm 1 i, Nat.zero_add]
        have : orP (v (i + 2)) (v (i + 1)) (v i) = -orP (v i) (v (i + 1)) (v (i + 2)) := by unfold orP; grind
        omega
    rw [are_rv (v := fun k => v (k + i)) (n := n) hw.2.1, are_rot h.2.1] at this
    omega
