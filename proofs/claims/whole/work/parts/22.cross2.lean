theorem or_diff (a b c d : Pt) : orP a b c - orP a b d = orP c d b - orP c d a := by unfold orP; grind
theorem or_wx (a b c d : Pt) : (b.1 - c.1) * orP c d a + (c.1 - a.1) * orP c d b = -(d.1 - c.1) * orP a b c := by unfold orP; grind
theorem or_wy (a b c d : Pt) : (b.2 - c.2) * orP c d a + (c.2 - a.2) * orP c d b = -(d.2 - c.2) * orP a b c := by unfold orP; grind
theorem or_ix (a b c d : Pt) : orP c d a * b.1 - orP c d b * a.1 = orP a b d * c.1 - orP a b c * d.1 := by unfold orP; grind
theorem or_iy (a b c d : Pt) : orP c d a * b.2 - orP c d b * a.2 = orP a b d * c.2 - orP a b c * d.2 := by unfold orP; grind
theorem or_swap (a b c : Pt) : orP b a c = -orP a b c := by unfold orP; grind
/-- c on the line a b, a and b not on one side of c d: c is between -/
theorem on_mid {a b c d : Pt} (h0 : orP a b c = 0) (h : ¬ 0 < orP c d a * orP c d b) (hne : orP a b d ≠ 0) : onP a b c = true := by
  rw [onP_iff]
  refine ⟨h0, ?_⟩
  have d1 := or_diff a b c d
  have x1 := or_wx a b c d
  have y1 := or_wy a b c d
  rw [h0, Int.mul_zero] at x1 y1
  rw [h0] at d1
  generalize orP c d a = oa at *
  generalize orP c d b = ob at *
  generalize orP a b d = od at *
  unfold boxP
  rcases mul_nonpos_cases h with ⟨p, q⟩ | ⟨p, q⟩
  · have e1 : (b.1 - c.1) * (-oa) = (c.1 - a.1) * ob := by rw [Int.mul_neg]; omega
    have e2 : (b.2 - c.2) * (-oa) = (c.2 - a.2) * ob := by rw [Int.mul_neg]; omega
    have z1 := zbet e1 (by omega) q (by omega)
    have z2 := zbet e2 (by omega) q (by omega)
    omega
  · have e1 : (b.1 - c.1) * oa = (c.1 - a.1) * (-ob) := by rw [Int.mul_neg]; omega
    have e2 : (b.2 - c.2) * oa = (c.2 - a.2) * (-ob) := by rw [Int.mul_neg]; omega
    have z1 := zbet e1 p (by omega) (by omega)
    have z2 := zbet e2 p (by omega) (by omega)
    omega
/-- a point of a b lies not on c d if both of c d are on one side of a b -/
theorem off_side {a b c d : Pt} (h : 0 < orP a b c * orP a b d) (hcd : c ≠ d) : onP c d a = false := by
  cases hh : onP c d a with
  | false => rfl
  | true =>
    exfalso
    obtain ⟨h0, hbx⟩ := (onP_iff c d a).mp hh
    have x1 := or_wx c d a b
    have y1 := or_wy c d a b
    rw [h0, Int.mul_zero] at x1 y1
    unfold boxP at hbx
    have hne : c.1 ≠ d.1 ∨ c.2 ≠ d.2 := by
      by_cases q : c.1 = d.1
      · right; intro q2; exact hcd (Prod.ext q q2)
      · exact Or.inl q
    have e1 : orP a b c = orP a b c := rfl
    have key : ∀ u v s t : Int, u * s + v * t = 0 → (0 < s ∧ 0 < t) ∨ (s < 0 ∧ t < 0) → (0 ≤ u ∧ 0 ≤ v) ∨ (u ≤ 0 ∧ v ≤ 0) → u = 0 ∧ v = 0 := by
      intro u v s t h1 h2 h3
      rcases h2 with ⟨p, q⟩ | ⟨p, q⟩
      · rcases h3 with ⟨r1, r2⟩ | ⟨r1, r2⟩
        · have w1 := Int.mul_nonneg r1 (Int.le_of_lt p)
          have w2 := Int.mul_nonneg r2 (Int.le_of_lt q)
          rcases Int.mul_eq_zero.mp (show u * s = 0 by omega) with h | h
          · rcases Int.mul_eq_zero.mp (show v * t = 0 by omega) with h' | h' <;> omega
          · omega
        · have w1 := Int.mul_nonpos_of_nonpos_of_nonneg r1 (Int.le_of_lt p)
          have w2 := Int.mul_nonpos_of_nonpos_of_nonneg r2 (Int.le_of_lt q)
          rcases Int.mul_eq_zero.mp (show u * s = 0 by omega) with h | h
          · rcases Int.mul_eq_zero.mp (show v * t = 0 by omega) with h' | h' <;> omega
          · omega
      · rcases h3 with ⟨r1, r2⟩ | ⟨r1, r2⟩
        · have w1 := Int.mul_nonpos_of_nonneg_of_nonpos r1 (Int.le_of_lt p)
          have w2 := Int.mul_nonpos_of_nonneg_of_nonpos r2 (Int.le_of_lt q)
          rcases Int.mul_eq_zero.mp (show u * s = 0 by omega) with h | h
          · rcases Int.mul_eq_zero.mp (show v * t = 0 by omega) with h' | h' <;> omega
          · omega
        · have w1 := Int.mul_nonneg_of_nonpos_of_nonpos r1 (Int.le_of_lt p)
          have w2 := Int.mul_nonneg_of_nonpos_of_nonpos r2 (Int.le_of_lt q)
          rcases Int.mul_eq_zero.mp (show u * s = 0 by omega) with h | h
          · rcases Int.mul_eq_zero.mp (show v * t = 0 by omega) with h' | h' <;> omega
          · omega
    have hs : (0 < orP a b c ∧ 0 < orP a b d) ∨ (orP a b c < 0 ∧ orP a b d < 0) := by rcases mul_pos_cases h with q | q <;> omega
    have k1 := key _ _ _ _ x1 hs (by omega)
    have k2 := key _ _ _ _ y1 hs (by omega)
    omega
theorem spZ_f (a b c d : Int) : spZ a b c d = false ↔ ((a < c ∧ a < d ∧ b < c ∧ b < d) ∨ (c < a ∧ c < b ∧ d < a ∧ d < b)) := by
  unfold spZ
  rw [decide_eq_false_iff_not]
  constructor
  · intro h; split at h <;> split at h <;> omega
  · intro h; split <;> split <;> omega
/-- a proper crossing: the frames meet -/
theorem cross_spans {α β γ δ p q r s : Int} (hi : α * q - β * p = δ * r - γ * s) (hd : γ - δ = β - α) (h1 : α * β < 0) (h2 : γ * δ < 0) : spZ p q r s = true := by
  cases hs : spZ p q r s with
  | true => rfl
  | false =>
    exfalso
    have hm : ∀ A B x y M : Int, 0 < A → 0 < B → x < M → y < M → A * x + B * y < (A + B) * M := by
      intro A B x y M hA hB hx hy
      have := pp hA (show 0 < M - x by omega)
      have := pp hB (show 0 < M - y by omega)
      rw [Int.mul_sub] at *
      rw [Int.add_mul]
      omega
    have hM : ∀ A B x y M : Int, 0 < A → 0 < B → M ≤ x → M ≤ y → (A + B) * M ≤ A * x + B * y := by
      intro A B x y M hA hB hx hy
      have := Int.mul_nonneg (Int.le_of_lt hA) (show 0 ≤ x - M by omega)
      have := Int.mul_nonneg (Int.le_of_lt hB) (show 0 ≤ y - M by omega)
      rw [Int.mul_sub] at *
      rw [Int.add_mul]
      omega
    have sep : ∀ x y z w : Int, x < z → x < w → y < z → y < w → ∃ M, x < M ∧ y < M ∧ M ≤ z ∧ M ≤ w := by
      intro x y z w _ _ _ _
      by_cases h : z ≤ w
      · exact ⟨z, by omega, by omega, by omega, by omega⟩
      · exact ⟨w, by omega, by omega, by omega, by omega⟩
    have core : ∀ α β γ δ p q r s : Int, α * q - β * p = δ * r - γ * s → γ - δ = β - α → 0 < α → β < 0 → γ < 0 → 0 < δ → ((p < r ∧ p < s ∧ q < r ∧ q < s) ∨ (r < p ∧ r < q ∧ s < p ∧ s < q)) → False := by
      intro α β γ δ p q r s hi hd ha hb hc hd2 hsep
      have hK : α + -β = δ + -γ := by omega
      rcases hsep with ⟨u1, u2, u3, u4⟩ | ⟨u1, u2, u3, u4⟩
      · obtain ⟨M, m1, m2, m3, m4⟩ := sep q p r s u3 u4 u1 u2
        have w1 := hm α (-β) q p M ha (by omega) m1 m2
        have w2 := hM δ (-γ) r s M hd2 (by omega) m3 m4
        rw [hK] at w1
        rw [Int.neg_mul] at w1 w2
        omega
      · obtain ⟨M, m1, m2, m3, m4⟩ := sep r s q p u2 u1 u4 u3
        have w1 := hM α (-β) q p M ha (by omega) m3 m4
        have w2 := hm δ (-γ) r s M hd2 (by omega) m1 m2
        rw [hK] at w1
        rw [Int.neg_mul] at w1 w2
        omega
    have hsep := (spZ_f p q r s).mp hs
    rcases mul_neg_cases h1 with ⟨a1, a2⟩ | ⟨a1, a2⟩
    · rcases mul_neg_cases h2 with ⟨b1, b2⟩ | ⟨b1, b2⟩
      · omega
      · refine core (-α) (-β) (-γ) (-δ) p q r s ?_ (by omega) (by omega) (by omega) (by omega) (by omega) hsep
        rw [Int.neg_mul, Int.neg_mul, Int.neg_mul, Int.neg_mul]; omega
    · rcases mul_neg_cases h2 with ⟨b1, b2⟩ | ⟨b1, b2⟩
      · exact core α β γ δ p q r s hi hd a1 a2 b1 b2 hsep
      · omega
theorem colP_sep {a b c d : Pt} (h : (ltP a c = true ∧ ltP a d = true ∧ ltP b c = true ∧ ltP b d = true) ∨ (ltP c a = true ∧ ltP c b = true ∧ ltP d a = true ∧ ltP d b = true)) : colP a b c d = 0 := by
  have asym : ∀ x y : Pt, ltP x y = true → ltP y x = false := by
    intro x y h1
    rw [ltP_t] at h1
    rw [ltP_f]
    omega
  rw [colP_lt, colF_lt, colL_lt]
  simp only [mnP_lt, mxP_lt]
  rcases h with ⟨h1, h2, h3, h4⟩ | ⟨h1, h2, h3, h4⟩
  · have k1 := asym _ _ h1
    have k2 := asym _ _ h2
    have k3 := asym _ _ h3
    have k4 := asym _ _ h4
    by_cases hab : ltP a b = true <;> by_cases hcd : ltP c d = true <;> simp [hab, hcd, h1, h2, h3, h4, k1, k2, k3, k4]
  · have k1 := asym _ _ h1
    have k2 := asym _ _ h2
    have k3 := asym _ _ h3
    have k4 := asym _ _ h4
    by_cases hab : ltP a b = true <;> by_cases hcd : ltP c d = true <;> simp [hab, hcd, h1, h2, h3, h4, k1, k2, k3, k4]
