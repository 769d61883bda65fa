theorem sgn4 {D m u1 u2 u3 u4 v1 v2 v3 v4 : Int} (e1 : u1 * D = v1 * m) (e2 : u2 * D = v2 * m) (e3 : u3 * D = v3 * m) (e4 : u4 * D = v4 * m) (hD : D ≠ 0) (hu : (0 < u1 ∧ 0 < u2 ∧ 0 < u3 ∧ 0 < u4) ∨ (u1 < 0 ∧ u2 < 0 ∧ u3 < 0 ∧ u4 < 0)) : (0 < v1 ∧ 0 < v2 ∧ 0 < v3 ∧ 0 < v4) ∨ (v1 < 0 ∧ v2 < 0 ∧ v3 < 0 ∧ v4 < 0) := by
  have hs : (0 < u1 * D ∧ 0 < u2 * D ∧ 0 < u3 * D ∧ 0 < u4 * D) ∨ (u1 * D < 0 ∧ u2 * D < 0 ∧ u3 * D < 0 ∧ u4 * D < 0) := by
    rcases hu with ⟨a, b, c, d⟩ | ⟨a, b, c, d⟩
    · rcases Int.lt_trichotomy D 0 with h | h | h
      · exact Or.inr ⟨pn a h, pn b h, pn c h, pn d h⟩
      · exact absurd h hD
      · exact Or.inl ⟨pp a h, pp b h, pp c h, pp d h⟩
    · rcases Int.lt_trichotomy D 0 with h | h | h
      · exact Or.inl ⟨nn a h, nn b h, nn c h, nn d h⟩
      · exact absurd h hD
      · exact Or.inr ⟨np a h, np b h, np c h, np d h⟩
  rw [e1, e2, e3, e4] at hs
  rcases hs with ⟨a, b, c, d⟩ | ⟨a, b, c, d⟩
  · have q1 := mul_pos_cases a
    have q2 := mul_pos_cases b
    have q3 := mul_pos_cases c
    have q4 := mul_pos_cases d
    omega
  · have q1 := mul_neg_cases a
    have q2 := mul_neg_cases b
    have q3 := mul_neg_cases c
    have q4 := mul_neg_cases d
    omega
/-- on one line, the frames apart: nothing in common -/
theorem col_apart {a b c d : Pt} (hab : a ≠ b) (hc : orP a b c = 0) (hd : orP a b d = 0) (h : spZ a.1 b.1 c.1 d.1 = false ∨ spZ a.2 b.2 c.2 d.2 = false) : colP a b c d = 0 := by
  apply colP_sep
  rw [ltP_t, ltP_t, ltP_t, ltP_t, ltP_t, ltP_t, ltP_t, ltP_t]
  rcases h with h | h
  · have := (spZ_f _ _ _ _).mp h
    omega
  · have hy := (spZ_f _ _ _ _).mp h
    have e1 : (c.2 - a.2) * (b.1 - a.1) = (c.1 - a.1) * (b.2 - a.2) := by unfold orP at hc; grind
    have e2 : (c.2 - b.2) * (b.1 - a.1) = (c.1 - b.1) * (b.2 - a.2) := by unfold orP at hc; grind
    have e3 : (d.2 - a.2) * (b.1 - a.1) = (d.1 - a.1) * (b.2 - a.2) := by unfold orP at hd; grind
    have e4 : (d.2 - b.2) * (b.1 - a.1) = (d.1 - b.1) * (b.2 - a.2) := by unfold orP at hd; grind
    by_cases hx : b.1 - a.1 = 0
    · have hy2 : b.2 - a.2 ≠ 0 := by
        intro h2
        exact hab (Prod.ext (by omega) (by omega))
      have hcx : c.1 = a.1 := by
        rw [hx, Int.mul_zero] at e1
        rcases Int.mul_eq_zero.mp e1.symm with q | q
        · omega
        · exact absurd q hy2
      have hdx : d.1 = a.1 := by
        rw [hx, Int.mul_zero] at e3
        rcases Int.mul_eq_zero.mp e3.symm with q | q
        · omega
        · exact absurd q hy2
      omega
    · have := sgn4 e1 e2 e3 e4 hx (by omega)
      omega
theorem on_meets {a b v : Pt} (h : onP a b v = true) {c d : Pt} (h2 : v = c ∨ v = d) : spZ a.1 b.1 c.1 d.1 = true ∧ spZ a.2 b.2 c.2 d.2 = true := by
  have hb := ((onP_iff a b v).mp h).2
  unfold boxP at hb
  constructor
  · cases hs : spZ a.1 b.1 c.1 d.1 with
    | true => rfl
    | false =>
      have := (spZ_f _ _ _ _).mp hs
      rcases h2 with rfl | rfl <;> omega
  · cases hs : spZ a.2 b.2 c.2 d.2 with
    | true => rfl
    | false =>
      have := (spZ_f _ _ _ _).mp hs
      rcases h2 with rfl | rfl <;> omega
theorem spZ_comm (a b c d : Int) : spZ c d a b = spZ a b c d := by
  cases h : spZ a b c d with
  | true =>
    cases h2 : spZ c d a b with
    | true => rfl
    | false =>
      have q := (spZ_f _ _ _ _).mp h2
      have : spZ a b c d = false := (spZ_f _ _ _ _).mpr (by omega)
      rw [h] at this; cases this
  | false =>
    have q := (spZ_f _ _ _ _).mp h
    exact (spZ_f _ _ _ _).mpr (by omega)
/-- BOTH WAYS ARE ONE: what the class and the reference say that two segments have in common -/
theorem met_com {a b c d : Pt} (hab : a ≠ b) (hcd : c ≠ d) : metP a b c d = comP a b c d := by
  unfold metP comP
  simp only [sg_mul, sg_lt0, sg_gt0, sg_eq0]
  by_cases h00 : orP a b c = 0 ∧ orP a b d = 0
  · rw [if_pos h00]
    by_cases hs : spZ a.1 b.1 c.1 d.1 = false ∨ spZ a.2 b.2 c.2 d.2 = false
    · rw [if_pos hs, if_pos h00, col_apart hab h00.1 h00.2 hs]
    · rw [if_neg hs, if_pos h00]
  · simp only [if_neg h00]
    have ntch : ∀ {x : Int32}, (onP a b c = false ∧ onP a b d = false ∧ onP c d a = false ∧ onP c d b = false) → (if tchP a b c d = true then x else 0) = 0 := by
      intro x h
      rw [if_neg]
      unfold tchP
      rw [h.1, h.2.1, h.2.2.1, h.2.2.2]
      decide
    by_cases hs : spZ a.1 b.1 c.1 d.1 = false ∨ spZ a.2 b.2 c.2 d.2 = false
    · rw [if_pos hs]
      have hp : ¬ (orP a b c * orP a b d < 0 ∧ orP c d a * orP c d b < 0) := by
        intro h
        have s1 := cross_spans (or_ix a b c d) (or_diff a b c d) h.2 h.1
        have s2 := cross_spans (or_iy a b c d) (or_diff a b c d) h.2 h.1
        rw [s1, s2] at hs
        rcases hs with h | h <;> cases h
      rw [if_neg hp]
      symm
      apply ntch
      have f1 : ∀ x y v z w : Pt, (v = z ∨ v = w) → (spZ x.1 y.1 z.1 w.1 = false ∨ spZ x.2 y.2 z.2 w.2 = false) → onP x y v = false := by
        intro x y v z w hv h5
        cases h6 : onP x y v with
        | false => rfl
        | true =>
          have := on_meets h6 hv
          rw [this.1, this.2] at h5
          rcases h5 with h | h <;> cases h
      have hs2 : spZ c.1 d.1 a.1 b.1 = false ∨ spZ c.2 d.2 a.2 b.2 = false := by rw [spZ_comm a.1 b.1 c.1 d.1, spZ_comm a.2 b.2 c.2 d.2]; exact hs
      exact ⟨f1 a b c c d (Or.inl rfl) hs, f1 a b d c d (Or.inr rfl) hs, f1 c d a a b (Or.inl rfl) hs2, f1 c d b a b (Or.inr rfl) hs2⟩
    · rw [if_neg hs]
      have nz : ∀ x y v : Pt, orP x y v ≠ 0 → onP x y v = false := by
        intro x y v h
        cases h6 : onP x y v with
        | false => rfl
        | true => exact absurd ((onP_iff x y v).mp h6).1 h
      by_cases h1 : 0 < orP a b c * orP a b d
      · rw [if_pos h1, if_neg (by omega)]
        symm
        apply ntch
        have q := mul_pos_cases h1
        have h1' : 0 < orP b a c * orP b a d := by rw [or_swap a b c, or_swap a b d, Int.neg_mul_neg]; exact h1
        exact ⟨nz _ _ _ (by omega), nz _ _ _ (by omega), off_side h1 hcd, off_side h1' hcd⟩
      · rw [if_neg h1]
        by_cases h2 : 0 < orP c d a * orP c d b
        · rw [if_pos h2, if_neg (by omega)]
          symm
          apply ntch
          have q := mul_pos_cases h2
          have h2' : 0 < orP d c a * orP d c b := by rw [or_swap c d a, or_swap c d b, Int.neg_mul_neg]; exact h2
          exact ⟨off_side h2 hab, off_side h2' hab, nz _ _ _ (by omega), nz _ _ _ (by omega)⟩
        · rw [if_neg h2]
          by_cases h3 : orP a b c * orP a b d < 0 ∧ orP c d a * orP c d b < 0
          · rw [if_pos h3, if_pos h3]
          · rw [if_neg h3, if_neg h3, if_pos]
            have d1 := or_diff a b c d
            by_cases hc : orP a b c = 0
            · have := on_mid hc h2 (fun h => h00 ⟨hc, h⟩)
              unfold tchP
              rw [this]; simp
            · by_cases hd : orP a b d = 0
              · have h2' : ¬ 0 < orP d c a * orP d c b := by rw [or_swap c d a, or_swap c d b, Int.neg_mul_neg]; exact h2
                have := on_mid hd h2' hc
                unfold tchP
                rw [this]; simp
              · have h4 : orP a b c * orP a b d < 0 := by
                  rcases Int.lt_trichotomy (orP a b c * orP a b d) 0 with h | h | h
                  · exact h
                  · rcases Int.mul_eq_zero.mp h with h5 | h5
                    · exact absurd h5 hc
                    · exact absurd h5 hd
                  · exact absurd h h1
                have h5 : ¬ orP c d a * orP c d b < 0 := fun h => h3 ⟨h4, h⟩
                have h6 : orP c d a * orP c d b = 0 := by omega
                have q := mul_neg_cases h4
                rcases Int.mul_eq_zero.mp h6 with h7 | h7
                · have := on_mid h7 h1 (by omega)
                  unfold tchP
                  rw [this]; simp
                · have h1' : ¬ 0 < orP b a c * orP b a d := by rw [or_swap a b c, or_swap a b d, Int.neg_mul_neg]; exact h1
                  have := on_mid h7 h1' (by omega)
                  unfold tchP
                  rw [this]; simp
