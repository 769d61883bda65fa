/-! ===== the winding of a ring about a point: a step that meets no edge leaves it, a step across an edge changes it by one ===== -/
/-- where an edge a b passes the ray from c to the right: upwards 1, downwards -1 -/
def chi (a b c : Pt) : Int := if a.2 ≤ c.2 ∧ c.2 < b.2 ∧ 0 < orP a b c then 1 else if c.2 < a.2 ∧ b.2 ≤ c.2 ∧ orP a b c < 0 then -1 else 0
/-- p stands to the right of c d, above c and not above d -/
def phi (c d p : Pt) : Int := if c.2 < p.2 ∧ p.2 ≤ d.2 ∧ orP c d p < 0 then 1 else 0
theorem or_j1 (a b c d : Pt) : orP c d b * (a.2 - c.2) - orP c d a * (b.2 - c.2) = orP a b c * (d.2 - c.2) := by unfold orP; grind
theorem or_j2 (a b c d : Pt) : orP c d b * (a.2 - d.2) - orP c d a * (b.2 - d.2) = orP a b d * (d.2 - c.2) := by unfold orP; grind
/-- what has nothing in common lies to one side -/
theorem com_side {a b c d : Pt} (h : comP a b c d = 0) (hn : ¬ (orP a b c = 0 ∧ orP a b d = 0)) : 0 < orP a b c * orP a b d ∨ 0 < orP c d a * orP c d b := by
  by_cases h1 : 0 < orP a b c * orP a b d
  · exact Or.inl h1
  · by_cases h2 : 0 < orP c d a * orP c d b
    · exact Or.inr h2
    · exfalso
      unfold comP at h
      simp only [sg_mul, sg_lt0, sg_gt0, sg_eq0] at h
      rw [if_neg hn] at h
      by_cases h3 : orP a b c * orP a b d < 0 ∧ orP c d a * orP c d b < 0
      · rw [if_pos h3] at h; exact absurd h (by decide)
      · rw [if_neg h3] at h
        have ht : tchP a b c d = true := by
          have d1 := or_diff a b c d
          by_cases hc : orP a b c = 0
          · have := on_mid hc h2 (fun h => hn ⟨hc, h⟩)
            unfold tchP
            rw [this]; simp
          · by_cases hd : orP a b d = 0
            · have h2' : ¬ 0 < orP d c a * orP d c b := by rw [or_swap c d a, or_swap c d b, Int.neg_mul_neg]; exact h2
              have := on_mid hd h2' hc
              unfold tchP
              rw [this]; simp
            · have h4 : orP a b c * orP a b d < 0 := by
                rcases Int.lt_trichotomy (orP a b c * orP a b d) 0 with h | h | h
                · exact h
                · rcases Int.mul_eq_zero.mp h with h5 | h5
                  · exact absurd h5 hc
                  · exact absurd h5 hd
                · exact absurd h h1
              have h6 : orP c d a * orP c d b = 0 := by
                have h5 : ¬ orP c d a * orP c d b < 0 := fun h => h3 ⟨h4, h⟩
                omega
              have q := mul_neg_cases h4
              rcases Int.mul_eq_zero.mp h6 with h7 | h7
              · have := on_mid h7 h1 (by omega)
                unfold tchP
                rw [this]; simp
              · have h1' : ¬ 0 < orP b a c * orP b a d := by rw [or_swap a b c, or_swap a b d, Int.neg_mul_neg]; exact h1
                have := on_mid h7 h1' (by omega)
                unfold tchP
                rw [this]; simp
        rw [if_pos ht] at h
        exact absurd h (by decide)
theorem m_nn {a b : Int} (ha : 0 ≤ a) (hb : 0 ≤ b) : 0 ≤ a * b := Int.mul_nonneg ha hb
theorem m_pz {a b : Int} (ha : 0 ≤ a) (hb : b ≤ 0) : a * b ≤ 0 := Int.mul_nonpos_of_nonneg_of_nonpos ha hb
theorem m_zp {a b : Int} (ha : a ≤ 0) (hb : 0 ≤ b) : a * b ≤ 0 := Int.mul_nonpos_of_nonpos_of_nonneg ha hb
theorem m_zz {a b : Int} (ha : a ≤ 0) (hb : b ≤ 0) : 0 ≤ a * b := Int.mul_nonneg_of_nonpos_of_nonpos ha hb
/-- the signs, without the points: the step goes up -/
theorem step_signs {α β γ δ p q H : Int} (j1 : β * p - α * q = γ * H) (j2 : β * (p - H) - α * (q - H) = δ * H) (E : (γ = 0 ∧ δ = 0) ∨ 0 < γ * δ ∨ 0 < α * β) (hH : 0 ≤ H) :
    (p ≤ 0 → 0 < q → q ≤ H → (0 < γ ↔ β < 0) ∨ (γ = 0 ∧ δ = 0)) ∧ (p ≤ 0 → H < q → (0 < γ ↔ 0 < δ)) ∧ (0 < p → p ≤ H → H < q → (0 < δ ↔ α < 0) ∨ (γ = 0 ∧ δ = 0)) ∧ (0 < p → p ≤ H → 0 < q → q ≤ H → (α < 0 ↔ β < 0) ∨ (γ = 0 ∧ δ = 0)) := by
  have no : ∀ {x y : Int}, x ≤ 0 → 0 ≤ y → ¬ 0 < x * y := fun hx hy h => by have := m_zp hx hy; omega
  have no' : ∀ {x y : Int}, 0 ≤ x → y ≤ 0 → ¬ 0 < x * y := fun hx hy h => by have := m_pz hx hy; omega
  refine ⟨fun hp hq hqH => ?_, fun hp hq => ?_, fun hp hpH hq => ?_, fun hp hpH hq hqH => ?_⟩
  · rcases E with E | E
    · exact Or.inr E
    · left
      constructor
      · intro hg
        rcases Int.lt_or_le β 0 with h | h
        · exact h
        · exfalso
          have u1 := m_pz h hp
          have hgH := pp hg (show 0 < H by omega)
          have ha : α < 0 := by
            rcases Int.lt_or_le α 0 with h2 | h2
            · exact h2
            · have := m_nn h2 (Int.le_of_lt hq); omega
          have u2 := m_pz h (show p - H ≤ 0 by omega)
          have u3 := m_zz (Int.le_of_lt ha) (show q - H ≤ 0 by omega)
          have hd : δ ≤ 0 := by
            rcases Int.lt_or_le 0 δ with h2 | h2
            · have := pp h2 (show 0 < H by omega); omega
            · exact h2
          rcases E with E | E
          · exact no' (Int.le_of_lt hg) hd E
          · exact no (Int.le_of_lt ha) h E
      · intro hb
        rcases Int.lt_or_le 0 γ with h | h
        · exact h
        · exfalso
          have u1 := m_zz (Int.le_of_lt hb) hp
          have hgH := m_zp h hH
          have ha : 0 ≤ α := by
            rcases Int.lt_or_le α 0 with h2 | h2
            · have := np h2 hq; omega
            · exact h2
          have u2 := nn hb (show p - H < 0 by omega)
          have u3 := m_pz ha (show q - H ≤ 0 by omega)
          have hd : 0 < δ := by
            rcases Int.lt_or_le 0 δ with h2 | h2
            · exact h2
            · have := m_zp h2 hH; omega
          rcases E with E | E
          · exact no h (Int.le_of_lt hd) E
          · exact no' ha (Int.le_of_lt hb) E
  · rcases E with E | E
    · rw [E.1, E.2]
    · have same : 0 < α * β → (0 < α ∧ 0 < β) ∨ (α < 0 ∧ β < 0) := fun h => by rcases mul_pos_cases h with q | q <;> omega
      constructor
      · intro hg
        rcases Int.lt_or_le 0 δ with h | h
        · exact h
        · exfalso
          rcases E with E | E
          · exact no' (Int.le_of_lt hg) h E
          · rcases same E with ⟨a1, b1⟩ | ⟨a1, b1⟩
            · have w1 := m_pz (Int.le_of_lt b1) hp
              have w2 := pp a1 (show 0 < q by omega)
              have w3 := m_nn (Int.le_of_lt hg) hH
              omega
            · have w1 := m_zz (Int.le_of_lt b1) (show p - H ≤ 0 by omega)
              have w2 := np a1 (show 0 < q - H by omega)
              have w3 := m_zp h hH
              omega
      · intro hd
        rcases Int.lt_or_le 0 γ with h | h
        · exact h
        · exfalso
          rcases E with E | E
          · exact no h (Int.le_of_lt hd) E
          · rcases same E with ⟨a1, b1⟩ | ⟨a1, b1⟩
            · have w1 := m_pz (Int.le_of_lt b1) (show p - H ≤ 0 by omega)
              have w2 := pp a1 (show 0 < q - H by omega)
              have w3 := m_nn (Int.le_of_lt hd) hH
              omega
            · have w1 := m_zz (Int.le_of_lt b1) hp
              have w2 := np a1 (show 0 < q by omega)
              have w3 := m_zp h hH
              omega
  · rcases E with E | E
    · exact Or.inr E
    · left
      constructor
      · intro hd
        rcases Int.lt_or_le α 0 with h | h
        · exact h
        · exfalso
          have hdH := pp hd (show 0 < H by omega)
          have w2 := m_nn h (show 0 ≤ q - H by omega)
          have hb : β < 0 := by
            rcases Int.lt_or_le β 0 with h2 | h2
            · exact h2
            · have := m_pz h2 (show p - H ≤ 0 by omega); omega
          have w3 := np hb hp
          have w4 := m_nn h (show 0 ≤ q by omega)
          have hg : γ < 0 := by
            rcases Int.lt_or_le γ 0 with h2 | h2
            · exact h2
            · have := m_nn h2 hH; omega
          rcases E with E | E
          · exact no (Int.le_of_lt hg) (Int.le_of_lt hd) E
          · exact no' h (Int.le_of_lt hb) E
      · intro ha
        rcases Int.lt_or_le 0 δ with h | h
        · exact h
        · exfalso
          have hdH := m_zp h hH
          have w2 := np ha (show 0 < q - H by omega)
          have hb : 0 < β := by
            rcases Int.lt_or_le 0 β with h2 | h2
            · exact h2
            · have := m_zz h2 (show p - H ≤ 0 by omega); omega
          have w3 := pp hb hp
          have w4 := np ha (show 0 < q by omega)
          have hg : 0 < γ := by
            rcases Int.lt_or_le 0 γ with h2 | h2
            · exact h2
            · have := m_zp h2 hH; omega
          rcases E with E | E
          · exact no' (Int.le_of_lt hg) h E
          · exact no (Int.le_of_lt ha) (Int.le_of_lt hb) E
  · rcases E with E | E
    · exact Or.inr E
    · left
      constructor
      · intro ha
        rcases Int.lt_or_le β 0 with h | h
        · exact h
        · exfalso
          have w1 := m_nn h (Int.le_of_lt hp)
          have w2 := np ha hq
          have hg : 0 < γ := by
            rcases Int.lt_or_le 0 γ with h2 | h2
            · exact h2
            · have := m_zp h2 hH; omega
          have w3 := m_pz h (show p - H ≤ 0 by omega)
          have w4 := m_zz (Int.le_of_lt ha) (show q - H ≤ 0 by omega)
          have hd : δ ≤ 0 := by
            rcases Int.lt_or_le 0 δ with h2 | h2
            · have := pp h2 (show 0 < H by omega); omega
            · exact h2
          rcases E with E | E
          · exact no' (Int.le_of_lt hg) hd E
          · exact no (Int.le_of_lt ha) h E
      · intro hb
        rcases Int.lt_or_le α 0 with h | h
        · exact h
        · exfalso
          have w1 := np hb hp
          have w2 := m_nn h (Int.le_of_lt hq)
          have hg : γ < 0 := by
            rcases Int.lt_or_le γ 0 with h2 | h2
            · exact h2
            · have := m_nn h2 hH; omega
          have w3 := m_zz (Int.le_of_lt hb) (show p - H ≤ 0 by omega)
          have w4 := m_pz h (show q - H ≤ 0 by omega)
          have hd : 0 ≤ δ := by
            rcases Int.lt_or_le δ 0 with h2 | h2
            · have := np h2 (show 0 < H by omega); omega
            · exact h2
          rcases E with E | E
          · exact no (Int.le_of_lt hg) hd E
          · exact no' h (Int.le_of_lt hb) E
