theorem com0_comm {a b c d : Pt} (hab : a ≠ b) (hcd : c ≠ d) (h : comP a b c d = 0) : comP c d a b = 0 := by
  unfold comP at h ⊢
  simp only [sg_mul, sg_lt0, sg_gt0, sg_eq0] at h ⊢
  by_cases hn : orP a b c = 0 ∧ orP a b d = 0
  · rw [if_pos hn] at h
    have hz := par_zero hab hn.1 hn.2
    rw [if_pos hz]
    have hf := col_frames hab hn.1 hn.2 h
    exact col_apart hcd hz.1 hz.2 (by rw [spZ_comm a.1 b.1 c.1 d.1, spZ_comm a.2 b.2 c.2 d.2]; exact hf)
  · rw [if_neg hn] at h
    have hm : ¬ (orP c d a = 0 ∧ orP c d b = 0) := fun hz => hn (par_zero hcd hz.1 hz.2)
    rw [if_neg hm]
    by_cases h3 : orP a b c * orP a b d < 0 ∧ orP c d a * orP c d b < 0
    · rw [if_pos h3] at h; exact absurd h (by decide)
    · rw [if_neg h3] at h
      rw [if_neg (fun q => h3 ⟨q.2, q.1⟩)]
      by_cases ht : tchP a b c d = true
      · rw [if_pos ht] at h; exact absurd h (by decide)
      · rw [if_neg]
        intro ht2
        apply ht
        unfold tchP at ht2 ⊢
        simp only [Bool.or_eq_true] at ht2 ⊢
        rcases ht2 with ((q | q) | q) | q
        · exact Or.inl (Or.inr q)
        · exact Or.inr q
        · exact Or.inl (Or.inl (Or.inl q))
        · exact Or.inl (Or.inl (Or.inr q))
/-- b lies ahead of a on the way from u through a, or to the side -/
def goes (u a b : Pt) : Prop := orP u a b ≠ 0 ∨ (0 < (a.1 - u.1) * (b.1 - a.1) ∨ 0 < (a.2 - u.2) * (b.2 - a.2))
/-- two edges that follow one another and have but their corner in common -/
theorem goes_of {u a b : Pt} (hua : u ≠ a) (hab : a ≠ b) (h : comP u a a b = 2) : goes u a b := by
  by_cases h0 : orP u a b = 0
  · right
    have ha : orP u a a = 0 := by unfold orP; grind
    have hcol : colP u a a b = 2 := by
      unfold comP at h
      simp only [sg_eq0] at h
      rwa [if_pos ⟨ha, h0⟩] at h
    have tot : ∀ x y : Pt, x ≠ y → ltP x y = true ∨ ltP y x = true := by
      intro x y hxy
      rw [ltP_t, ltP_t]
      by_cases q : x.1 = y.1
      · have : x.2 ≠ y.2 := fun q2 => hxy (Prod.ext q q2)
        omega
      · omega
    have asym : ∀ x y : Pt, ltP x y = true → ltP y x = false := by
      intro x y h1
      rw [ltP_t] at h1
      rw [ltP_f]
      omega
    have irr : ∀ x : Pt, ltP x x = false := by
      intro x
      rw [ltP_f]; omega
    have dirs : (ltP u a = true ∧ ltP a b = true) ∨ (ltP a u = true ∧ ltP b a = true) := by
      rcases tot u a hua with p | p
      · rcases tot a b hab with q | q
        · exact Or.inl ⟨p, q⟩
        · exfalso
          have p' := asym _ _ p
          have q' := asym _ _ q
          rw [colP_lt, colF_lt, colL_lt] at hcol
          simp only [mnP_lt, mxP_lt, p, q', if_true, Bool.false_eq_true, if_false, irr] at hcol
          by_cases r : ltP u b = true
          · simp [r, q] at hcol
          · simp [r, p] at hcol
      · rcases tot a b hab with q | q
        · exfalso
          have p' := asym _ _ p
          have q' := asym _ _ q
          rw [colP_lt, colF_lt, colL_lt] at hcol
          simp only [mnP_lt, mxP_lt, p', q, if_true, Bool.false_eq_true, if_false, irr] at hcol
          by_cases r : ltP u b = true
          · simp [r, p] at hcol
          · simp [r, q] at hcol
        · exact Or.inr ⟨p, q⟩
    have e1 : (a.1 - u.1) * (b.2 - a.2) = (a.2 - u.2) * (b.1 - a.1) := by unfold orP at h0; grind
    simp only [ltP_t] at dirs
    rcases dirs with ⟨p, q⟩ | ⟨p, q⟩
    · rcases p with p | ⟨p1, p2⟩
      · rcases q with q | ⟨q1, q2⟩
        · exact Or.inl (pp (by omega) (by omega))
        · have := pp (show 0 < a.1 - u.1 by omega) (show 0 < b.2 - a.2 by omega)
          rw [show b.1 - a.1 = 0 by omega, Int.mul_zero] at e1
          omega
      · rcases q with q | ⟨q1, q2⟩
        · have := pp (show 0 < a.2 - u.2 by omega) (show 0 < b.1 - a.1 by omega)
          rw [show a.1 - u.1 = 0 by omega, Int.zero_mul] at e1
          omega
        · exact Or.inr (pp (by omega) (by omega))
    · rcases p with p | ⟨p1, p2⟩
      · rcases q with q | ⟨q1, q2⟩
        · exact Or.inl (nn (by omega) (by omega))
        · have := nn (show a.1 - u.1 < 0 by omega) (show b.2 - a.2 < 0 by omega)
          rw [show b.1 - a.1 = 0 by omega, Int.mul_zero] at e1
          omega
      · rcases q with q | ⟨q1, q2⟩
        · have := nn (show a.2 - u.2 < 0 by omega) (show b.1 - a.1 < 0 by omega)
          rw [show a.1 - u.1 = 0 by omega, Int.zero_mul] at e1
          omega
        · exact Or.inr (nn (by omega) (by omega))
  · exact Or.inl h0
/-- straight on: what is left of the one edge is left of the other -/
theorem straight_left {u a b d : Pt} (h0 : orP u a b = 0) (hg : goes u a b) : 0 < cr (dl u a) d ↔ 0 < cr (dl a b) d := by
  have hg := hg.resolve_left (fun h => h h0)
  have e1 : cr (dl u a) d * (b.1 - a.1) = (a.1 - u.1) * cr (dl a b) d := by unfold orP at h0; unfold cr dl; grind
  have e2 : cr (dl u a) d * (b.2 - a.2) = (a.2 - u.2) * cr (dl a b) d := by unfold orP at h0; unfold cr dl; grind
  have key : ∀ X Y p q : Int, X * q = p * Y → 0 < p * q → (0 < X ↔ 0 < Y) := by
    intro X Y p q e h
    rcases mul_pos_cases h with ⟨h1, h2⟩ | ⟨h1, h2⟩
    · constructor
      · intro hX
        have := pn hX h2
        rw [e] at this
        rcases mul_neg_cases this with q | q <;> omega
      · intro hY
        have := np h1 hY
        rw [← e] at this
        rcases mul_neg_cases this with q | q <;> omega
    · constructor
      · intro hX
        have := pp hX h2
        rw [e] at this
        rcases mul_pos_cases this with q | q <;> omega
      · intro hY
        have := pp h1 hY
        rw [← e] at this
        rcases mul_pos_cases this with q | q <;> omega
  rcases hg with h | h
  · exact key _ _ _ _ e1 h
  · exact key _ _ _ _ e2 h
/-- a way that leads to the left of both edges at a corner -/
theorem left_way {M : Int} {u a b : Pt} (hM : 0 < M) (hu : bdd M u) (ha : bdd M a) (hb : bdd M b) (hua : u ≠ a) (hab : a ≠ b) (hg : goes u a b) : ∃ d : Pt, bdd (64 * (M * M * M)) d ∧ 0 < cr (dl u a) d ∧ 0 < cr (dl a b) d := by
  obtain ⟨ex, hex⟩ : ∃ x, x = a.1 - u.1 := ⟨_, rfl⟩
  obtain ⟨ey, hey⟩ : ∃ x, x = a.2 - u.2 := ⟨_, rfl⟩
  obtain ⟨fx, hfx⟩ : ∃ x, x = b.1 - a.1 := ⟨_, rfl⟩
  obtain ⟨fy, hfy⟩ : ∃ x, x = b.2 - a.2 := ⟨_, rfl⟩
  obtain ⟨t, ht⟩ : ∃ x, x = ex * fx + ey * fy := ⟨_, rfl⟩
  obtain ⟨A, hA⟩ : ∃ x, x = ex * ex + ey * ey := ⟨_, rfl⟩
  obtain ⟨B, hB⟩ : ∃ x, x = fx * fx + fy * fy := ⟨_, rfl⟩
  obtain ⟨k, hk⟩ : ∃ x, x = ex * fy - ey * fx := ⟨_, rfl⟩
  have bex : -(2 * M) ≤ ex ∧ ex ≤ 2 * M := by unfold bdd at *; omega
  have bey : -(2 * M) ≤ ey ∧ ey ≤ 2 * M := by unfold bdd at *; omega
  have bfx : -(2 * M) ≤ fx ∧ fx ≤ 2 * M := by unfold bdd at *; omega
  have bfy : -(2 * M) ≤ fy ∧ fy ≤ 2 * M := by unfold bdd at *; omega
  have sq : ∀ x : Int, 0 ≤ x * x := fun x => by
    rcases Int.lt_or_le x 0 with h | h
    · exact Int.le_of_lt (nn h h)
    · exact m_nn h h
  have hApos : 0 < A := by
    have s1 := sq ex
    have s2 := sq ey
    by_cases h1 : ex = 0
    · by_cases h2 : ey = 0
      · exact absurd (Prod.ext (by omega) (by omega)) hua
      · have : 0 < ey * ey := by rcases Int.lt_or_le ey 0 with h | h; exact nn h h; exact pp (by omega) (by omega)
        omega
    · have : 0 < ex * ex := by rcases Int.lt_or_le ex 0 with h | h; exact nn h h; exact pp (by omega) (by omega)
      omega
  have hBpos : 0 < B := by
    have s1 := sq fx
    have s2 := sq fy
    by_cases h1 : fx = 0
    · by_cases h2 : fy = 0
      · exact absurd (Prod.ext (by omega) (by omega)) hab
      · have : 0 < fy * fy := by rcases Int.lt_or_le fy 0 with h | h; exact nn h h; exact pp (by omega) (by omega)
        omega
    · have : 0 < fx * fx := by rcases Int.lt_or_le fx 0 with h | h; exact nn h h; exact pp (by omega) (by omega)
      omega
  have hid : A * B - t * t = k * k := by rw [hA, hB, ht, hk]; grind
  have hkt : k ≠ 0 ∨ 0 < t := by
    rcases hg with h | h
    · left
      have : orP u a b = k := by rw [hk, hex, hey, hfx, hfy]; unfold orP; grind
      rw [this] at h
      exact h
    · by_cases hk0 : k = 0
      · right
        have e0 : ex * fy = ey * fx := by omega
        rcases h with h | h
        · have h : 0 < ex * fx := by rw [hex, hfx]; exact h
          have hp : 0 ≤ ey * fy := by
            have e : (ey * fy) * (ex * fx) = (ey * fx) * (ey * fx) := by rw [← e0]; rw [show ey * fy * (ex * fx) = (ex * fy) * (ey * fx) by grind, e0]
            have s1 := sq (ey * fx)
            rw [← e] at s1
            rcases Int.lt_or_le (ey * fy) 0 with q | q
            · have := np q h; omega
            · exact q
          omega
        · have h : 0 < ey * fy := by rw [hey, hfy]; exact h
          have hp : 0 ≤ ex * fx := by
            have e : (ex * fx) * (ey * fy) = (ey * fx) * (ey * fx) := by rw [show ex * fx * (ey * fy) = (ex * fy) * (ey * fx) by grind, e0]
            have s1 := sq (ey * fx)
            rw [← e] at s1
            rcases Int.lt_or_le (ex * fx) 0 with q | q
            · have := np q h; omega
            · exact q
          omega
      · exact Or.inl hk0
  have bA : 0 ≤ A ∧ A ≤ 8 * (M * M) := by
    have w1 := mulB bex bex
    have w2 := mulB bey bey
    rw [show 2 * M * (2 * M) = 4 * (M * M) by grind] at w1 w2
    omega
  have bB : 0 ≤ B ∧ B ≤ 8 * (M * M) := by
    have w1 := mulB bfx bfx
    have w2 := mulB bfy bfy
    rw [show 2 * M * (2 * M) = 4 * (M * M) by grind] at w1 w2
    omega
  have bt : -(8 * (M * M)) ≤ t ∧ t ≤ 8 * (M * M) := by
    have w1 := mulB bex bfx
    have w2 := mulB bey bfy
    rw [show 2 * M * (2 * M) = 4 * (M * M) by grind] at w1 w2
    omega
  obtain ⟨τ, hτ⟩ : ∃ x : Int, x = (t.natAbs : Int) := ⟨_, rfl⟩
  have bl : -(16 * (M * M)) ≤ B + τ ∧ B + τ ≤ 16 * (M * M) := by omega
  have bm : -(16 * (M * M)) ≤ A + τ ∧ A + τ ≤ 16 * (M * M) := by omega
  have e3 : 16 * (M * M) * (2 * M) = 32 * (M * M * M) := by grind
  have hAB := pp hApos hBpos
  have hkk := sq k
  have pos : 0 < A * B + t * τ ∧ 0 ≤ A * (τ + t) ∧ 0 ≤ B * (τ + t) := by
    refine ⟨?_, m_nn bA.1 (by omega), m_nn bB.1 (by omega)⟩
    rcases Int.lt_or_le t 0 with h | h
    · have : τ = -t := by omega
      rw [this, Int.mul_neg]
      have hk0 : k ≠ 0 := hkt.resolve_right (by omega)
      have : 0 < k * k := by rcases Int.lt_or_le k 0 with h | h; exact nn h h; exact pp (by omega) (by omega)
      omega
    · have := m_nn h (show 0 ≤ τ by omega)
      omega
  refine ⟨((B + τ) * (-ey) + (A + τ) * (-fy), (B + τ) * ex + (A + τ) * fx), ?_, ?_, ?_⟩
  · have w1 := mulB bl (show -(2 * M) ≤ -ey ∧ -ey ≤ 2 * M by omega)
    have w2 := mulB bm (show -(2 * M) ≤ -fy ∧ -fy ≤ 2 * M by omega)
    have w3 := mulB bl bex
    have w4 := mulB bm bfx
    rw [e3] at w1 w2 w3 w4
    unfold bdd
    dsimp only
    omega
  · have e : cr (dl u a) ((B + τ) * (-ey) + (A + τ) * (-fy), (B + τ) * ex + (A + τ) * fx) = (A * B + t * τ) + A * (τ + t) := by
      unfold cr dl
      dsimp only
      rw [← hex, ← hey, hA, ht]
      grind
    rw [e]; omega
  · have e : cr (dl a b) ((B + τ) * (-ey) + (A + τ) * (-fy), (B + τ) * ex + (A + τ) * fx) = (A * B + t * τ) + B * (τ + t) := by
      unfold cr dl
      dsimp only
      rw [← hfx, ← hfy, hB, ht]
      grind
    rw [e]; omega
