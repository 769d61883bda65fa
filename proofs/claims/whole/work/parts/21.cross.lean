/-! ===== both ways to tell what two segments have in common are one ===== -/
theorem sg_mul (x y : Int) : sg x * sg y = sg (x * y) := by
  rcases Int.lt_trichotomy x 0 with hx | hx | hx
  · rcases Int.lt_trichotomy y 0 with hy | hy | hy
    · have := Int.mul_pos_of_neg_of_neg hx hy
      unfold sg
      rw [if_pos hx, if_pos hy, if_neg (by omega), if_neg (by omega)]; decide
    · subst hy
      unfold sg
      rw [if_pos hx, Int.mul_zero, if_neg (by omega), if_pos rfl]; decide
    · have := Int.mul_neg_of_neg_of_pos hx hy
      unfold sg
      rw [if_pos hx, if_neg (by omega), if_neg (by omega), if_pos this]; decide
  · subst hx
    unfold sg
    rw [Int.zero_mul]
    simp
  · rcases Int.lt_trichotomy y 0 with hy | hy | hy
    · have := Int.mul_neg_of_pos_of_neg hx hy
      unfold sg
      rw [if_neg (by omega), if_neg (by omega), if_pos hy, if_pos this]; decide
    · subst hy
      unfold sg
      rw [Int.mul_zero]
      simp
    · have := Int.mul_pos hx hy
      unfold sg
      rw [if_neg (by omega), if_neg (by omega), if_neg (by omega), if_neg (by omega), if_neg (by omega), if_neg (by omega)]; decide
theorem pp {a b : Int} (ha : 0 < a) (hb : 0 < b) : 0 < a * b := Int.mul_pos ha hb
theorem pn {a b : Int} (ha : 0 < a) (hb : b < 0) : a * b < 0 := Int.mul_neg_of_pos_of_neg ha hb
theorem np {a b : Int} (ha : a < 0) (hb : 0 < b) : a * b < 0 := Int.mul_neg_of_neg_of_pos ha hb
theorem nn {a b : Int} (ha : a < 0) (hb : b < 0) : 0 < a * b := Int.mul_pos_of_neg_of_neg ha hb
theorem mul_neg_cases {a b : Int} (h : a * b < 0) : (a < 0 ∧ 0 < b) ∨ (0 < a ∧ b < 0) := by
  rcases Int.lt_trichotomy a 0 with ha | ha | ha
  · rcases Int.lt_trichotomy b 0 with hb | hb | hb
    · have := nn ha hb; omega
    · rw [hb, Int.mul_zero] at h; omega
    · exact Or.inl ⟨ha, hb⟩
  · rw [ha, Int.zero_mul] at h; omega
  · rcases Int.lt_trichotomy b 0 with hb | hb | hb
    · exact Or.inr ⟨ha, hb⟩
    · rw [hb, Int.mul_zero] at h; omega
    · have := pp ha hb; omega
theorem mul_pos_cases {a b : Int} (h : 0 < a * b) : (a < 0 ∧ b < 0) ∨ (0 < a ∧ 0 < b) := by
  rcases Int.lt_trichotomy a 0 with ha | ha | ha
  · rcases Int.lt_trichotomy b 0 with hb | hb | hb
    · exact Or.inl ⟨ha, hb⟩
    · rw [hb, Int.mul_zero] at h; omega
    · have := np ha hb; omega
  · rw [ha, Int.zero_mul] at h; omega
  · rcases Int.lt_trichotomy b 0 with hb | hb | hb
    · have := pn ha hb; omega
    · rw [hb, Int.mul_zero] at h; omega
    · exact Or.inr ⟨ha, hb⟩
theorem mul_nonpos_cases {a b : Int} (h : ¬ 0 < a * b) : (a ≤ 0 ∧ 0 ≤ b) ∨ (0 ≤ a ∧ b ≤ 0) := by
  rcases Int.lt_trichotomy a 0 with ha | ha | ha
  · rcases Int.lt_trichotomy b 0 with hb | hb | hb
    · exact absurd (nn ha hb) h
    · omega
    · omega
  · omega
  · rcases Int.lt_trichotomy b 0 with hb | hb | hb
    · omega
    · omega
    · exact absurd (pp ha hb) h
theorem zbet {u v s t : Int} (h : u * s = v * t) (hs : 0 ≤ s) (ht : 0 ≤ t) (hst : 0 < s + t) : (0 ≤ u ∧ 0 ≤ v) ∨ (u ≤ 0 ∧ v ≤ 0) := by
  rcases Int.lt_trichotomy u 0 with hu | hu | hu
  · rcases Int.lt_trichotomy v 0 with hv | hv | hv
    · omega
    · omega
    · have h1 : u * s ≤ 0 := Int.mul_nonpos_of_nonpos_of_nonneg (by omega) hs
      have h2 : 0 ≤ v * t := Int.mul_nonneg (by omega) ht
      have h3 : u * s = 0 := by omega
      have h4 : v * t = 0 := by omega
      rcases Int.mul_eq_zero.mp h3 with h5 | h5
      · omega
      · rcases Int.mul_eq_zero.mp h4 with h6 | h6 <;> omega
  · omega
  · rcases Int.lt_trichotomy v 0 with hv | hv | hv
    · have h1 : 0 ≤ u * s := Int.mul_nonneg (by omega) hs
      have h2 : v * t ≤ 0 := Int.mul_nonpos_of_nonpos_of_nonneg (by omega) ht
      have h3 : u * s = 0 := by omega
      have h4 : v * t = 0 := by omega
      rcases Int.mul_eq_zero.mp h3 with h5 | h5
      · omega
      · rcases Int.mul_eq_zero.mp h4 with h6 | h6 <;> omega
    · omega
    · omega
/-- v lies in the frame of a and b -/
def boxP (a b v : Pt) : Prop := ((a.1 ≤ v.1 ∧ v.1 ≤ b.1) ∨ (b.1 ≤ v.1 ∧ v.1 ≤ a.1)) ∧ ((a.2 ≤ v.2 ∧ v.2 ≤ b.2) ∨ (b.2 ≤ v.2 ∧ v.2 ≤ a.2))
theorem spZ_pt (v a b : Int) : spZ v v a b = true ↔ (a ≤ v ∧ v ≤ b) ∨ (b ≤ v ∧ v ≤ a) := by
  unfold spZ
  rw [decide_eq_true_iff]
  constructor
  · intro h; split at h <;> split at h <;> omega
  · intro h; split <;> split <;> omega
theorem btP_iff (a b v : Pt) : btP a b v = true ↔ ((ltP v a = false ∧ ltP b v = false) ∨ (ltP a v = false ∧ ltP v b = false)) := by
  unfold btP
  rw [decide_eq_true_iff]
  have e1 : ahP a v ≤ 0 ↔ ltP v a = false := by
    rw [← Int32.not_lt, ahP_gt]; simp
  have e2 : ahP v b ≤ 0 ↔ ltP b v = false := by
    rw [← Int32.not_lt, ahP_gt]; simp
  have e3 : 0 ≤ ahP a v ↔ ltP a v = false := by
    rw [← Int32.not_lt, ahP_lt]; simp
  have e4 : 0 ≤ ahP v b ↔ ltP v b = false := by
    rw [← Int32.not_lt, ahP_lt]; simp
  rw [e1, e2, e3, e4]
theorem ltP_f (a b : Pt) : ltP a b = false ↔ b.1 < a.1 ∨ (b.1 = a.1 ∧ b.2 ≤ a.2) := by
  unfold ltP
  rw [decide_eq_false_iff_not]
  omega
theorem ltP_t (a b : Pt) : ltP a b = true ↔ a.1 < b.1 ∨ (a.1 = b.1 ∧ a.2 < b.2) := by
  unfold ltP
  rw [decide_eq_true_iff]
/-- on the line, between by order is in the frame -/
theorem bt_box {a b v : Pt} (h : orP a b v = 0) : btP a b v = true ↔ boxP a b v := by
  rw [btP_iff, ltP_f, ltP_f, ltP_f, ltP_f]
  unfold boxP
  have e1 : (v.2 - a.2) * (b.1 - a.1) = (v.1 - a.1) * (b.2 - a.2) := by unfold orP at h; grind
  have e2 : (b.2 - v.2) * (b.1 - a.1) = (b.1 - v.1) * (b.2 - a.2) := by unfold orP at h; grind
  by_cases hab : a.1 = b.1
  · constructor
    · intro h; omega
    · intro h; omega
  · have key : ((a.1 ≤ v.1 ∧ v.1 ≤ b.1) ∨ (b.1 ≤ v.1 ∧ v.1 ≤ a.1)) → ((a.2 ≤ v.2 ∧ v.2 ≤ b.2) ∨ (b.2 ≤ v.2 ∧ v.2 ≤ a.2)) := by
      intro hx
      rcases Int.lt_trichotomy a.1 b.1 with hl | hl | hl
      · -- D = b.1 - a.1 > 0
        rcases Int.lt_or_le b.2 a.2 with hy | hy
        · have t1 : (v.1 - a.1) * (b.2 - a.2) ≤ 0 := Int.mul_nonpos_of_nonneg_of_nonpos (by omega) (by omega)
          have t2 : (b.1 - v.1) * (b.2 - a.2) ≤ 0 := Int.mul_nonpos_of_nonneg_of_nonpos (by omega) (by omega)
          rw [← e1] at t1; rw [← e2] at t2
          right
          constructor
          · rcases Int.lt_or_le v.2 b.2 with h3 | h3
            · have := pp (show 0 < b.2 - v.2 by omega) (show 0 < b.1 - a.1 by omega); omega
            · exact h3
          · rcases Int.lt_or_le a.2 v.2 with h3 | h3
            · have := pp (show 0 < v.2 - a.2 by omega) (show 0 < b.1 - a.1 by omega); omega
            · exact h3
        · have t1 : 0 ≤ (v.1 - a.1) * (b.2 - a.2) := Int.mul_nonneg (by omega) (by omega)
          have t2 : 0 ≤ (b.1 - v.1) * (b.2 - a.2) := Int.mul_nonneg (by omega) (by omega)
          rw [← e1] at t1; rw [← e2] at t2
          left
          constructor
          · rcases Int.lt_or_le v.2 a.2 with h3 | h3
            · have := np (show v.2 - a.2 < 0 by omega) (show 0 < b.1 - a.1 by omega); omega
            · exact h3
          · rcases Int.lt_or_le b.2 v.2 with h3 | h3
            · have := np (show b.2 - v.2 < 0 by omega) (show 0 < b.1 - a.1 by omega); omega
            · exact h3
      · exact absurd hl hab
      · rcases Int.lt_or_le b.2 a.2 with hy | hy
        · have t1 : 0 ≤ (v.1 - a.1) * (b.2 - a.2) := Int.mul_nonneg_of_nonpos_of_nonpos (by omega) (by omega)
          have t2 : 0 ≤ (b.1 - v.1) * (b.2 - a.2) := Int.mul_nonneg_of_nonpos_of_nonpos (by omega) (by omega)
          rw [← e1] at t1; rw [← e2] at t2
          right
          constructor
          · rcases Int.lt_or_le v.2 b.2 with h3 | h3
            · have := pn (show 0 < b.2 - v.2 by omega) (show b.1 - a.1 < 0 by omega); omega
            · exact h3
          · rcases Int.lt_or_le a.2 v.2 with h3 | h3
            · have := pn (show 0 < v.2 - a.2 by omega) (show b.1 - a.1 < 0 by omega); omega
            · exact h3
        · have t1 : (v.1 - a.1) * (b.2 - a.2) ≤ 0 := Int.mul_nonpos_of_nonpos_of_nonneg (by omega) (by omega)
          have t2 : (b.1 - v.1) * (b.2 - a.2) ≤ 0 := Int.mul_nonpos_of_nonpos_of_nonneg (by omega) (by omega)
          rw [← e1] at t1; rw [← e2] at t2
          left
          constructor
          · rcases Int.lt_or_le v.2 a.2 with h3 | h3
            · have := nn (show v.2 - a.2 < 0 by omega) (show b.1 - a.1 < 0 by omega); omega
            · exact h3
          · rcases Int.lt_or_le b.2 v.2 with h3 | h3
            · have := nn (show b.2 - v.2 < 0 by omega) (show b.1 - a.1 < 0 by omega); omega
            · exact h3
    constructor
    · intro hb
      have hx : (a.1 ≤ v.1 ∧ v.1 ≤ b.1) ∨ (b.1 ≤ v.1 ∧ v.1 ≤ a.1) := by omega
      exact ⟨hx, key hx⟩
    · intro hb
      by_cases q1 : v.1 = a.1
      · have : v.2 = a.2 := by
          have h3 : (v.2 - a.2) * (b.1 - a.1) = 0 := by rw [e1, q1]; simp
          rcases Int.mul_eq_zero.mp h3 with h4 | h4 <;> omega
        omega
      · by_cases q2 : v.1 = b.1
        · have : v.2 = b.2 := by
            have h3 : (b.2 - v.2) * (b.1 - a.1) = 0 := by rw [e2, q2]; simp
            rcases Int.mul_eq_zero.mp h3 with h4 | h4 <;> omega
          omega
        · omega
theorem onQ_onP (v a b : Pt) : onQ v a b = onP a b v := by
  unfold onQ onP
  by_cases h : sg (orP a b v) = 0
  · have h0 := (sg_eq0 _).mp h
    have e := bt_box h0
    rw [decide_eq_true h, Bool.and_true, Bool.true_and]
    apply Bool.eq_iff_iff.mpr
    rw [e, Bool.and_eq_true, spZ_pt, spZ_pt]
    unfold boxP
    exact Iff.rfl
  · rw [decide_eq_false h]; simp
theorem onP_iff (a b v : Pt) : onP a b v = true ↔ orP a b v = 0 ∧ boxP a b v := by
  unfold onP
  rw [Bool.and_eq_true, decide_eq_true_iff, sg_eq0]
  constructor
  · intro h; exact ⟨h.1, (bt_box h.1).mp h.2⟩
  · intro h; exact ⟨h.1, (bt_box h.1).mpr h.2⟩
