theorem par_zero {a b c d : Pt} (hab : a ≠ b) (h1 : orP a b c = 0) (h2 : orP a b d = 0) : orP c d a = 0 ∧ orP c d b = 0 := by
  have x1 := or_wx c d a b
  have y1 := or_wy c d a b
  rw [h1, h2] at x1 y1
  have d1 := or_diff a b c d
  rw [h1, h2] at d1
  have ha : orP c d a = 0 := by
    have q1 : (b.1 - a.1) * orP c d a = 0 := by rw [Int.neg_mul] at x1; omega
    have q2 : (b.2 - a.2) * orP c d a = 0 := by rw [Int.neg_mul] at y1; omega
    rcases Int.mul_eq_zero.mp q1 with r1 | r1
    · rcases Int.mul_eq_zero.mp q2 with r2 | r2
      · exact absurd (Prod.ext (by omega) (by omega)) hab
      · exact r2
    · exact r1
  omega
/-- the step c d keeps clear of the edge a b -/
def clr (a b c d : Pt) : Prop := (orP a b c = 0 ∧ orP a b d = 0) ∨ 0 < orP a b c * orP a b d ∨ 0 < orP c d a * orP c d b
theorem clr_com {a b c d : Pt} (h : comP a b c d = 0) : clr a b c d := by
  by_cases hn : orP a b c = 0 ∧ orP a b d = 0
  · exact Or.inl hn
  · exact Or.inr (com_side h hn)
theorem clr_flip {a b c d : Pt} (h : clr a b c d) : clr a b d c := by
  rcases h with h | h | h
  · exact Or.inl ⟨h.2, h.1⟩
  · exact Or.inr (Or.inl (by rw [Int.mul_comm]; exact h))
  · exact Or.inr (Or.inr (by rw [or_swap c d a, or_swap c d b, Int.neg_mul_neg]; exact h))
theorem clr_rev {a b c d : Pt} (h : clr a b c d) : clr b a c d := by
  rcases h with h | h | h
  · exact Or.inl ⟨by rw [or_swap a b c, h.1]; rfl, by rw [or_swap a b d, h.2]; rfl⟩
  · exact Or.inr (Or.inl (by rw [or_swap a b c, or_swap a b d, Int.neg_mul_neg]; exact h))
  · exact Or.inr (Or.inr (by rw [Int.mul_comm]; exact h))
/-- a step c d, going up or level, that meets nothing of the edge a b -/
theorem chi_step {a b c d : Pt} (hab : a ≠ b) (hcd : c.2 ≤ d.2) (E : clr a b c d) : chi a b c - chi a b d = phi c d b - phi c d a := by
  have j1 := or_j1 a b c d
  have j2 := or_j2 a b c d
  unfold clr at E
  have Z : orP a b c = 0 ∧ orP a b d = 0 → orP c d a = 0 ∧ orP c d b = 0 := fun hz => par_zero hab hz.1 hz.2
  unfold chi phi
  generalize orP a b c = γ at *
  generalize orP a b d = δ at *
  generalize orP c d a = α at *
  generalize orP c d b = β at *
  have up := step_signs (α := α) (β := β) (γ := γ) (δ := δ) (p := a.2 - c.2) (q := b.2 - c.2) (H := d.2 - c.2) j1 (by rw [show a.2 - c.2 - (d.2 - c.2) = a.2 - d.2 by omega, show b.2 - c.2 - (d.2 - c.2) = b.2 - d.2 by omega]; exact j2) E (by omega)
  have dn := step_signs (α := β) (β := α) (γ := -γ) (δ := -δ) (p := b.2 - c.2) (q := a.2 - c.2) (H := d.2 - c.2) (by rw [Int.neg_mul]; omega) (by rw [show a.2 - c.2 - (d.2 - c.2) = a.2 - d.2 by omega, show b.2 - c.2 - (d.2 - c.2) = b.2 - d.2 by omega, Int.neg_mul]; omega) (by
    rcases E with E | E | E
    · exact Or.inl ⟨by omega, by omega⟩
    · exact Or.inr (Or.inl (by rw [Int.neg_mul_neg]; exact E))
    · exact Or.inr (Or.inr (by rw [Int.mul_comm]; exact E))) (by omega)
  obtain ⟨u1, u2, u3, u4⟩ := up
  obtain ⟨v1, v2, v3, v4⟩ := dn
  by_cases hz : γ = 0 ∧ δ = 0
  · obtain ⟨z1, z2⟩ := Z hz
    obtain ⟨rfl, rfl⟩ := hz
    subst z1; subst z2
    simp
  · have n0 : ∀ {P : Prop}, P ∨ (γ = 0 ∧ δ = 0) → P := fun h => h.resolve_right hz
    have n1 : ∀ {P : Prop}, P ∨ (-γ = 0 ∧ -δ = 0) → P := fun h => h.resolve_right (fun h2 => hz ⟨by omega, by omega⟩)
    have la : a.2 ≤ c.2 ∨ (c.2 < a.2 ∧ a.2 ≤ d.2) ∨ d.2 < a.2 := by omega
    have lb : b.2 ≤ c.2 ∨ (c.2 < b.2 ∧ b.2 ≤ d.2) ∨ d.2 < b.2 := by omega
    clear j1 j2 E Z
    rcases la with la | la | la <;> rcases lb with lb | lb | lb
    · clear u1 u2 u3 u4 v1 v2 v3 v4
      repeat' split
      all_goals omega
    · have f := n0 (u1 (by omega) (by omega) (by omega))
      clear u1 u2 u3 u4 v1 v2 v3 v4
      repeat' split
      all_goals omega
    · have f := u2 (by omega) (by omega)
      clear u1 u2 u3 u4 v1 v2 v3 v4
      repeat' split
      all_goals omega
    · have f := n1 (v1 (by omega) (by omega) (by omega))
      clear u1 u2 u3 u4 v1 v2 v3 v4
      repeat' split
      all_goals omega
    · have f := n0 (u4 (by omega) (by omega) (by omega) (by omega))
      clear u1 u2 u3 u4 v1 v2 v3 v4
      repeat' split
      all_goals omega
    · have f := n0 (u3 (by omega) (by omega) (by omega))
      clear u1 u2 u3 u4 v1 v2 v3 v4
      repeat' split
      all_goals omega
    · have f := v2 (by omega) (by omega)
      clear u1 u2 u3 u4 v1 v2 v3 v4
      repeat' split
      all_goals omega
    · have f := n1 (v3 (by omega) (by omega) (by omega))
      clear u1 u2 u3 u4 v1 v2 v3 v4
      repeat' split
      all_goals omega
    · clear u1 u2 u3 u4 v1 v2 v3 v4
      repeat' split
      all_goals omega
/-- a step from the left of the edge a b across it to its right, going up or level -/
theorem chi_cross {a b c d : Pt} (hcd : c.2 ≤ d.2) (h1 : 0 < orP a b c) (h2 : orP a b d < 0) (h3 : orP c d a * orP c d b < 0) : chi a b c - chi a b d = phi c d b - phi c d a + 1 := by
  have j1 := or_j1 a b c d
  have j2 := or_j2 a b c d
  have d1 := or_diff a b c d
  have hs : orP c d a < 0 ∧ 0 < orP c d b := by rcases mul_neg_cases h3 with q | q <;> omega
  have flat : a.2 = c.2 → b.2 = c.2 → d.2 = c.2 → orP a b c = 0 := by
    intro e1 e2 e3
    unfold orP
    rw [e1, e2]
    simp
  unfold chi phi
  generalize orP a b c = γ at *
  generalize orP a b d = δ at *
  generalize orP c d a = α at *
  generalize orP c d b = β at *
  obtain ⟨ha, hb⟩ := hs
  have la : a.2 ≤ c.2 ∨ (c.2 < a.2 ∧ a.2 ≤ d.2) ∨ d.2 < a.2 := by omega
  have lb : b.2 ≤ c.2 ∨ (c.2 < b.2 ∧ b.2 ≤ d.2) ∨ d.2 < b.2 := by omega
  have no00 : ¬ (a.2 ≤ c.2 ∧ b.2 ≤ c.2) := by
    rintro ⟨p, q⟩
    have w1 := m_pz (Int.le_of_lt hb) (show a.2 - c.2 ≤ 0 by omega)
    have w2 := m_zz (Int.le_of_lt ha) (show b.2 - c.2 ≤ 0 by omega)
    have w3 := m_nn (Int.le_of_lt h1) (show 0 ≤ d.2 - c.2 by omega)
    have w4 : β * (a.2 - c.2) = 0 := by omega
    have w5 : α * (b.2 - c.2) = 0 := by omega
    have w6 : γ * (d.2 - c.2) = 0 := by omega
    have e1 : a.2 = c.2 := by rcases Int.mul_eq_zero.mp w4 with q | q <;> omega
    have e2 : b.2 = c.2 := by rcases Int.mul_eq_zero.mp w5 with q | q <;> omega
    have e3 : d.2 = c.2 := by rcases Int.mul_eq_zero.mp w6 with q | q <;> omega
    have := flat e1 e2 e3
    omega
  have no22 : ¬ (d.2 < a.2 ∧ d.2 < b.2) := by
    rintro ⟨p, q⟩
    have w1 := pp hb (show 0 < a.2 - d.2 by omega)
    have w2 := np ha (show 0 < b.2 - d.2 by omega)
    have w3 := m_zp (Int.le_of_lt h2) (show 0 ≤ d.2 - c.2 by omega)
    omega
  clear j1 j2 d1 flat h3
  rcases la with la | la | la <;> rcases lb with lb | lb | lb <;> (repeat' split) <;> omega
/-- sums round a ring of n corners -/
def sumZ (f : Nat → Int) : Nat → Int
  | 0 => 0
  | n + 1 => sumZ f n + f n
theorem sumZ_congr {f g : Nat → Int} : ∀ n, (∀ i, i < n → f i = g i) → sumZ f n = sumZ g n := by
  intro n
  induction n with
  | zero => intro _; rfl
  | succ n ih =>
    intro h
    show sumZ f n + f n = sumZ g n + g n
    rw [ih (fun i hi => h i (by omega)), h n (by omega)]
theorem sumZ_sub (f g : Nat → Int) : ∀ n, sumZ (fun i => f i - g i) n = sumZ f n - sumZ g n := by
  intro n
  induction n with
  | zero => rfl
  | succ n ih =>
    show sumZ _ n + (f n - g n) = (sumZ f n + f n) - (sumZ g n + g n)
    rw [ih]
    omega
theorem sumZ_tel (f : Nat → Int) : ∀ n, sumZ (fun i => f (i + 1) - f i) n = f n - f 0 := by
  intro n
  induction n with
  | zero => show (0 : Int) = f 0 - f 0; omega
  | succ n ih =>
    show sumZ _ n + (f (n + 1) - f n) = _
    rw [ih]
    omega
theorem sumZ_one {f : Nat → Int} {k : Nat} {z : Int} : ∀ n, k < n → (∀ i, i < n → f i = if i = k then z else 0) → sumZ f n = z := by
  intro n
  induction n with
  | zero => intro h; omega
  | succ n ih =>
    intro hk h
    show sumZ f n + f n = z
    by_cases hn : k = n
    · subst hn
      have e : sumZ f k = sumZ (fun _ => 0) k := sumZ_congr k (fun i hi => by rw [h i (by omega), if_neg (by omega)])
      have e0 : ∀ m, sumZ (fun _ => 0) m = 0 := by
        intro m
        induction m with
        | zero => rfl
        | succ m ih => show sumZ _ m + 0 = 0; rw [ih]; rfl
      rw [e, e0, h k (by omega), if_pos rfl]
      omega
    · rw [ih (by omega) (fun i hi => h i (by omega)), h n (by omega), if_neg (fun e => hn e.symm)]
      omega
/-- the winding of the ring v 0, v 1, .. v n = v 0 about c -/
def wnd (v : Nat → Pt) (n : Nat) (c : Pt) : Int := sumZ (fun i => chi (v i) (v (i + 1)) c) n
theorem chi_rev (a b c : Pt) : chi b a c = -chi a b c := by
  unfold chi
  rw [or_swap a b c]
  repeat' split
  all_goals omega
/-- A STEP THAT KEEPS CLEAR of all edges leaves the winding -/
theorem wnd_move {v : Nat → Pt} {n : Nat} {c d : Pt} (hv : ∀ i, i < n → v i ≠ v (i + 1)) (h0 : v n = v 0) (h : ∀ i, i < n → clr (v i) (v (i + 1)) c d) : wnd v n c = wnd v n d := by
  have key : ∀ c d : Pt, c.2 ≤ d.2 → (∀ i, i < n → clr (v i) (v (i + 1)) c d) → wnd v n c = wnd v n d := by
    intro c d hcd h
    have e1 : sumZ (fun i => chi (v i) (v (i + 1)) c - chi (v i) (v (i + 1)) d) n = sumZ (fun i => phi c d (v (i + 1)) - phi c d (v i)) n := sumZ_congr n (fun i hi => chi_step (hv i hi) hcd (h i hi))
    rw [sumZ_sub, sumZ_tel (fun i => phi c d (v i)), h0] at e1
    unfold wnd
    omega
  rcases Int.lt_or_le d.2 c.2 with hcd | hcd
  · exact (key d c (Int.le_of_lt hcd) (fun i hi => clr_flip (h i hi))).symm
  · exact key c d hcd h
/-- A STEP FROM THE LEFT OF EDGE k across it, clear of all others, takes one off -/
theorem wnd_cross {v : Nat → Pt} {n k : Nat} {c d : Pt} (hk : k < n) (hv : ∀ i, i < n → v i ≠ v (i + 1)) (h0 : v n = v 0) (h : ∀ i, i < n → i ≠ k → clr (v i) (v (i + 1)) c d) (h1 : 0 < orP (v k) (v (k + 1)) c) (h2 : orP (v k) (v (k + 1)) d < 0) (h3 : orP c d (v k) * orP c d (v (k + 1)) < 0) : wnd v n c = wnd v n d + 1 := by
  rcases Int.lt_or_le d.2 c.2 with hcd | hcd
  · have e1 : sumZ (fun i => (chi (v i) (v (i + 1)) d - chi (v i) (v (i + 1)) c) - (phi d c (v (i + 1)) - phi d c (v i))) n = -1 := by
      refine sumZ_one (k := k) n hk (fun i hi => ?_)
      by_cases hik : i = k
      · subst hik
        rw [if_pos rfl]
        have q := chi_cross (a := v (i + 1)) (b := v i) (c := d) (d := c) (Int.le_of_lt hcd) (by rw [or_swap]; omega) (by rw [or_swap]; omega) (by rw [or_swap c d, or_swap c d, Int.neg_mul_neg, Int.mul_comm]; exact h3)
        rw [chi_rev (v i), chi_rev (v i)] at q
        omega
      · rw [if_neg hik]
        have q := chi_step (hv i hi) (Int.le_of_lt hcd) (clr_flip (h i hi hik))
        omega
    rw [sumZ_sub, sumZ_sub, sumZ_tel (fun i => phi d c (v i)), h0] at e1
    unfold wnd
    omega
  · have e1 : sumZ (fun i => (chi (v i) (v (i + 1)) c - chi (v i) (v (i + 1)) d) - (phi c d (v (i + 1)) - phi c d (v i))) n = 1 := by
      refine sumZ_one (k := k) n hk (fun i hi => ?_)
      by_cases hik : i = k
      · subst hik
        rw [if_pos rfl]
        have q := chi_cross (a := v i) (b := v (i + 1)) (c := c) (d := d) hcd h1 h2 h3
        omega
      · rw [if_neg hik]
        have q := chi_step (hv i hi) hcd (h i hi hik)
        omega
    rw [sumZ_sub, sumZ_sub, sumZ_tel (fun i => phi c d (v i)), h0] at e1
    unfold wnd
    omega
/-- a greater scale -/
def scP (N : Int) (p : Pt) : Pt := (N * p.1, N * p.2)
theorem or_sc (N : Int) (a b c : Pt) : orP (scP N a) (scP N b) (scP N c) = N * N * orP a b c := by unfold orP scP; grind
theorem chi_sc {N : Int} (hN : 0 < N) (a b c : Pt) : chi (scP N a) (scP N b) (scP N c) = chi a b c := by
  unfold chi
  rw [or_sc]
  have e1 : ∀ x y : Int, N * x ≤ N * y ↔ x ≤ y := fun x y => by
    constructor
    · intro h; exact Int.le_of_mul_le_mul_left h hN
    · intro h; exact Int.mul_le_mul_of_nonneg_left h (Int.le_of_lt hN)
  have e2 : ∀ x y : Int, N * x < N * y ↔ x < y := fun x y => by rw [← Int.not_le, e1, Int.not_le]
  have hNN : 0 < N * N := pp hN hN
  have e3 : 0 < N * N * orP a b c ↔ 0 < orP a b c := by
    constructor
    · intro h; rw [Int.mul_comm] at h; exact pos_of_mulP h hNN
    · intro h; exact pp hNN h
  have e4 : N * N * orP a b c < 0 ↔ orP a b c < 0 := by
    constructor
    · intro h; rw [Int.mul_comm] at h; exact neg_of_mulP h hNN
    · intro h; exact pn hNN h
  simp only [scP, e1, e2, e3, e4]
theorem wnd_sc {N : Int} (hN : 0 < N) (v : Nat → Pt) (n : Nat) (c : Pt) : wnd (fun i => scP N (v i)) n (scP N c) = wnd v n c := sumZ_congr n (fun i _ => chi_sc hN (v i) (v (i + 1)) c)
/-- a point far to the right: nothing winds about it -/
theorem wnd_right {v : Nat → Pt} {n : Nat} {c : Pt} (h : ∀ i, i ≤ n → (v i).1 < c.1) : wnd v n c = 0 := by
  have : wnd v n c = sumZ (fun _ => 0) n := by
    refine sumZ_congr n (fun i hi => ?_)
    have h1 := h i (by omega)
    have h2 := h (i + 1) (by omega)
    unfold chi
    have e : orP (v i) (v (i + 1)) c = -((c.1 - (v i).1) * ((v (i + 1)).2 - c.2) + (c.1 - (v (i + 1)).1) * (c.2 - (v i).2)) := by unfold orP; grind
    rw [e]
    generalize hA : (c.1 - (v i).1) * ((v (i + 1)).2 - c.2) = A
    generalize hB : (c.1 - (v (i + 1)).1) * (c.2 - (v i).2) = B
    split
    · rename_i q
      have w1 := pp (show 0 < c.1 - (v i).1 by omega) (show 0 < (v (i + 1)).2 - c.2 by omega)
      have w2 := m_nn (show 0 ≤ c.1 - (v (i + 1)).1 by omega) (show 0 ≤ c.2 - (v i).2 by omega)
      omega
    · split
      · rename_i q
        have w1 := m_pz (show 0 ≤ c.1 - (v i).1 by omega) (show (v (i + 1)).2 - c.2 ≤ 0 by omega)
        have w2 := pn (show 0 < c.1 - (v (i + 1)).1 by omega) (show c.2 - (v i).2 < 0 by omega)
        omega
      · rfl
  rw [this]
  have e0 : ∀ m, sumZ (fun _ => 0) m = 0 := by
    intro m
    induction m with
    | zero => rfl
    | succ m ih => show sumZ _ m + 0 = 0; rw [ih]; rfl
  exact e0 n
