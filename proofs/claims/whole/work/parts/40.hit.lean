/-! ===== points of segments, at any scale; what two segments have in common, said of points ===== -/
def bet (a b x : Pt) : Prop := orP a b x = 0 ∧ boxP a b x
theorem bet_on {a b x : Pt} : onP a b x = true ↔ bet a b x := onP_iff a b x
/-- x by weights -/
def comb (a b x : Pt) (s t : Int) : Prop := 0 ≤ s ∧ 0 ≤ t ∧ 0 < s + t ∧ (s + t) * x.1 = s * a.1 + t * b.1 ∧ (s + t) * x.2 = s * a.2 + t * b.2
theorem comb_bet {a b x : Pt} {s t : Int} (h : comb a b x s t) : bet a b x := by
  obtain ⟨hs, ht, h0, e1, e2⟩ := h
  constructor
  · have : (s + t) * orP a b x = 0 := by
      have : (s + t) * orP a b x = (s + t) * (a.1 * b.2 - a.2 * b.1) - ((s + t) * x.1) * (b.2 - a.2) + ((s + t) * x.2) * (b.1 - a.1) := by unfold orP; grind
      rw [this, e1, e2]; grind
    rcases Int.mul_eq_zero.mp this with q | q
    · omega
    · exact q
  · have key : ∀ x a b : Int, (s + t) * x = s * a + t * b → (a ≤ x ∧ x ≤ b) ∨ (b ≤ x ∧ x ≤ a) := by
      intro x a b e
      have e' : (b - x) * t = (x - a) * s := by grind
      have := zbet e' ht hs (by omega)
      omega
    exact ⟨key _ _ _ e1, key _ _ _ e2⟩
theorem bet_comb {a b x : Pt} (h : bet a b x) : ∃ s t, comb a b x s t := by
  obtain ⟨h0, h1, h2⟩ := h
  have e0 : (x.1 - a.1) * (b.2 - a.2) = (x.2 - a.2) * (b.1 - a.1) := by unfold orP at h0; grind
  by_cases q1 : a.1 = b.1
  · by_cases q2 : a.2 = b.2
    · refine ⟨1, 0, by omega, by omega, by omega, ?_, ?_⟩ <;> omega
    · have qx : x.1 = a.1 := by omega
      rcases h2 with ⟨p, q⟩ | ⟨p, q⟩
      · refine ⟨b.2 - x.2, x.2 - a.2, by omega, by omega, by omega, ?_, ?_⟩
        · rw [qx, ← q1]; grind
        · grind
      · refine ⟨x.2 - b.2, a.2 - x.2, by omega, by omega, by omega, ?_, ?_⟩
        · rw [qx, ← q1]; grind
        · grind
  · rcases h1 with ⟨p, q⟩ | ⟨p, q⟩
    · refine ⟨b.1 - x.1, x.1 - a.1, by omega, by omega, by omega, ?_, ?_⟩
      · grind
      · grind
    · refine ⟨x.1 - b.1, a.1 - x.1, by omega, by omega, by omega, ?_, ?_⟩
      · grind
      · grind
theorem comb_or {a b x : Pt} {s t : Int} (h : comb a b x s t) (p q : Pt) : (s + t) * orP p q x = s * orP p q a + t * orP p q b := by
  obtain ⟨-, -, -, e1, e2⟩ := h
  have : (s + t) * orP p q x = (s + t) * (p.1 * q.2 - p.2 * q.1) - ((s + t) * x.1) * (q.2 - p.2) + ((s + t) * x.2) * (q.1 - p.1) := by unfold orP; grind
  rw [this, e1, e2]; unfold orP; grind
theorem bet_rev {a b x : Pt} (h : bet a b x) : bet b a x := by
  obtain ⟨h0, h1, h2⟩ := h
  refine ⟨?_, ?_, ?_⟩
  · rw [or_swap, h0]; rfl
  · omega
  · omega
theorem bet_a (a b : Pt) : bet a b a := ⟨or_self1 a b, by unfold boxP; omega⟩
theorem bet_b (a b : Pt) : bet a b b := ⟨or_self2 a b, by unfold boxP; omega⟩
theorem bet_tr {a b x y : Pt} (h : bet a b x) (h2 : bet a x y) : bet a b y := by
  obtain ⟨s, t, hc⟩ := bet_comb h2
  constructor
  · have := comb_or hc a b
    rw [h.1, or_self1, Int.mul_zero, Int.mul_zero] at this
    rcases Int.mul_eq_zero.mp this with q | q
    · have := hc.2.2.1; omega
    · exact q
  · have h1 := h.2
    have h3 := h2.2
    unfold boxP at *
    omega
theorem bet_tr' {a b x y : Pt} (h : bet a b x) (h2 : bet x b y) : bet a b y := bet_rev (bet_tr (bet_rev h) (bet_rev h2))
theorem bet_eq {a x : Pt} (h : bet a a x) : x = a := by
  obtain ⟨-, h1, h2⟩ := h
  exact Prod.ext (by omega) (by omega)
/-- both parts of a segment have but x in common -/
theorem bet_mid {a b x y : Pt} (h : bet a b x) (h1 : bet a x y) (h2 : bet x b y) : y = x := by
  have b0 := h.2
  have b1 := h1.2
  have b2 := h2.2
  unfold boxP at *
  exact Prod.ext (by omega) (by omega)
theorem bet_end {a b x : Pt} (h : bet a b x) (h1 : bet a x b) : x = b := by
  have b0 := h.2
  have b1 := h1.2
  unfold boxP at *
  exact Prod.ext (by omega) (by omega)
theorem sc_inj {N : Int} (hN : 0 < N) {a b : Pt} (h : scP N a = scP N b) : a = b := Classical.byContradiction fun q => sc_ne hN q h
theorem bet_sc {N : Int} (hN : 0 < N) {a b x : Pt} : bet (scP N a) (scP N b) (scP N x) ↔ bet a b x := by
  have ms : ∀ p q : Int, N * p ≤ N * q ↔ p ≤ q := fun p q => ⟨fun h => Int.le_of_mul_le_mul_left h hN, fun h => Int.mul_le_mul_of_nonneg_left h (Int.le_of_lt hN)⟩
  unfold bet boxP
  rw [or_sc]
  unfold scP
  dsimp only
  rw [ms, ms, ms, ms, ms, ms, ms, ms]
  constructor
  · rintro ⟨h0, h1⟩
    refine ⟨?_, h1⟩
    rcases Int.mul_eq_zero.mp h0 with q | q
    · have := pp hN hN; omega
    · exact q
  · rintro ⟨h0, h1⟩
    exact ⟨by rw [h0, Int.mul_zero], h1⟩
theorem sc_sc (N K : Int) (a : Pt) : scP N (scP K a) = scP (N * K) a := by unfold scP; exact Prod.ext (Int.mul_assoc ..).symm (Int.mul_assoc ..).symm
theorem sc_one (a : Pt) : scP 1 a = a := by unfold scP; exact Prod.ext (Int.one_mul _) (Int.one_mul _)
def hit (a b c d : Pt) : Prop := ∃ N x, 0 < N ∧ bet (scP N a) (scP N b) x ∧ bet (scP N c) (scP N d) x
theorem hit_of {a b c d x : Pt} (h1 : bet a b x) (h2 : bet c d x) : hit a b c d := ⟨1, x, by decide, by rw [sc_one, sc_one]; exact h1, by rw [sc_one, sc_one]; exact h2⟩
theorem hit_comm {a b c d : Pt} (h : hit a b c d) : hit c d a b := by obtain ⟨N, x, h1, h2, h3⟩ := h; exact ⟨N, x, h1, h3, h2⟩
theorem side_off {a b c d x : Pt} {N : Int} (hN : 0 < N) (h : 0 < orP a b c * orP a b d) (h1 : bet (scP N a) (scP N b) x) (h2 : bet (scP N c) (scP N d) x) : False := by
  obtain ⟨s, t, hc⟩ := bet_comb h2
  have e := comb_or hc (scP N a) (scP N b)
  rw [h1.1, or_sc, or_sc, Int.mul_zero] at e
  have hs := hc.1
  have ht := hc.2.1
  have h0 := hc.2.2.1
  have hNN := pp hN hN
  rcases mul_pos_cases h with ⟨p, q⟩ | ⟨p, q⟩
  · have w1 := pn hNN p
    have w2 := pn hNN q
    generalize N * N * orP a b c = y1 at *
    generalize N * N * orP a b d = y2 at *
    have z1 := m_pz hs (Int.le_of_lt w1)
    have z2 := m_pz ht (Int.le_of_lt w2)
    rcases Int.mul_eq_zero.mp (show s * y1 = 0 by omega) with k | k
    · rcases Int.mul_eq_zero.mp (show t * y2 = 0 by omega) with k2 | k2 <;> omega
    · omega
  · have w1 := pp hNN p
    have w2 := pp hNN q
    generalize N * N * orP a b c = y1 at *
    generalize N * N * orP a b d = y2 at *
    have z1 := m_nn hs (Int.le_of_lt w1)
    have z2 := m_nn ht (Int.le_of_lt w2)
    rcases Int.mul_eq_zero.mp (show s * y1 = 0 by omega) with k | k
    · rcases Int.mul_eq_zero.mp (show t * y2 = 0 by omega) with k2 | k2 <;> omega
    · omega
theorem com0_hit {a b c d : Pt} (hab : a ≠ b) (h : comP a b c d = 0) : ¬ hit a b c d := by
  rintro ⟨N, x, hN, h1, h2⟩
  by_cases hn : orP a b c = 0 ∧ orP a b d = 0
  · have hcol : colP a b c d = 0 := by
      unfold comP at h
      simp only [sg_eq0] at h
      rwa [if_pos hn] at h
    have hf := col_frames hab hn.1 hn.2 hcol
    have ms : ∀ p q : Int, p < q → N * p < N * q := fun p q h => Int.mul_lt_mul_of_pos_left h hN
    have b1 := h1.2
    have b2 := h2.2
    unfold boxP scP at b1 b2
    dsimp only at b1 b2
    rw [spZ_f, spZ_f] at hf
    rcases hf with (⟨q1, q2, q3, q4⟩ | ⟨q1, q2, q3, q4⟩) | (⟨q1, q2, q3, q4⟩ | ⟨q1, q2, q3, q4⟩)
    all_goals
      have r1 := ms _ _ q1
      have r2 := ms _ _ q2
      have r3 := ms _ _ q3
      have r4 := ms _ _ q4
      omega
  · rcases com_side h hn with q | q
    · exact side_off hN q h1 h2
    · exact side_off hN q h2 h1
theorem lt_tri (x y : Pt) : ltP x y = true ∨ x = y ∨ ltP y x = true := by
  rw [ltP_t, ltP_t]
  by_cases q : x.1 = y.1
  · by_cases q2 : x.2 = y.2
    · exact Or.inr (Or.inl (Prod.ext q q2))
    · omega
  · omega
/-- both ends of the stretch lie on both segments -/
theorem col_ends {a b c d : Pt} (hab : a ≠ b) (hcd : c ≠ d) (h1 : orP a b c = 0) (h2 : orP a b d = 0) (h : colP a b c d ≠ 0) : (bet a b (colF a b c d) ∧ bet c d (colF a b c d)) ∧ bet a b (colL a b c d) ∧ bet c d (colL a b c d) := by
  have hz := par_zero hab h1 h2
  have irr : ∀ x : Pt, ltP x x = false := fun x => by rw [ltP_f]; exact Or.inr ⟨rfl, Int.le_refl _⟩
  have hle : ltP (colL a b c d) (colF a b c d) = false := by
    cases q : ltP (colL a b c d) (colF a b c d) with
    | false => rfl
    | true =>
      exfalso
      apply h
      rw [colP_lt]
      have : ltP (colF a b c d) (colL a b c d) = false := by rw [ltP_f]; rw [ltP_t] at q; omega
      rw [if_neg (by rw [this]; decide), if_pos q]
  have mn : ∀ a b : Pt, (ltP a b = true ∧ mnP a b = a ∧ mxP a b = b) ∨ (ltP a b = false ∧ mnP a b = b ∧ mxP a b = a) := by
    intro a b
    rw [mnP_lt, mxP_lt]
    cases q : ltP a b with
    | true => left; simp
    | false => right; simp
  have F : (ltP (mnP a b) (mnP c d) = true ∧ colF a b c d = mnP c d) ∨ (ltP (mnP a b) (mnP c d) = false ∧ colF a b c d = mnP a b) := by
    rw [colF_lt]
    cases q : ltP (mnP a b) (mnP c d) with
    | true => left; simp
    | false => right; simp
  have L : (ltP (mxP a b) (mxP c d) = true ∧ colL a b c d = mxP a b) ∨ (ltP (mxP a b) (mxP c d) = false ∧ colL a b c d = mxP c d) := by
    rw [colL_lt]
    cases q : ltP (mxP a b) (mxP c d) with
    | true => left; simp
    | false => right; simp
  have line : ∀ x : Pt, x = a ∨ x = b ∨ x = c ∨ x = d → orP a b x = 0 ∧ orP c d x = 0 := by
    rintro x (rfl | rfl | rfl | rfl)
    · exact ⟨or_self1 _ _, hz.1⟩
    · exact ⟨or_self2 _ _, hz.2⟩
    · exact ⟨h1, or_self1 _ _⟩
    · exact ⟨h2, or_self2 _ _⟩
  have fin : ∀ x : Pt, (x = a ∨ x = b ∨ x = c ∨ x = d) → btP a b x = true → btP c d x = true → bet a b x ∧ bet c d x := by
    intro x hx p q
    obtain ⟨l1, l2⟩ := line x hx
    exact ⟨⟨l1, (bt_box l1).mp p⟩, l2, (bt_box l2).mp q⟩
  generalize colF a b c d = f at *
  generalize colL a b c d = l at *
  rcases mn a b with ⟨p1, e1, e2⟩ | ⟨p1, e1, e2⟩ <;> rcases mn c d with ⟨p2, e3, e4⟩ | ⟨p2, e3, e4⟩ <;> rw [e1, e3] at F <;> rw [e2, e4] at L <;> rcases F with ⟨r1, rfl⟩ | ⟨r1, rfl⟩ <;> rcases L with ⟨r2, rfl⟩ | ⟨r2, rfl⟩
  all_goals
    simp only [ltP_t, ltP_f] at p1 p2 r1 r2 hle
    constructor
    · refine fin _ (by simp) ?_ ?_
      · rw [btP_iff]; first | (left; constructor <;> first | exact irr _ | (rw [ltP_f]; omega)) | (right; constructor <;> first | exact irr _ | (rw [ltP_f]; omega))
      · rw [btP_iff]; first | (left; constructor <;> first | exact irr _ | (rw [ltP_f]; omega)) | (right; constructor <;> first | exact irr _ | (rw [ltP_f]; omega))
    · refine fin _ (by simp) ?_ ?_
      · rw [btP_iff]; first | (left; constructor <;> first | exact irr _ | (rw [ltP_f]; omega)) | (right; constructor <;> first | exact irr _ | (rw [ltP_f]; omega))
      · rw [btP_iff]; first | (left; constructor <;> first | exact irr _ | (rw [ltP_f]; omega)) | (right; constructor <;> first | exact irr _ | (rw [ltP_f]; omega))
theorem com_hit {a b c d : Pt} (hab : a ≠ b) (hcd : c ≠ d) (h : comP a b c d ≠ 0) : hit a b c d := by
  by_cases hn : orP a b c = 0 ∧ orP a b d = 0
  · have hcol : colP a b c d ≠ 0 := by
      unfold comP at h
      simp only [sg_eq0] at h
      rwa [if_pos hn] at h
    have := (col_ends hab hcd hn.1 hn.2 hcol).1
    exact hit_of this.1 this.2
  · unfold comP at h
    simp only [sg_mul, sg_lt0, sg_gt0, sg_eq0] at h
    rw [if_neg hn] at h
    by_cases h3 : orP a b c * orP a b d < 0 ∧ orP c d a * orP c d b < 0
    · have ix := or_ix a b c d
      have iy := or_iy a b c d
      have df := or_diff a b c d
      obtain ⟨k1, k2⟩ := h3
      generalize orP a b c = γ at *
      generalize orP a b d = δ at *
      generalize orP c d a = α at *
      generalize orP c d b = β at *
      rcases mul_neg_cases k2 with ⟨p, q⟩ | ⟨p, q⟩
      · have k3 : δ < 0 ∧ 0 < γ := by rcases mul_neg_cases k1 with w | w <;> omega
        refine ⟨β - α, (β * a.1 - α * b.1, β * a.2 - α * b.2), by omega, comb_bet (s := β) (t := -α) ⟨by omega, by omega, by omega, ?_, ?_⟩, comb_bet (s := -δ) (t := γ) ⟨by omega, by omega, by omega, ?_, ?_⟩⟩
        · unfold scP; grind
        · unfold scP; grind
        · unfold scP; dsimp only
          rw [show β * a.1 - α * b.1 = -(α * b.1 - β * a.1) by omega, ix, show -δ + γ = β - α by omega]; grind
        · unfold scP; dsimp only
          rw [show β * a.2 - α * b.2 = -(α * b.2 - β * a.2) by omega, iy, show -δ + γ = β - α by omega]; grind
      · have k3 : γ < 0 ∧ 0 < δ := by rcases mul_neg_cases k1 with w | w <;> omega
        refine ⟨α - β, (α * b.1 - β * a.1, α * b.2 - β * a.2), by omega, comb_bet (s := -β) (t := α) ⟨by omega, by omega, by omega, ?_, ?_⟩, comb_bet (s := δ) (t := -γ) ⟨by omega, by omega, by omega, ?_, ?_⟩⟩
        · unfold scP; grind
        · unfold scP; grind
        · unfold scP; dsimp only
          rw [ix, show δ + -γ = α - β by omega]; grind
        · unfold scP; dsimp only
          rw [iy, show δ + -γ = α - β by omega]; grind
    · rw [if_neg h3] at h
      have ht : tchP a b c d = true := by
        cases q : tchP a b c d with
        | true => rfl
        | false => rw [q] at h; exact absurd rfl h
      unfold tchP at ht
      simp only [Bool.or_eq_true, bet_on] at ht
      rcases ht with ((q | q) | q) | q
      · exact hit_of q (bet_a _ _)
      · exact hit_of q (bet_b _ _)
      · exact hit_of (bet_a _ _) q
      · exact hit_of (bet_b _ _) q
/-- no point but y in common -/
def only (a b c d y : Pt) : Prop := ∀ N x, 0 < N → bet (scP N a) (scP N b) x → bet (scP N c) (scP N d) x → x = scP N y
theorem com2_of {a b c d y : Pt} (hab : a ≠ b) (hcd : c ≠ d) (h1 : y = a ∨ y = b) (h2 : y = c ∨ y = d) (h : only a b c d y) : comP a b c d = 2 := by
  have hy : bet a b y ∧ bet c d y := by
    constructor
    · rcases h1 with rfl | rfl
      · exact bet_a _ _
      · exact bet_b _ _
    · rcases h2 with rfl | rfl
      · exact bet_a _ _
      · exact bet_b _ _
  have n0 : comP a b c d ≠ 0 := fun q => com0_hit hab q (hit_of hy.1 hy.2)
  unfold comP at n0 ⊢
  simp only [sg_mul, sg_lt0, sg_gt0, sg_eq0] at n0 ⊢
  by_cases hn : orP a b c = 0 ∧ orP a b d = 0
  · rw [if_pos hn] at n0 ⊢
    have ce := col_ends hab hcd hn.1 hn.2 n0
    have o1 := h 1 (colF a b c d) (by decide) (by rw [sc_one, sc_one]; exact ce.1.1) (by rw [sc_one, sc_one]; exact ce.1.2)
    have o2 := h 1 (colL a b c d) (by decide) (by rw [sc_one, sc_one]; exact ce.2.1) (by rw [sc_one, sc_one]; exact ce.2.2)
    rw [colP_lt, o1, o2]
    have : ltP (scP 1 y) (scP 1 y) = false := by rw [ltP_f]; omega
    rw [this]
    rfl
  · rw [if_neg hn] at n0 ⊢
    by_cases h3 : orP a b c * orP a b d < 0 ∧ orP c d a * orP c d b < 0
    · exfalso
      rcases h2 with rfl | rfl
      · have := hy.1.1; rw [this] at h3; omega
      · have := hy.1.1; rw [this] at h3; omega
    · rw [if_neg h3] at n0 ⊢
      by_cases ht : tchP a b c d = true
      · rw [if_pos ht]
      · rw [if_neg ht] at n0; exact absurd rfl n0
theorem goes_only {u a b : Pt} (hua : u ≠ a) (h : goes u a b) : only u a a b a := by
  intro N x hN h1 h2
  by_cases h0 : orP u a b = 0
  · have h := h.resolve_left (fun q => q h0)
    have ne : u.1 ≠ a.1 ∨ u.2 ≠ a.2 := by
      by_cases q : u.1 = a.1
      · right; intro q2; exact hua (Prod.ext q q2)
      · exact Or.inl q
    have ms : ∀ p q : Int, p < q → N * p < N * q := fun p q h => Int.mul_lt_mul_of_pos_left h hN
    obtain ⟨l1, b1, b1'⟩ := h1
    obtain ⟨-, b2, b2'⟩ := h2
    have l2 : (x.1 - N * a.1) * (N * a.2 - N * u.2) = (x.2 - N * a.2) * (N * a.1 - N * u.1) := by unfold orP scP at l1; dsimp only at l1; grind
    unfold scP at b1 b1' b2 b2' ⊢
    dsimp only at b1 b1' b2 b2'
    rcases h with h | h
    · have hx : x.1 = N * a.1 ∧ N * a.1 - N * u.1 ≠ 0 := by
        rcases mul_pos_cases h with ⟨p, q⟩ | ⟨p, q⟩
        · have w1 := ms _ _ (show a.1 < u.1 by omega)
          have w2 := ms _ _ (show b.1 < a.1 by omega)
          omega
        · have w1 := ms _ _ (show u.1 < a.1 by omega)
          have w2 := ms _ _ (show a.1 < b.1 by omega)
          omega
      rw [hx.1, Int.sub_self, Int.zero_mul] at l2
      rcases Int.mul_eq_zero.mp l2.symm with q | q
      · exact Prod.ext hx.1 (by dsimp only; omega)
      · exact absurd q hx.2
    · have hx : x.2 = N * a.2 ∧ N * a.2 - N * u.2 ≠ 0 := by
        rcases mul_pos_cases h with ⟨p, q⟩ | ⟨p, q⟩
        · have w1 := ms _ _ (show a.2 < u.2 by omega)
          have w2 := ms _ _ (show b.2 < a.2 by omega)
          omega
        · have w1 := ms _ _ (show u.2 < a.2 by omega)
          have w2 := ms _ _ (show a.2 < b.2 by omega)
          omega
      rw [hx.1, Int.sub_self, Int.zero_mul] at l2
      rcases Int.mul_eq_zero.mp l2 with q | q
      · exact Prod.ext (by dsimp only; omega) hx.1
      · exact absurd q hx.2
  · obtain ⟨s, t, hc⟩ := bet_comb h2
    have e := comb_or hc (scP N u) (scP N a)
    rw [h1.1, or_self2, or_sc, Int.mul_zero, Int.mul_zero, Int.zero_add] at e
    obtain ⟨hs, ht, h00, e1, e2⟩ := hc
    have hNN := pp hN hN
    have t0 : t = 0 := by
      rcases Int.mul_eq_zero.mp e.symm with q | q
      · exact q
      · rcases Int.mul_eq_zero.mp q with q | q
        · omega
        · exact absurd q h0
    subst t0
    rw [Int.zero_mul, Int.add_zero, Int.add_zero] at e1 e2
    have hs' : s ≠ 0 := by omega
    exact Prod.ext (Int.eq_of_mul_eq_mul_left hs' e1) (Int.eq_of_mul_eq_mul_left hs' e2)
