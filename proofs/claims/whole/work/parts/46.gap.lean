/-! ===== a stretch without corners and crossings: along the ring, or inside, or outside ===== -/
theorem lin_bet1 {s t a : Pt} (h0 : orP s t a = 0) (hne : s.1 ≠ t.1) (hb : (s.1 ≤ a.1 ∧ a.1 ≤ t.1) ∨ (t.1 ≤ a.1 ∧ a.1 ≤ s.1)) : bet s t a := by
  have e : (a.2 - s.2) * (t.1 - s.1) = (a.1 - s.1) * (t.2 - s.2) := by unfold orP at h0; grind
  rcases hb with ⟨p, q⟩ | ⟨p, q⟩
  · refine comb_bet (s := t.1 - a.1) (t := a.1 - s.1) ⟨by omega, by omega, by omega, ?_, ?_⟩ <;> grind
  · refine comb_bet (s := a.1 - t.1) (t := s.1 - a.1) ⟨by omega, by omega, by omega, ?_, ?_⟩ <;> grind
theorem lin_bet2 {s t a : Pt} (h0 : orP s t a = 0) (hne : s.2 ≠ t.2) (hb : (s.2 ≤ a.2 ∧ a.2 ≤ t.2) ∨ (t.2 ≤ a.2 ∧ a.2 ≤ s.2)) : bet s t a := by
  have e : (a.2 - s.2) * (t.1 - s.1) = (a.1 - s.1) * (t.2 - s.2) := by unfold orP at h0; grind
  rcases hb with ⟨p, q⟩ | ⟨p, q⟩
  · refine comb_bet (s := t.2 - a.2) (t := a.2 - s.2) ⟨by omega, by omega, by omega, ?_, ?_⟩ <;> grind
  · refine comb_bet (s := a.2 - t.2) (t := s.2 - a.2) ⟨by omega, by omega, by omega, ?_, ?_⟩ <;> grind
theorem od {N s t a b y : Int} (hN : 0 < N) (h1 : N * s < y) (h2 : y < N * t) (h3 : N * a ≤ y) (h4 : y ≤ N * b) (na : ¬ (s < a ∧ a < t)) (nb : ¬ (s < b ∧ b < t)) : a ≤ s ∧ t ≤ b := by
  have x1 : a < t := Int.lt_of_mul_lt_mul_left (show N * a < N * t by omega) (Int.le_of_lt hN)
  have x2 : s < b := Int.lt_of_mul_lt_mul_left (show N * s < N * b by omega) (Int.le_of_lt hN)
  omega
theorem od4 {N s t a b y : Int} (hN : 0 < N) (h1 : (N * s ≤ y ∧ y ≤ N * t) ∨ (N * t ≤ y ∧ y ≤ N * s)) (z1 : y ≠ N * s) (z2 : y ≠ N * t) (h3 : (N * a ≤ y ∧ y ≤ N * b) ∨ (N * b ≤ y ∧ y ≤ N * a)) (na : ¬ ((s < a ∧ a < t) ∨ (t < a ∧ a < s))) (nb : ¬ ((s < b ∧ b < t) ∨ (t < b ∧ b < s))) (hst : s ≠ t) : a ≠ b ∧ ((a ≤ s ∧ s ≤ b) ∨ (b ≤ s ∧ s ≤ a)) ∧ ((a ≤ t ∧ t ≤ b) ∨ (b ≤ t ∧ t ≤ a)) := by
  have ms : ∀ p q : Int, p < q → N * p < N * q := fun p q h => Int.mul_lt_mul_of_pos_left h hN
  rcases h1 with ⟨p, q⟩ | ⟨p, q⟩ <;> rcases h3 with ⟨r, w⟩ | ⟨r, w⟩
  · have x : s < t := Int.lt_of_mul_lt_mul_left (show N * s < N * t by omega) (Int.le_of_lt hN)
    have := od hN (show N * s < y by omega) (show y < N * t by omega) r w (by omega) (by omega)
    omega
  · have x : s < t := Int.lt_of_mul_lt_mul_left (show N * s < N * t by omega) (Int.le_of_lt hN)
    have := od hN (show N * s < y by omega) (show y < N * t by omega) r w (by omega) (by omega)
    omega
  · have x : t < s := Int.lt_of_mul_lt_mul_left (show N * t < N * s by omega) (Int.le_of_lt hN)
    have := od hN (show N * t < y by omega) (show y < N * s by omega) r w (by omega) (by omega)
    omega
  · have x : t < s := Int.lt_of_mul_lt_mul_left (show N * t < N * s by omega) (Int.le_of_lt hN)
    have := od hN (show N * t < y by omega) (show y < N * s by omega) r w (by omega) (by omega)
    omega
theorem pt_ne {a b : Pt} (h : a ≠ b) : a.1 ≠ b.1 ∨ a.2 ≠ b.2 := by
  by_cases q : a.1 = b.1
  · right; intro q2; exact h (Prod.ext q q2)
  · exact Or.inl q
theorem or_p1 (a b m : Pt) : orP a m b = -orP a b m := by unfold orP; grind
theorem or_p2 (a b m : Pt) : orP b m a = orP a b m := by unfold orP; grind
theorem tri_line {a b m : Pt} (hab : a ≠ b) (h0 : orP a b m = 0) : bet a b m ∨ bet a m b ∨ bet b m a := by
  rcases pt_ne hab with h | h
  · by_cases q1 : (a.1 ≤ m.1 ∧ m.1 ≤ b.1) ∨ (b.1 ≤ m.1 ∧ m.1 ≤ a.1)
    · exact Or.inl (lin_bet1 h0 h q1)
    · right
      by_cases q2 : (a.1 ≤ b.1 ∧ b.1 ≤ m.1) ∨ (m.1 ≤ b.1 ∧ b.1 ≤ a.1)
      · exact Or.inl (lin_bet1 (by rw [or_p1, h0]; rfl) (by omega) q2)
      · exact Or.inr (lin_bet1 (by rw [or_p2, h0]) (by omega) (by omega))
  · by_cases q1 : (a.2 ≤ m.2 ∧ m.2 ≤ b.2) ∨ (b.2 ≤ m.2 ∧ m.2 ≤ a.2)
    · exact Or.inl (lin_bet2 h0 h q1)
    · right
      by_cases q2 : (a.2 ≤ b.2 ∧ b.2 ≤ m.2) ∨ (m.2 ≤ b.2 ∧ b.2 ≤ a.2)
      · exact Or.inl (lin_bet2 (by rw [or_p1, h0]; rfl) (by omega) q2)
      · exact Or.inr (lin_bet2 (by rw [or_p2, h0]) (by omega) (by omega))
theorem opp {a b s t : Pt} (h : bet a b s) (h1 : s ≠ a) (h2 : s ≠ b) (h3 : bet b t s) (h4 : bet a t s) : t = s := by
  obtain ⟨p, q, hp, hq, -, -, -, e1, e2⟩ := comb_pos h h1 h2
  have k1 : s.1 ≠ b.1 → t.1 = s.1 := by
    intro c
    have c2 : s.1 ≠ a.1 := by
      intro c3
      have : q * (b.1 - s.1) = 0 := by rw [c3] at e1 ⊢; grind
      rcases Int.mul_eq_zero.mp this with w | w <;> omega
    have b1 := h.2.1
    have b2 := h3.2.1
    have b3 := h4.2.1
    omega
  have k2 : s.2 ≠ b.2 → t.2 = s.2 := by
    intro c
    have c2 : s.2 ≠ a.2 := by
      intro c3
      have : q * (b.2 - s.2) = 0 := by rw [c3] at e2 ⊢; grind
      rcases Int.mul_eq_zero.mp this with w | w <;> omega
    have b1 := h.2.2
    have b2 := h3.2.2
    have b3 := h4.2.2
    omega
  have l := h3.1
  have l : (b.1 - s.1) * (t.2 - s.2) = (b.2 - s.2) * (t.1 - s.1) := by unfold orP at l; grind
  rcases pt_ne h2 with c | c
  · have d := k1 c
    rw [show t.1 - s.1 = 0 by omega, Int.mul_zero] at l
    rcases Int.mul_eq_zero.mp l with w | w
    · omega
    · exact Prod.ext d (by omega)
  · have d := k2 c
    rw [show t.2 - s.2 = 0 by omega, Int.mul_zero] at l
    rcases Int.mul_eq_zero.mp l.symm with w | w
    · omega
    · exact Prod.ext (by omega) d
theorem bet_conv {a b s t m : Pt} (h1 : bet a b s) (h2 : bet a b t) (h3 : bet s t m) : bet a b m := by
  obtain ⟨p, q, hc⟩ := bet_comb h3
  constructor
  · have := comb_or hc a b
    rw [h1.1, h2.1, Int.mul_zero, Int.mul_zero] at this
    rcases Int.mul_eq_zero.mp this with w | w
    · have := hc.2.2.1; omega
    · exact w
  · have b1 := h1.2
    have b2 := h2.2
    have b3 := h3.2
    unfold boxP at *
    omega
def mid (s t m : Pt) : Prop := m.1 + m.1 = s.1 + t.1 ∧ m.2 + m.2 = s.2 + t.2
theorem mid_bet {s t m : Pt} (h : mid s t m) : bet s t m := comb_bet (s := 1) (t := 1) ⟨by decide, by decide, by decide, by have := h.1; omega, by have := h.2; omega⟩
theorem mid_ne {s t m : Pt} (h : mid s t m) (hne : s ≠ t) : m ≠ s ∧ m ≠ t := by
  obtain ⟨h1, h2⟩ := h
  constructor
  · intro e; subst e; exact hne (Prod.ext (by omega) (by omega))
  · intro e; subst e; exact hne (Prod.ext (by omega) (by omega))
theorem mid_or {s t m : Pt} (h : mid s t m) (p q : Pt) : 2 * orP p q m = orP p q s + orP p q t := by
  obtain ⟨h1, h2⟩ := h
  have : 2 * orP p q m = 2 * (p.1 * q.2 - p.2 * q.1) - (m.1 + m.1) * (q.2 - p.2) + (m.2 + m.2) * (q.1 - p.1) := by unfold orP; grind
  rw [this, h1, h2]; unfold orP; grind
def inn (v : Nat → Pt) (n : Nat) (c : Pt) : Prop := off v n c ∧ wnd v n c = 1
/-- no corner between, no crossing -/
def clean (v : Nat → Pt) (n : Nat) (s t : Pt) : Prop := s ≠ t ∧ (∀ k, k < n → comP s t (v k) (v (k + 1)) ≠ 1) ∧ ∀ k, bet s t (v k) → v k = s ∨ v k = t
theorem gap_cases {v : Nat → Pt} {n : Nat} {s t : Pt} (h : soundS v n) (hc : clean v n s t) : (∃ k, k < n ∧ bet (v k) (v (k + 1)) s ∧ bet (v k) (v (k + 1)) t) ∨ (∀ k, k < n → ∀ N y, 0 < N → bet (scP N s) (scP N t) y → bet (scP N (v k)) (scP N (v (k + 1))) y → y = scP N s ∨ y = scP N t) := by
  by_cases hh : ∀ k, k < n → ∀ N y, 0 < N → bet (scP N s) (scP N t) y → bet (scP N (v k)) (scP N (v (k + 1))) y → y = scP N s ∨ y = scP N t
  · exact Or.inr hh
  left
  have ⟨k, hk, N, y, hN, g1, g2, y1, y2⟩ : ∃ k, k < n ∧ ∃ N y, 0 < N ∧ bet (scP N s) (scP N t) y ∧ bet (scP N (v k)) (scP N (v (k + 1))) y ∧ y ≠ scP N s ∧ y ≠ scP N t := by
    refine Classical.byContradiction fun c => hh (fun k hk N y hN g1 g2 => ?_)
    refine Classical.byContradiction fun c2 => c ⟨k, hk, N, y, hN, g1, g2, fun e => c2 (Or.inl e), fun e => c2 (Or.inr e)⟩
  obtain ⟨hst, hx, hcor⟩ := hc
  have hx := hx k hk
  have ca := hcor k
  have cb := hcor (k + 1)
  have hab := soundS_next h hk
  refine ⟨k, hk, ?_⟩
  generalize v k = a at *
  generalize v (k + 1) = b at *
  have hNN := pp hN hN
  by_cases hn : orP s t a = 0 ∧ orP s t b = 0
  · have hz := par_zero hst hn.1 hn.2
    have l1 := g1.1
    have l1 : (y.1 - N * s.1) * (N * t.2 - N * s.2) = (y.2 - N * s.2) * (N * t.1 - N * s.1) := by unfold orP scP at l1; grind
    have B1 := g1.2
    have B2 := g2.2
    unfold boxP scP at B1 B2
    dsimp only at B1 B2
    rcases pt_ne hst with c | c
    · have cN : N * t.1 - N * s.1 ≠ 0 := by
        intro e
        exact c (Int.eq_of_mul_eq_mul_left (show N ≠ 0 by omega) (show N * s.1 = N * t.1 by omega))
      have z1 : y.1 ≠ N * s.1 := by
        intro e
        rw [e, Int.sub_self, Int.zero_mul] at l1
        rcases Int.mul_eq_zero.mp l1.symm with w | w
        · exact y1 (Prod.ext e (by show y.2 = N * s.2; omega))
        · exact cN w
      have z2 : y.1 ≠ N * t.1 := by
        intro e
        have l2 : (y.1 - N * t.1) * (N * t.2 - N * s.2) = (y.2 - N * t.2) * (N * t.1 - N * s.1) := by grind
        rw [e, Int.sub_self, Int.zero_mul] at l2
        rcases Int.mul_eq_zero.mp l2.symm with w | w
        · exact y2 (Prod.ext e (by show y.2 = N * t.2; omega))
        · exact cN w
      have na : ¬ ((s.1 < a.1 ∧ a.1 < t.1) ∨ (t.1 < a.1 ∧ a.1 < s.1)) := by
        intro w
        rcases ca (lin_bet1 hn.1 c (by omega)) with e | e <;> rw [e] at w <;> omega
      have nb : ¬ ((s.1 < b.1 ∧ b.1 < t.1) ∨ (t.1 < b.1 ∧ b.1 < s.1)) := by
        intro w
        rcases cb (lin_bet1 hn.2 c (by omega)) with e | e <;> rw [e] at w <;> omega
      have key := od4 hN B1.1 z1 z2 B2.1 na nb c
      exact ⟨lin_bet1 hz.1 key.1 key.2.1, lin_bet1 hz.2 key.1 key.2.2⟩
    · have cN : N * t.2 - N * s.2 ≠ 0 := by
        intro e
        exact c (Int.eq_of_mul_eq_mul_left (show N ≠ 0 by omega) (show N * s.2 = N * t.2 by omega))
      have z1 : y.2 ≠ N * s.2 := by
        intro e
        rw [e, Int.sub_self, Int.zero_mul] at l1
        rcases Int.mul_eq_zero.mp l1 with w | w
        · exact y1 (Prod.ext (by show y.1 = N * s.1; omega) e)
        · exact cN w
      have z2 : y.2 ≠ N * t.2 := by
        intro e
        have l2 : (y.1 - N * t.1) * (N * t.2 - N * s.2) = (y.2 - N * t.2) * (N * t.1 - N * s.1) := by grind
        rw [e, Int.sub_self, Int.zero_mul] at l2
        rcases Int.mul_eq_zero.mp l2 with w | w
        · exact y2 (Prod.ext (by show y.1 = N * t.1; omega) e)
        · exact cN w
      have na : ¬ ((s.2 < a.2 ∧ a.2 < t.2) ∨ (t.2 < a.2 ∧ a.2 < s.2)) := by
        intro w
        rcases ca (lin_bet2 hn.1 c (by omega)) with e | e <;> rw [e] at w <;> omega
      have nb : ¬ ((s.2 < b.2 ∧ b.2 < t.2) ∨ (t.2 < b.2 ∧ b.2 < s.2)) := by
        intro w
        rcases cb (lin_bet2 hn.2 c (by omega)) with e | e <;> rw [e] at w <;> omega
      have key := od4 hN B1.2 z1 z2 B2.2 na nb c
      exact ⟨lin_bet2 hz.1 key.1 key.2.1, lin_bet2 hz.2 key.1 key.2.2⟩
  · exfalso
    obtain ⟨p, q, hpq⟩ := bet_comb g2
    have e := comb_or hpq (scP N s) (scP N t)
    rw [g1.1, or_sc, or_sc, Int.mul_zero] at e
    obtain ⟨hp, hq, h0, e1, e2⟩ := hpq
    have e' : p * orP s t a + q * orP s t b = 0 := by
      have : N * N * (p * orP s t a + q * orP s t b) = 0 := by grind
      rcases Int.mul_eq_zero.mp this with w | w
      · omega
      · exact w
    have pa : q = 0 → False := by
      intro c
      subst c
      rw [Int.zero_mul, Int.add_zero, Int.add_zero] at e1 e2
      have ey : y = scP N a := Prod.ext (Int.eq_of_mul_eq_mul_left (by omega) e1) (Int.eq_of_mul_eq_mul_left (by omega) e2)
      rw [ey] at g1 y1 y2
      rcases ca ((bet_sc hN).mp g1) with w | w
      · exact y1 (by rw [w])
      · exact y2 (by rw [w])
    have pb : p = 0 → False := by
      intro c
      subst c
      rw [Int.zero_mul, Int.zero_add, Int.zero_add] at e1 e2
      have ey : y = scP N b := Prod.ext (Int.eq_of_mul_eq_mul_left (by omega) e1) (Int.eq_of_mul_eq_mul_left (by omega) e2)
      rw [ey] at g1 y1 y2
      rcases cb ((bet_sc hN).mp g1) with w | w
      · exact y1 (by rw [w])
      · exact y2 (by rw [w])
    have p0 : 0 < p := by
      rcases Int.lt_or_le 0 p with w | w
      · exact w
      · exact absurd (show p = 0 by omega) pb
    have q0 : 0 < q := by
      rcases Int.lt_or_le 0 q with w | w
      · exact w
      · exact absurd (show q = 0 by omega) pa
    have opposite : ∀ p q A B : Int, 0 < p → 0 < q → p * A + q * B = 0 → (A = 0 ∧ B = 0) ∨ A * B < 0 := by
      intro p q A B p0 q0 e
      rcases Int.lt_trichotomy A 0 with w | w | w
      · have := pn p0 w
        right
        refine np w ?_
        rcases Int.lt_or_le 0 B with r | r
        · exact r
        · have := m_pz (Int.le_of_lt q0) r; omega
      · subst w
        rw [Int.mul_zero, Int.zero_add] at e
        rcases Int.mul_eq_zero.mp e with r | r
        · omega
        · exact Or.inl ⟨rfl, r⟩
      · have := pp p0 w
        right
        refine pn w ?_
        rcases Int.lt_or_le B 0 with r | r
        · exact r
        · have := m_nn (Int.le_of_lt q0) r; omega
    have k1 := (opposite p q _ _ p0 q0 e').resolve_left hn
    obtain ⟨f, g, f0, g0, hfg⟩ := comb_pos g1 y1 y2
    have d := comb_or hfg (scP N a) (scP N b)
    rw [g2.1, or_sc, or_sc, Int.mul_zero] at d
    have d' : f * orP a b s + g * orP a b t = 0 := by
      have : N * N * (f * orP a b s + g * orP a b t) = 0 := by grind
      rcases Int.mul_eq_zero.mp this with w | w
      · omega
      · exact w
    have k2 := (opposite f g _ _ f0 g0 d').resolve_left (fun w => hn (par_zero hab w.1 w.2))
    apply hx
    unfold comP
    simp only [sg_mul, sg_lt0, sg_gt0, sg_eq0]
    rw [if_neg hn, if_pos ⟨k1, k2⟩]
