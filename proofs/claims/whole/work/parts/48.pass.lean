/-! ===== a segment cut at the corners on it: the reference's stops against the class's openings ===== -/
theorem com1 {a b c d : Pt} : comP a b c d = 1 ↔ orP a b c * orP a b d < 0 ∧ orP c d a * orP c d b < 0 := by
  unfold comP
  simp only [sg_mul, sg_lt0, sg_gt0, sg_eq0]
  constructor
  · intro h
    split at h
    · exfalso
      unfold colP at h
      split at h
      · exact absurd h (by decide)
      · split at h <;> exact absurd h (by decide)
    · split at h
      · assumption
      · split at h <;> exact absurd h (by decide)
  · intro h
    rw [if_neg (by rintro ⟨p, -⟩; rw [p] at h; omega), if_pos h]
theorem comb_or2 {U W s t a : Pt} {p q p' q' : Int} (h1 : comb U W s p q) (h2 : comb U W t p' q') : (p + q) * ((p' + q') * orP s t a) = (p * q' - p' * q) * orP U W a := by
  have e1 := comb_or h2 a s
  rw [or_cyc a s t, or_cyc a s U, or_cyc a s W] at e1
  have f1 := comb_or h1 U a
  have f2 := comb_or h1 W a
  have g1 : orP s U a = orP U a s := or_cyc _ _ _
  have g2 : orP s W a = orP W a s := or_cyc _ _ _
  have z1 : orP U a U = 0 := or_self1 _ _
  have z2 : orP W a W = 0 := or_self1 _ _
  have s1 : orP U a W = -orP U W a := or_p1 U W a
  have s2 : orP W a U = orP U W a := by unfold orP; grind
  rw [e1, g1, g2]
  rw [z1, s1] at f1
  rw [z2, s2] at f2
  have : (p + q) * (p' * orP U a s + q' * orP W a s) = p' * ((p + q) * orP U a s) + q' * ((p + q) * orP W a s) := by grind
  rw [this, f1, f2]
  grind
theorem sub_com1 {U W s t a b : Pt} (hs : bet U W s) (ht : bet U W t) (h : comP s t a b = 1) : comP U W a b = 1 := by
  rw [com1] at h ⊢
  obtain ⟨p, q, h1⟩ := bet_comb hs
  obtain ⟨p', q', h2⟩ := bet_comb ht
  constructor
  · have k1 := comb_or2 (a := a) h1 h2
    have k2 := comb_or2 (a := b) h1 h2
    have w1 := pp h1.2.2.1 h2.2.2.1
    have w := pn (pp w1 w1) h.1
    have e : (p + q) * (p' + q') * ((p + q) * (p' + q')) * (orP s t a * orP s t b) = ((p * q' - p' * q) * (p * q' - p' * q)) * (orP U W a * orP U W b) := by
      have : (p + q) * (p' + q') * ((p + q) * (p' + q')) * (orP s t a * orP s t b) = ((p + q) * ((p' + q') * orP s t a)) * ((p + q) * ((p' + q') * orP s t b)) := by grind
      rw [this, k1, k2]; grind
    rw [e] at w
    rcases Int.lt_or_le (orP U W a * orP U W b) 0 with r | r
    · exact r
    · have : 0 ≤ (p * q' - p' * q) * (p * q' - p' * q) := by
        rcases Int.lt_or_le (p * q' - p' * q) 0 with z | z
        · exact Int.le_of_lt (nn z z)
        · exact m_nn z z
      have := m_nn this r
      omega
  · have k1 := comb_or h1 a b
    have k2 := comb_or h2 a b
    have hp := h1.1
    have hq := h1.2.1
    have hp' := h2.1
    have hq' := h2.2.1
    have h0 := h1.2.2.1
    have h0' := h2.2.2.1
    have neg : ∀ x y : Int, ¬ (0 ≤ x ∧ 0 ≤ y) → ¬ (x ≤ 0 ∧ y ≤ 0) → x * y < 0 := by
      intro x y c1 c2
      rcases Int.lt_trichotomy x 0 with z | z | z
      · exact np z (by omega)
      · omega
      · exact pn z (by omega)
    refine neg _ _ (fun c => ?_) (fun c => ?_)
    · have a1 : 0 ≤ orP a b s := by
        rcases Int.lt_or_le (orP a b s) 0 with z | z
        · have := pn h0 z
          have := m_nn hp c.1
          have := m_nn hq c.2
          omega
        · exact z
      have a2 : 0 ≤ orP a b t := by
        rcases Int.lt_or_le (orP a b t) 0 with z | z
        · have := pn h0' z
          have := m_nn hp' c.1
          have := m_nn hq' c.2
          omega
        · exact z
      have := m_nn a1 a2
      omega
    · have a1 : orP a b s ≤ 0 := by
        rcases Int.lt_or_le 0 (orP a b s) with z | z
        · have := pp h0 z
          have := m_pz hp c.1
          have := m_pz hq c.2
          omega
        · exact z
      have a2 : orP a b t ≤ 0 := by
        rcases Int.lt_or_le 0 (orP a b t) with z | z
        · have := pp h0' z
          have := m_pz hp' c.1
          have := m_pz hq' c.2
          omega
        · exact z
      have := m_zz a1 a2
      omega
theorem opn_dir {u a b s t W : Pt} (h : bet s W t) (hne : t ≠ s) : opn u a b (dl s t) ↔ opn u a b (dl s W) := by
  obtain ⟨p, q, hp, hq, h0, e1, e2⟩ := bet_comb h
  have q0 : 0 < q := by
    rcases Int.lt_or_le 0 q with w | w
    · exact w
    · exfalso
      obtain rfl : q = 0 := by omega
      rw [Int.zero_mul, Int.add_zero, Int.add_zero] at e1 e2
      exact hne (Prod.ext (Int.eq_of_mul_eq_mul_left (by omega) e1) (Int.eq_of_mul_eq_mul_left (by omega) e2))
  have e : ∀ x : Pt, (0 < cr x (dl s t) ↔ 0 < cr x (dl s W)) := by
    intro x
    refine (sgn_prop h0 q0 ?_).1
    have : (p + q) * cr x (dl s t) = x.1 * ((p + q) * t.2 - (p + q) * s.2) - x.2 * ((p + q) * t.1 - (p + q) * s.1) := by unfold cr dl; grind
    rw [this, e1, e2]; unfold cr dl; grind
  unfold opn
  rw [e, e]
theorem startsIn_dir {v : Nat → Pt} {n : Nat} {s t W : Pt} (h : bet s W t) (hne : t ≠ s) : startsIn v n s t ↔ startsIn v n s W := by
  obtain ⟨p, q, hc⟩ := bet_comb h
  have q0 : 0 < q := by
    obtain ⟨hp, hq, h0, e1, e2⟩ := hc
    rcases Int.lt_or_le 0 q with w | w
    · exact w
    · exfalso
      obtain rfl : q = 0 := by omega
      rw [Int.zero_mul, Int.add_zero, Int.add_zero] at e1 e2
      exact hne (Prod.ext (Int.eq_of_mul_eq_mul_left (by omega) e1) (Int.eq_of_mul_eq_mul_left (by omega) e2))
  have third : ∀ k, bet (v k) (v (k + 1)) s → (0 < orP (v k) (v (k + 1)) t ↔ 0 < orP (v k) (v (k + 1)) W) := by
    intro k b
    have e := comb_or hc (v k) (v (k + 1))
    rw [b.1, Int.mul_zero, Int.zero_add] at e
    exact (sgn_prop hc.2.2.1 q0 e).1
  unfold startsIn
  constructor
  · rintro (a | ⟨i, e, o⟩ | ⟨k, hk, b, n1, n2, o⟩)
    · exact Or.inl a
    · exact Or.inr (Or.inl ⟨i, e, (opn_dir h hne).mp o⟩)
    · exact Or.inr (Or.inr ⟨k, hk, b, n1, n2, (third k b).mp o⟩)
  · rintro (a | ⟨i, e, o⟩ | ⟨k, hk, b, n1, n2, o⟩)
    · exact Or.inl a
    · exact Or.inr (Or.inl ⟨i, e, (opn_dir h hne).mpr o⟩)
    · exact Or.inr (Or.inr ⟨k, hk, b, n1, n2, (third k b).mpr o⟩)
/-- the stops along U W: in their order, with all corners between -/
def stopsOf (v : Nat → Pt) (U W : Pt) (m : Nat) (s : Nat → Pt) : Prop := 0 < m ∧ s 0 = U ∧ s m = W ∧ (∀ j k, j < k → k ≤ m → bet U (s k) (s j) ∧ s j ≠ s k) ∧ (∀ j, 0 < j → j < m → ∃ i, s j = v i) ∧ ∀ i, bet U W (v i) → ∃ j, j ≤ m ∧ s j = v i
theorem stops_on {v : Nat → Pt} {U W : Pt} {m : Nat} {s : Nat → Pt} (h : stopsOf v U W m s) {j : Nat} (hj : j ≤ m) : bet U W (s j) := by
  obtain ⟨m0, s0, sm, ord, -⟩ := h
  by_cases q : j = m
  · subst q; rw [sm]; exact bet_b _ _
  · rw [← sm]; exact (ord j m (by omega) (Nat.le_refl _)).1
theorem stops_clean {v : Nat → Pt} {n : Nat} {U W : Pt} {m : Nat} {s : Nat → Pt} (h : stopsOf v U W m s) (hx : ∀ k, k < n → comP U W (v k) (v (k + 1)) ≠ 1) {k : Nat} (hk : k < m) : clean v n (s k) (s (k + 1)) := by
  have o1 := stops_on h (show k ≤ m by omega)
  have o2 := stops_on h (show k + 1 ≤ m by omega)
  obtain ⟨m0, s0, sm, ord, inner, all⟩ := id h
  have st := ord k (k + 1) (by omega) (by omega)
  refine ⟨st.2, fun i hi c => hx i hi (sub_com1 o1 o2 c), fun i b => ?_⟩
  obtain ⟨j, hj, e⟩ := all i (bet_conv o1 o2 b)
  rw [← e] at b ⊢
  rcases Nat.lt_trichotomy j k with q | q | q
  · left
    exact bet_mid st.1 (ord j k q (by omega)).1 b
  · subst q; exact Or.inl rfl
  · right
    by_cases q2 : j = k + 1
    · subst q2; rfl
    · have b2 := bet_tr' st.1 b
      have b3 := (ord (k + 1) j (by omega) hj).1
      exact bet_end b2 b3
/-- PASSES: the stops' middles tell the same as the openings at the corners between and the start -/
theorem pass_iff {v : Nat → Pt} {n : Nat} {U W : Pt} {m : Nat} {s mm : Nat → Pt} (h : soundS v n) (hl : lefty v) (hs : stopsOf v U W m s) (hx : ∀ k, k < n → comP U W (v k) (v (k + 1)) ≠ 1) (hm : ∀ k, k < m → mid (s k) (s (k + 1)) (mm k)) :
    (∃ k, k < m ∧ inn v n (mm k)) ↔ (startsIn v n U W ∨ ∃ i, v (i + 1) ≠ U ∧ v (i + 1) ≠ W ∧ bet U W (v (i + 1)) ∧ opn (v i) (v (i + 1)) (v (i + 2)) (dl (v (i + 1)) W)) := by
  have h3 := h.1
  obtain ⟨m0, s0, sm, ord, inner, all⟩ := id hs
  have fw : ∀ k, k < m → (inn v n (mm k) ↔ startsIn v n (s k) (s (k + 1))) := fun k hk => gap_in h hl (stops_clean hs hx hk) (hm k hk)
  -- from a stop on to W: the same way as to the next stop
  have dirW : ∀ k, k < m → (startsIn v n (s k) (s (k + 1)) ↔ startsIn v n (s k) W) := by
    intro k hk
    have st := ord k (k + 1) (by omega) (by omega)
    refine startsIn_dir ?_ (Ne.symm st.2)
    by_cases q : k + 1 = m
    · rw [q, sm]; exact bet_b _ _
    · have a1 := (ord (k + 1) m (by omega) (Nat.le_refl _)).1
      rw [sm] at a1
      -- U .. s k .. s (k+1) .. W
      have a2 := st.1
      have a3 := bet_tr a1 a2
      obtain ⟨p, q, hc⟩ := bet_comb a2
      have l : orP (s k) W (s (k + 1)) = 0 := by
        have z := par_zero (a := U) (b := W) (c := s k) (d := s (k + 1)) (by
          intro e
          have : s 0 ≠ s m := (ord 0 m m0 (Nat.le_refl _)).2
          rw [s0, sm] at this
          exact this e) a3.1 a1.1
        rw [or_p1, z.2]; rfl
      refine ⟨l, ?_⟩
      have b1 := a1.2
      have b2 := a2.2
      have b3 := a3.2
      unfold boxP at *
      omega
  -- at a corner the start is an opening
  have cor : ∀ i t, (startsIn v n (v (i + 1)) t ↔ opn (v i) (v (i + 1)) (v (i + 2)) (dl (v (i + 1)) t)) := by
    intro i t
    constructor
    · rintro (a | ⟨j, e, o⟩ | ⟨k, hk, b, n1, n2, -⟩)
      · obtain ⟨k, hk, b⟩ := corner_on h (i + 1)
        exact absurd b (a.1 k hk)
      · obtain ⟨e1, e2⟩ := same_corner h e
        rw [e1, e2, e]
        exact e ▸ o
      · rcases corner_not h hk b with ⟨-, c⟩ | ⟨c, -⟩
        · exact absurd c.symm n2
        · exact absurd c.symm n1
    · intro o
      exact Or.inr (Or.inl ⟨i, rfl, o⟩)
  have idx : ∀ i, ∃ j, v i = v (j + 1) := fun i => ⟨i + n - 1, by rw [show i + n - 1 + 1 = i + n by omega, h.2.1]⟩
  constructor
  · rintro ⟨k, hk, hi⟩
    have f := (dirW k hk).mp ((fw k hk).mp hi)
    by_cases q : k = 0
    · subst q
      rw [s0] at f
      exact Or.inl f
    · right
      obtain ⟨i, e⟩ := inner k (by omega) hk
      obtain ⟨j, e2⟩ := idx i
      rw [e, e2] at f
      refine ⟨j, ?_, ?_, ?_, (cor j W).mp f⟩
      · rw [← e2, ← e, ← s0]; exact Ne.symm (ord 0 k (by omega) (by omega)).2
      · rw [← e2, ← e, ← sm]; exact (ord k m hk (Nat.le_refl _)).2
      · rw [← e2, ← e]; exact stops_on hs (by omega)
  · rintro (f | ⟨i, nU, nW, b, o⟩)
    · refine ⟨0, m0, (fw 0 m0).mpr ((dirW 0 m0).mpr ?_)⟩
      rw [s0]; exact f
    · obtain ⟨j, hj, e⟩ := all (i + 1) b
      have j0 : j ≠ 0 := by rintro rfl; exact nU (by rw [← e, s0])
      have jm : j ≠ m := by rintro rfl; exact nW (by rw [← e, sm])
      refine ⟨j, by omega, (fw j (by omega)).mpr ((dirW j (by omega)).mpr ?_)⟩
      rw [e]
      exact (cor i W).mpr o
