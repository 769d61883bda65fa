theorem sc_lt {K : Int} (hK : 0 < K) (a b : Pt) : ltP (scP K a) (scP K b) = ltP a b := by
  have m1 : ∀ p q : Int, K * p < K * q ↔ p < q := fun p q => ⟨fun h => Int.lt_of_mul_lt_mul_left h (Int.le_of_lt hK), fun h => Int.mul_lt_mul_of_pos_left h hK⟩
  have m2 : ∀ p q : Int, K * p = K * q ↔ p = q := fun p q => ⟨fun h => Int.eq_of_mul_eq_mul_left (by omega) h, fun h => by rw [h]⟩
  unfold ltP scP
  dsimp only
  simp only [m1, m2]
theorem sc_S {v : Nat → Pt} {n : Nat} {K : Int} (hK : 0 < K) (h : soundS v n) : soundS (fun i => scP K (v i)) n := by
  refine ⟨h.1, fun i => ?_, fun i j hi hj e => ?_, fun i k hik hk N x hN g1 g2 => ?_⟩
  · show scP K (v (i + n)) = scP K (v i)
    rw [h.2.1]
  · exact h.2.2.1 i j hi hj (sc_inj hK e)
  · have g1 : bet (scP N (scP K (v i))) (scP N (scP K (v (i + 1)))) x := g1
    have g2 : bet (scP N (scP K (v k))) (scP N (scP K (v (k + 1)))) x := g2
    show (_ ∧ x = scP N (scP K (v i))) ∨ (_ ∧ x = scP N (scP K (v k)))
    rw [sc_sc, sc_sc] at g1 g2
    rw [sc_sc, sc_sc]
    exact h.2.2.2 i k hik hk (N * K) x (pp hN hK) g1 g2
theorem sc_lefty {v : Nat → Pt} {K : Int} (hK : 0 < K) (h : lefty v) : lefty (fun i => scP K (v i)) := by
  obtain ⟨i, h1, h2⟩ := h
  refine ⟨i, fun k => ?_, ?_⟩
  · show ltP (scP K (v k)) (scP K (v (i + 1))) = false
    rw [sc_lt hK]; exact h1 k
  · show 0 < orP (scP K (v i)) (scP K (v (i + 1))) (scP K (v (i + 2)))
    rw [or_sc]; exact pp (pp hK hK) h2
def crosses (v : Nat → Pt) (k : Nat) (y : Int) : Prop := ((v k).2 < y ∧ y < (v (k + 1)).2) ∨ ((v (k + 1)).2 < y ∧ y < (v k).2)
theorem or_lev (a b : Pt) (p q y : Int) : orP a b (p, y) = orP a b (q, y) + (q - p) * (b.2 - a.2) := by unfold orP; dsimp only; grind
theorem bet_lev {a b : Pt} {p q y : Int} (hne : a.2 ≠ b.2) (h1 : orP a b (p, y) = 0) (h2 : orP a b (q, y) = 0) : p = q := by
  have := or_lev a b p q y
  rw [h1, h2, Int.zero_add] at this
  rcases Int.mul_eq_zero.mp this.symm with w | w <;> omega
theorem wnd01_level {v : Nat → Pt} {n : Nat} (h : soundS v n) (hl : lefty v) {c : Pt} (hc : off v n c) (lev : ∀ i, (v i).2 ≠ c.2) (T : Nat → Int) (hT : ∀ k, k < n → crosses v k c.2 → bet (v k) (v (k + 1)) (T k, c.2)) : wnd v n c = 0 ∨ wnd v n c = 1 := by
  have h3 := h.1
  have orT : ∀ k, k < n → crosses v k c.2 → orP (v k) (v (k + 1)) c = (T k - c.1) * ((v (k + 1)).2 - (v k).2) := by
    intro k hk hcr
    have := or_lev (v k) (v (k + 1)) c.1 (T k) c.2
    rw [(hT k hk hcr).1, Int.zero_add] at this
    exact this
  rcases least_ex (fun k => crosses v k c.2 ∧ c.1 < T k) T n with q | ⟨k, hk, ⟨hcr, hlt⟩, hm⟩
  · left
    have e : wnd v n c = sumZ (fun _ => 0) n := by
      refine sumZ_congr n (fun k hk => ?_)
      have l1 := lev k
      have l2 := lev (k + 1)
      unfold chi
      by_cases c1 : (v k).2 ≤ c.2 ∧ c.2 < (v (k + 1)).2 ∧ 0 < orP (v k) (v (k + 1)) c
      · exfalso
        have hcr : crosses v k c.2 := Or.inl (by omega)
        have o := orT k hk hcr
        refine q k hk ⟨hcr, ?_⟩
        rcases mul_pos_cases (show 0 < (T k - c.1) * ((v (k + 1)).2 - (v k).2) by omega) with w | w <;> omega
      · rw [if_neg c1]
        by_cases c2 : c.2 < (v k).2 ∧ (v (k + 1)).2 ≤ c.2 ∧ orP (v k) (v (k + 1)) c < 0
        · exfalso
          have hcr : crosses v k c.2 := Or.inr (by omega)
          have o := orT k hk hcr
          refine q k hk ⟨hcr, ?_⟩
          rcases mul_neg_cases (show (T k - c.1) * ((v (k + 1)).2 - (v k).2) < 0 by omega) with w | w <;> omega
        · rw [if_neg c2]
    rw [e]
    have z : ∀ n, sumZ (fun _ => 0) n = 0 := by
      intro n
      induction n with
      | zero => rfl
      | succ n ih => show sumZ (fun _ => 0) n + 0 = 0; omega
    exact z n
  · have hb := hT k hk hcr
    have x1 : (T k, c.2) ≠ v k := fun e => lev k (by rw [← e])
    have x2 : (T k, c.2) ≠ v (k + 1) := fun e => lev (k + 1) (by rw [← e])
    have hcx : c ≠ (T k, c.2) := by
      intro e
      have : c.1 = T k := congrArg Prod.fst e
      omega
    have hs : ∀ i, i < n → i ≠ k → ¬ hit (v i) (v (i + 1)) c (T k, c.2) := by
      rintro i hi hik ⟨N, y, hN, g1, g2⟩
      have mm : ∀ p q : Int, p < q → N * p < N * q := fun p q h => Int.mul_lt_mul_of_pos_left h hN
      have y2 : y.2 = N * c.2 := by
        have := g2.2.2
        unfold scP at this
        dsimp only at this
        omega
      have y1 : N * c.1 ≤ y.1 ∧ y.1 ≤ N * T k := by
        have := g2.2.1
        unfold scP at this
        dsimp only at this
        have := mm _ _ hlt
        omega
      have l1 := lev i
      have l2 := lev (i + 1)
      have cri : crosses v i c.2 := by
        have := g1.2.2
        unfold scP at this
        dsimp only at this
        rw [y2] at this
        have le : ∀ p q : Int, N * p ≤ N * q → p ≤ q := fun p q h => Int.le_of_mul_le_mul_left h hN
        rcases this with ⟨p, q⟩ | ⟨p, q⟩
        · have := le _ _ p
          have := le _ _ q
          exact Or.inl (by omega)
        · have := le _ _ p
          have := le _ _ q
          exact Or.inr (by omega)
      have bi := hT i hi cri
      have bN := (bet_sc hN).mpr bi
      have ney : (scP N (v i)).2 ≠ (scP N (v (i + 1))).2 := by
        show N * (v i).2 ≠ N * (v (i + 1)).2
        intro e
        have := Int.eq_of_mul_eq_mul_left (show N ≠ 0 by omega) e
        unfold crosses at cri
        omega
      have ey : y.1 = N * T i := by
        refine bet_lev (y := N * c.2) ney ?_ bN.1
        have := g1.1
        rw [show y = (y.1, N * c.2) from Prod.ext rfl y2] at this
        exact this
      rw [ey] at y1
      have t1 : c.1 ≤ T i := Int.le_of_mul_le_mul_left y1.1 hN
      have t2 : T i ≤ T k := Int.le_of_mul_le_mul_left y1.2 hN
      have t3 : c.1 ≠ T i := by
        intro e
        apply hc i hi
        rw [show c = (T i, c.2) from Prod.ext e rfl]
        exact bi
      have t4 := hm i hi ⟨cri, by omega⟩
      have t5 : T i = T k := by omega
      rw [t5] at bi
      have := soundS_all h hi hk hik 1 (T k, c.2) (by decide) (by rw [sc_one, sc_one]; exact bi) (by rw [sc_one, sc_one]; exact hb)
      rw [sc_one, sc_one] at this
      rcases this with ⟨-, e⟩ | ⟨-, e⟩
      · exact lev i (by rw [← e])
      · exact x1 e
    have := left_edge h hl hk hb x1 x2 hcx hs
    have o := orT k hk hcr
    rcases Int.lt_trichotomy (orP (v k) (v (k + 1)) c) 0 with w | w | w
    · exact Or.inl (this.2 w)
    · exfalso
      rw [w] at o
      unfold crosses at hcr
      rcases Int.mul_eq_zero.mp o.symm with r | r <;> omega
    · exact Or.inr (this.1 w)
/-- a number that all these divide -/
theorem mult_ex (f : Nat → Int) : ∀ n, ∃ K : Int, 0 < K ∧ ∀ k, k < n → f k ≠ 0 → ∃ q, q * f k = K := by
  intro n
  induction n with
  | zero => exact ⟨1, by decide, fun k hk => absurd hk (by omega)⟩
  | succ n ih =>
    obtain ⟨K, hK, h⟩ := ih
    by_cases hn : f n = 0
    · refine ⟨K, hK, fun k hk hf => ?_⟩
      by_cases e : k = n
      · subst e; exact absurd hn hf
      · exact h k (by omega) hf
    · have key : ∃ K' r, 0 < K' ∧ K' = K * r ∧ ∃ q, q * f n = K' := by
        rcases Int.lt_or_le (f n) 0 with q | q
        · exact ⟨K * -f n, -f n, pp hK (by omega), rfl, -K, by grind⟩
        · exact ⟨K * f n, f n, pp hK (by omega), rfl, K, rfl⟩
      obtain ⟨K', r, p1, p2, p3⟩ := key
      refine ⟨K', p1, fun k hk hf => ?_⟩
      by_cases e : k = n
      · subst e; exact p3
      · obtain ⟨q, hq⟩ := h k (by omega) hf
        exact ⟨q * r, by rw [p2, ← hq]; grind⟩
theorem cross_pt {a b c : Pt} {K q : Int} (hq : q * (b.2 - a.2) = K) (hcr : (a.2 < c.2 ∧ c.2 < b.2) ∨ (b.2 < c.2 ∧ c.2 < a.2)) : bet (scP K a) (scP K b) (K * c.1 + q * orP a b c, K * c.2) := by
  have e : orP a b c = a.1 * (b.2 - c.2) + b.1 * (c.2 - a.2) - c.1 * (b.2 - a.2) := by unfold orP; grind
  rcases hcr with ⟨p, r⟩ | ⟨p, r⟩
  · refine comb_bet (s := b.2 - c.2) (t := c.2 - a.2) ⟨by omega, by omega, by omega, ?_, ?_⟩
    · show (b.2 - c.2 + (c.2 - a.2)) * (K * c.1 + q * orP a b c) = (b.2 - c.2) * (K * a.1) + (c.2 - a.2) * (K * b.1)
      rw [e, ← hq]; grind
    · show (b.2 - c.2 + (c.2 - a.2)) * (K * c.2) = (b.2 - c.2) * (K * a.2) + (c.2 - a.2) * (K * b.2)
      grind
  · refine comb_bet (s := c.2 - b.2) (t := a.2 - c.2) ⟨by omega, by omega, by omega, ?_, ?_⟩
    · show (c.2 - b.2 + (a.2 - c.2)) * (K * c.1 + q * orP a b c) = (c.2 - b.2) * (K * a.1) + (a.2 - c.2) * (K * b.1)
      rw [e, ← hq]; grind
    · show (c.2 - b.2 + (a.2 - c.2)) * (K * c.2) = (c.2 - b.2) * (K * a.2) + (a.2 - c.2) * (K * b.2)
      grind
theorem off_sc {v : Nat → Pt} {n : Nat} {c : Pt} {K : Int} (hK : 0 < K) : off (fun i => scP K (v i)) n (scP K c) ↔ off v n c := by
  unfold off
  constructor
  · intro h k hk q
    exact h k hk ((bet_sc hK).mpr q)
  · intro h k hk q
    exact h k hk ((bet_sc hK).mp q)
theorem wnd01_lev {v : Nat → Pt} {n : Nat} (h : soundS v n) (hl : lefty v) {c : Pt} (hc : off v n c) (lev : ∀ i, (v i).2 ≠ c.2) : wnd v n c = 0 ∨ wnd v n c = 1 := by
  obtain ⟨K, hK, hd⟩ := mult_ex (fun k => (v (k + 1)).2 - (v k).2) n
  rw [← wnd_sc hK]
  have ex : ∀ k, ∃ t : Int, k < n → crosses (fun i => scP K (v i)) k (scP K c).2 → bet (scP K (v k)) (scP K (v (k + 1))) (t, (scP K c).2) := by
    intro k
    by_cases q : k < n ∧ crosses (fun i => scP K (v i)) k (scP K c).2
    · obtain ⟨hk, hcr⟩ := q
      have hcr' : ((v k).2 < c.2 ∧ c.2 < (v (k + 1)).2) ∨ ((v (k + 1)).2 < c.2 ∧ c.2 < (v k).2) := by
        have lt : ∀ p q : Int, K * p < K * q → p < q := fun p q h => Int.lt_of_mul_lt_mul_left h (Int.le_of_lt hK)
        rcases hcr with ⟨p, q⟩ | ⟨p, q⟩
        · exact Or.inl ⟨lt _ _ p, lt _ _ q⟩
        · exact Or.inr ⟨lt _ _ p, lt _ _ q⟩
      obtain ⟨q, hq⟩ := hd k hk (by omega)
      exact ⟨K * c.1 + q * orP (v k) (v (k + 1)) c, fun _ _ => cross_pt hq hcr'⟩
    · exact ⟨0, fun a b => absurd ⟨a, b⟩ q⟩
  obtain ⟨T, hT⟩ := Classical.axiomOfChoice ex
  refine wnd01_level (sc_S hK h) (sc_lefty hK hl) ((off_sc hK).mpr hc) (fun i e => ?_) T hT
  have e : K * (v i).2 = K * c.2 := e
  exact lev i (Int.eq_of_mul_eq_mul_left (by omega) e)
/-- FACT A -/
theorem wnd01 {v : Nat → Pt} {n : Nat} (h : soundS v n) (hl : lefty v) {c : Pt} (hc : off v n c) : wnd v n c = 0 ∨ wnd v n c = 1 := by
  have h3 := h.1
  obtain ⟨M, hM0, hM, hcM⟩ := bdd_ex v n (by omega) h.2.1 c
  obtain ⟨N, D, hB, hD, hD2⟩ := big_ex M hM0
  have p1 := (big_pos hB).1
  have hN2 : 2 ≤ N := by have := hB.2.2; have := hB.2.1; have := big_pos hB; omega
  have b0 : bdd D (0, 0) := by unfold bdd; dsimp only; omega
  have b1 : bdd D (0, 1) := by unfold bdd; dsimp only; omega
  have e0 : pe N c (0, 0) = scP N c := by unfold pe scP; simp
  have mv : wnd (fun k => scP N (v k)) n (scP N c) = wnd (fun k => scP N (v k)) n (pe N c (0, 1)) := by
    refine wnd_move (fun k hk => sc_ne p1 (soundS_next h hk)) ?_ (fun k hk => ?_)
    · show scP N (v n) = scP N (v 0)
      rw [v_n h.2.1]
    · have := clr_spot (c := c) hB (hM k) (hM (k + 1)) b0 b1 (soundS_next h hk) (hc k hk)
      rwa [e0] at this
  rw [← wnd_sc p1, mv]
  refine wnd01_lev (sc_S p1 h) (sc_lefty p1 hl) (fun k hk q => ?_) (fun i e => ?_)
  · have q : bet (scP N (v k)) (scP N (v (k + 1))) (pe N c (0, 1)) := q
    have z := q.1
    have z1 : orP (v k) (v (k + 1)) c = 0 ∧ cr (dl (v k) (v (k + 1))) (0, 1) = 0 := by
      rcases Int.lt_trichotomy (orP (v k) (v (k + 1)) c) 0 with w | w | w
      · have := or_pe_neg hB (hM k) (hM (k + 1)) b1 (c := c) (Or.inl w); omega
      · refine ⟨w, ?_⟩
        rcases Int.lt_trichotomy (cr (dl (v k) (v (k + 1))) (0, 1)) 0 with u | u | u
        · have := or_pe_neg hB (hM k) (hM (k + 1)) b1 (c := c) (Or.inr ⟨w, u⟩); omega
        · exact u
        · have := or_pe_pos hB (hM k) (hM (k + 1)) b1 (c := c) (Or.inr ⟨w, u⟩); omega
      · have := or_pe_pos hB (hM k) (hM (k + 1)) b1 (c := c) (Or.inl w); omega
    apply hc k hk
    refine ⟨z1.1, ?_⟩
    have z2 := z1.2
    unfold cr dl at z2
    dsimp only at z2
    have bx := q.2
    unfold boxP pe scP at bx
    dsimp only at bx
    have le : ∀ p q : Int, N * p ≤ N * q → p ≤ q := fun p q h => Int.le_of_mul_le_mul_left h p1
    have le1 : ∀ p q : Int, N * p ≤ N * q + 1 → p ≤ q := by
      intro p q h
      rcases Int.lt_or_le q p with w | w
      · have := Int.mul_le_mul_of_nonneg_left (show q + 1 ≤ p by omega) (Int.le_of_lt p1)
        rw [Int.mul_add, Int.mul_one] at this
        omega
      · exact w
    have le2 : ∀ p q : Int, N * q + 1 ≤ N * p → q ≤ p := by
      intro p q h
      exact le _ _ (by omega)
    have r1 := le (v k).1 c.1
    have r2 := le c.1 (v k).1
    have r3 := le c.1 (v (k + 1)).1
    have r4 := le (v (k + 1)).1 c.1
    have r5 := le1 (v k).2 c.2
    have r6 := le1 (v (k + 1)).2 c.2
    have r7 := le2 (v k).2 c.2
    have r8 := le2 (v (k + 1)).2 c.2
    unfold boxP
    omega
  · have e : N * (v i).2 = N * c.2 + 1 := e
    have : N * ((v i).2 - c.2) = 1 := by rw [Int.mul_sub]; omega
    rcases Int.lt_or_le 0 ((v i).2 - c.2) with w | w
    · have := Int.mul_le_mul_of_nonneg_left (show 1 ≤ (v i).2 - c.2 by omega) (Int.le_of_lt p1)
      omega
    · have := m_pz (Int.le_of_lt p1) w
      omega
