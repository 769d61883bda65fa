/-! ===== points near corners, at a great scale N ===== -/
def pe (N : Int) (p d : Pt) : Pt := (N * p.1 + d.1, N * p.2 + d.2)
def dl (a b : Pt) : Pt := (b.1 - a.1, b.2 - a.2)
def cr (e d : Pt) : Int := e.1 * d.2 - e.2 * d.1
theorem or_pe (N : Int) (a b c d : Pt) : orP (scP N a) (scP N b) (pe N c d) = N * (N * orP a b c + cr (dl a b) d) := by unfold orP scP pe cr dl; grind
theorem or_pp (N : Int) (c c' d d' a : Pt) : orP (pe N c d) (pe N c' d') (scP N a) = N * (N * orP c c' a + (cr (dl a c) d' - cr (dl a c') d)) + cr d d' := by unfold orP scP pe cr dl; grind
def bdd (M : Int) (p : Pt) : Prop := (-M ≤ p.1 ∧ p.1 ≤ M) ∧ (-M ≤ p.2 ∧ p.2 ≤ M)
def big (N M D : Int) : Prop := 0 < M ∧ 0 < D ∧ 16 * (M * D) + 4 * (D * D) + 4 * D + 2 ≤ N
theorem cr_le {e d : Pt} {A D : Int} (he : bdd A e) (hd : bdd D d) : -(2 * (A * D)) ≤ cr e d ∧ cr e d ≤ 2 * (A * D) := by
  obtain ⟨e1, e2⟩ := he
  obtain ⟨d1, d2⟩ := hd
  have w1 := mulB e1 d2
  have w2 := mulB e2 d1
  unfold cr
  omega
theorem dl_bdd {M : Int} {a b : Pt} (ha : bdd M a) (hb : bdd M b) : bdd (2 * M) (dl a b) := by
  unfold bdd dl at *
  omega
theorem big_pos {N M D : Int} (h : big N M D) : 0 < N ∧ 0 < M * D ∧ 0 < D * D := by
  obtain ⟨h1, h2, h3⟩ := h
  have := pp h1 h2
  have := pp h2 h2
  omega
theorem lex_pos {N x y : Int} (hy : -N < y ∧ y < N) (hN : 0 < N) (hx : 0 < x) : 0 < N * x + y := by
  have := Int.mul_le_mul_of_nonneg_left (show 1 ≤ x by omega) (Int.le_of_lt hN)
  omega
theorem lex_neg {N x y : Int} (hy : -N < y ∧ y < N) (hN : 0 < N) (hx : x < 0) : N * x + y < 0 := by
  have := Int.mul_le_mul_of_nonneg_left (show x ≤ -1 by omega) (Int.le_of_lt hN)
  omega
/-- three levels -/
theorem lex3_pos {N x y z : Int} (hy : -N < 2 * y ∧ 2 * y < N) (hz : -N < z ∧ z < N) (hN : 2 ≤ N) (hx : 0 < x) : 0 < N * (N * x + y) + z := by
  have w := Int.mul_le_mul_of_nonneg_left (show 1 ≤ x by omega) (show 0 ≤ N by omega)
  have : 1 ≤ N * x + y := by omega
  have := Int.mul_le_mul_of_nonneg_left this (show 0 ≤ N by omega)
  omega
theorem lex3_neg {N x y z : Int} (hy : -N < 2 * y ∧ 2 * y < N) (hz : -N < z ∧ z < N) (hN : 2 ≤ N) (hx : x < 0) : N * (N * x + y) + z < 0 := by
  have w := Int.mul_le_mul_of_nonneg_left (show x ≤ -1 by omega) (show 0 ≤ N by omega)
  have : N * x + y ≤ -1 := by omega
  have := Int.mul_le_mul_of_nonneg_left this (show 0 ≤ N by omega)
  omega
/-- the sign of a side, near: first the corner's, then the way's -/
theorem or_pe_pos {N M D : Int} {a b c d : Pt} (hB : big N M D) (ha : bdd M a) (hb : bdd M b) (hd : bdd D d) (h : 0 < orP a b c ∨ (orP a b c = 0 ∧ 0 < cr (dl a b) d)) : 0 < orP (scP N a) (scP N b) (pe N c d) := by
  obtain ⟨p1, p2, p3⟩ := big_pos hB
  have c1 := cr_le (dl_bdd ha hb) hd
  have hB3 := hB.2.2
  have e : 2 * M * D = 2 * (M * D) := Int.mul_assoc 2 M D
  have hD := hB.2.1
  rw [or_pe]
  apply pp p1
  rcases h with h | ⟨h, h'⟩
  · exact lex_pos ⟨by omega, by omega⟩ p1 h
  · rw [h, Int.mul_zero]; omega
theorem or_pe_neg {N M D : Int} {a b c d : Pt} (hB : big N M D) (ha : bdd M a) (hb : bdd M b) (hd : bdd D d) (h : orP a b c < 0 ∨ (orP a b c = 0 ∧ cr (dl a b) d < 0)) : orP (scP N a) (scP N b) (pe N c d) < 0 := by
  obtain ⟨p1, p2, p3⟩ := big_pos hB
  have c1 := cr_le (dl_bdd ha hb) hd
  have hB3 := hB.2.2
  have e : 2 * M * D = 2 * (M * D) := Int.mul_assoc 2 M D
  have hD := hB.2.1
  rw [or_pe]
  apply pn p1
  rcases h with h | ⟨h, h'⟩
  · exact lex_neg ⟨by omega, by omega⟩ p1 h
  · rw [h, Int.mul_zero]; omega
theorem or_pp_bd {N M D : Int} {c c' d d' a : Pt} (hB : big N M D) (ha : bdd M a) (hc : bdd M c) (hc' : bdd M c') (hd : bdd D d) (hd' : bdd D d') : (-N < 2 * (cr (dl a c) d' - cr (dl a c') d) ∧ 2 * (cr (dl a c) d' - cr (dl a c') d) < N) ∧ (-N < cr d d' ∧ cr d d' < N) ∧ 2 ≤ N := by
  obtain ⟨p1, p2, p3⟩ := big_pos hB
  have c1 := cr_le (dl_bdd ha hc) hd'
  have c2 := cr_le (dl_bdd ha hc') hd
  have c3 := cr_le hd hd'
  have hB3 := hB.2.2
  have hD := hB.2.1
  have e : 2 * M * D = 2 * (M * D) := Int.mul_assoc 2 M D
  omega
theorem or_pp_pos {N M D : Int} {c c' d d' a : Pt} (hB : big N M D) (ha : bdd M a) (hc : bdd M c) (hc' : bdd M c') (hd : bdd D d) (hd' : bdd D d') (h : 0 < orP c c' a) : 0 < orP (pe N c d) (pe N c' d') (scP N a) := by
  obtain ⟨b1, b2, b3⟩ := or_pp_bd hB ha hc hc' hd hd'
  rw [or_pp]
  exact lex3_pos b1 b2 b3 h
theorem or_pp_neg {N M D : Int} {c c' d d' a : Pt} (hB : big N M D) (ha : bdd M a) (hc : bdd M c) (hc' : bdd M c') (hd : bdd D d) (hd' : bdd D d') (h : orP c c' a < 0) : orP (pe N c d) (pe N c' d') (scP N a) < 0 := by
  obtain ⟨b1, b2, b3⟩ := or_pp_bd hB ha hc hc' hd hd'
  rw [or_pp]
  exact lex3_neg b1 b2 b3 h
/-- on one line and apart: the frames are apart -/
theorem col_frames {a b c d : Pt} (hab : a ≠ b) (hc : orP a b c = 0) (hd : orP a b d = 0) (h : colP a b c d = 0) : spZ a.1 b.1 c.1 d.1 = false ∨ spZ a.2 b.2 c.2 d.2 = false := by
  have hsep : (ltP a c = true ∧ ltP a d = true ∧ ltP b c = true ∧ ltP b d = true) ∨ (ltP c a = true ∧ ltP c b = true ∧ ltP d a = true ∧ ltP d b = true) := by
    rw [colP_lt] at h
    by_cases h1 : ltP (colF a b c d) (colL a b c d) = true
    · rw [if_pos h1] at h; exact absurd h (by decide)
    · rw [if_neg h1] at h
      by_cases h2 : ltP (colL a b c d) (colF a b c d) = true
      · have tr : ∀ x X Y y : Pt, ltP X x = false → ltP X Y = true → ltP y Y = false → ltP x y = true := by
          intro x X Y y g1 g2 g3
          rw [ltP_f] at g1 g3
          rw [ltP_t] at g2 ⊢
          omega
        have ir : ∀ x y : Pt, ltP y x = false → ltP x y = false → ltP x y = true → False := by
          intro x y _ g2 g3
          rw [g2] at g3; cases g3
        have mn1 : ∀ x y : Pt, ltP x (mnP x y) = false ∧ ltP y (mnP x y) = false := by
          intro x y
          rw [mnP_lt]
          by_cases q : ltP x y = true
          · rw [if_pos q]
            rw [ltP_t] at q
            rw [ltP_f, ltP_f]
            omega
          · rw [if_neg q]
            have q' : ltP x y = false := by simpa using q
            rw [ltP_f] at q' ⊢
            rw [ltP_f]
            omega
        have mx1 : ∀ x y : Pt, ltP (mxP x y) x = false ∧ ltP (mxP x y) y = false := by
          intro x y
          rw [mxP_lt]
          by_cases q : ltP x y = true
          · rw [if_pos q]
            rw [ltP_t] at q
            rw [ltP_f, ltP_f]
            omega
          · rw [if_neg q]
            have q' : ltP x y = false := by simpa using q
            rw [ltP_f] at q' ⊢
            rw [ltP_f]
            omega
        have nn1 : ∀ x y : Pt, ltP (mxP x y) (mnP x y) = true → False := by
          intro x y g
          have g1 := (mx1 x y).1
          have g2 := (mn1 x y).1
          rw [ltP_t] at g
          rw [ltP_f] at g1 g2
          omega
        rw [colF_lt, colL_lt] at h2
        by_cases q1 : ltP (mnP a b) (mnP c d) = true
        · rw [if_pos q1] at h2
          by_cases q2 : ltP (mxP a b) (mxP c d) = true
          · rw [if_pos q2] at h2
            exact Or.inl ⟨tr _ _ _ _ (mx1 a b).1 h2 (mn1 c d).1, tr _ _ _ _ (mx1 a b).1 h2 (mn1 c d).2, tr _ _ _ _ (mx1 a b).2 h2 (mn1 c d).1, tr _ _ _ _ (mx1 a b).2 h2 (mn1 c d).2⟩
          · rw [if_neg q2] at h2
            exact absurd h2 (fun h => nn1 _ _ h)
        · rw [if_neg q1] at h2
          by_cases q2 : ltP (mxP a b) (mxP c d) = true
          · rw [if_pos q2] at h2
            exact absurd h2 (fun h => nn1 _ _ h)
          · rw [if_neg q2] at h2
            exact Or.inr ⟨tr _ _ _ _ (mx1 c d).1 h2 (mn1 a b).1, tr _ _ _ _ (mx1 c d).1 h2 (mn1 a b).2, tr _ _ _ _ (mx1 c d).2 h2 (mn1 a b).1, tr _ _ _ _ (mx1 c d).2 h2 (mn1 a b).2⟩
      · rw [if_neg h2] at h; exact absurd h (by decide)
  have e1 : (c.2 - a.2) * (b.1 - a.1) = (c.1 - a.1) * (b.2 - a.2) := by unfold orP at hc; grind
  have e2 : (c.2 - b.2) * (b.1 - a.1) = (c.1 - b.1) * (b.2 - a.2) := by unfold orP at hc; grind
  have e3 : (d.2 - a.2) * (b.1 - a.1) = (d.1 - a.1) * (b.2 - a.2) := by unfold orP at hd; grind
  have e4 : (d.2 - b.2) * (b.1 - a.1) = (d.1 - b.1) * (b.2 - a.2) := by unfold orP at hd; grind
  simp only [ltP_t] at hsep
  rw [spZ_f, spZ_f]
  by_cases hx : b.1 - a.1 = 0
  · have hy2 : b.2 - a.2 ≠ 0 := fun h2 => hab (Prod.ext (by omega) (by omega))
    have hcx : c.1 = a.1 := by
      rw [hx, Int.mul_zero] at e1
      rcases Int.mul_eq_zero.mp e1.symm with q | q
      · omega
      · exact absurd q hy2
    have hdx : d.1 = a.1 := by
      rw [hx, Int.mul_zero] at e3
      rcases Int.mul_eq_zero.mp e3.symm with q | q
      · omega
      · exact absurd q hy2
    right
    have ax : ∀ p q : Pt, (p.1 < q.1 ∨ (p.1 = q.1 ∧ p.2 < q.2)) → p.1 = q.1 → p.2 < q.2 := by
      intro p q g1 g2
      omega
    rcases hsep with ⟨g1, g2, g3, g4⟩ | ⟨g1, g2, g3, g4⟩
    · exact Or.inl ⟨ax _ _ g1 (by omega), ax _ _ g2 (by omega), ax _ _ g3 (by omega), ax _ _ g4 (by omega)⟩
    · exact Or.inr ⟨ax _ _ g1 (by omega), ax _ _ g2 (by omega), ax _ _ g3 (by omega), ax _ _ g4 (by omega)⟩
  · have s : ∀ u v w z : Int, u * (b.1 - a.1) = v * (b.2 - a.2) → v = 0 → u = 0 := by
      intro u v _ _ e hv
      rw [hv, Int.zero_mul] at e
      rcases Int.mul_eq_zero.mp e with q | q
      · exact q
      · exact absurd q hx
    have t1 := s _ _ 0 0 e1
    have t2 := s _ _ 0 0 e2
    have t3 := s _ _ 0 0 e3
    have t4 := s _ _ 0 0 e4
    have sx : ∀ p q : Pt, (p.1 < q.1 ∨ (p.1 = q.1 ∧ p.2 < q.2)) → (q.1 - p.1 = 0 → q.2 - p.2 = 0) → p.1 < q.1 := by
      intro p q g1 g2
      omega
    have rv : ∀ p q : Pt, (q.1 - p.1 = 0 → q.2 - p.2 = 0) → (p.1 - q.1 = 0 → p.2 - q.2 = 0) := by
      intro p q g1 g2
      have := g1 (by omega)
      omega
    left
    rcases hsep with ⟨g1, g2, g3, g4⟩ | ⟨g1, g2, g3, g4⟩
    · exact Or.inl ⟨sx _ _ g1 t1, sx _ _ g2 t3, sx _ _ g3 t2, sx _ _ g4 t4⟩
    · exact Or.inr ⟨sx _ _ g1 (rv _ _ t1), sx _ _ g2 (rv _ _ t2), sx _ _ g3 (rv _ _ t3), sx _ _ g4 (rv _ _ t4)⟩
theorem pe_ne {N M D : Int} {c c' d d' : Pt} (hB : big N M D) (hd : bdd D d) (hd' : bdd D d') (h : c ≠ c') : pe N c d ≠ pe N c' d' := by
  intro e
  obtain ⟨p1, p2, p3⟩ := big_pos hB
  have hB3 := hB.2.2
  have hD := hB.2.1
  have e1 : N * c.1 + d.1 = N * c'.1 + d'.1 := congrArg Prod.fst e
  have e2 : N * c.2 + d.2 = N * c'.2 + d'.2 := congrArg Prod.snd e
  unfold bdd at hd hd'
  have key : ∀ x y s t : Int, N * x + s = N * y + t → (-D ≤ s ∧ s ≤ D) → (-D ≤ t ∧ t ≤ D) → x = y := by
    intro x y s t h1 h2 h3
    rcases Int.lt_trichotomy x y with h | h | h
    · have := Int.mul_le_mul_of_nonneg_left (show x + 1 ≤ y by omega) (Int.le_of_lt p1)
      rw [Int.mul_add, Int.mul_one] at this
      omega
    · exact h
    · have := Int.mul_le_mul_of_nonneg_left (show y + 1 ≤ x by omega) (Int.le_of_lt p1)
      rw [Int.mul_add, Int.mul_one] at this
      omega
  exact h (Prod.ext (key _ _ _ _ e1 hd.1 hd'.1) (key _ _ _ _ e2 hd.2 hd'.2))
theorem sc_ne {N : Int} (hN : 0 < N) {a b : Pt} (h : a ≠ b) : scP N a ≠ scP N b := by
  intro e
  have e1 : N * a.1 = N * b.1 := congrArg Prod.fst e
  have e2 : N * a.2 = N * b.2 := congrArg Prod.snd e
  exact h (Prod.ext (Int.eq_of_mul_eq_mul_left (by omega) e1) (Int.eq_of_mul_eq_mul_left (by omega) e2))
theorem sp_near {N D a b c c' d d' : Int} (hN : 2 * D < N) (hD : 0 < D) (h : spZ a b c c' = false) (hd : -D ≤ d ∧ d ≤ D) (hd' : -D ≤ d' ∧ d' ≤ D) : spZ (N * a) (N * b) (N * c + d) (N * c' + d') = false := by
  rw [spZ_f] at h ⊢
  have key : ∀ x y s : Int, x < y → (-D ≤ s ∧ s ≤ D) → N * x < N * y + s ∧ N * x + s < N * y := by
    intro x y s h1 h2
    have := Int.mul_le_mul_of_nonneg_left (show x + 1 ≤ y by omega) (show 0 ≤ N by omega)
    rw [Int.mul_add, Int.mul_one] at this
    omega
  rcases h with ⟨h1, h2, h3, h4⟩ | ⟨h1, h2, h3, h4⟩
  · exact Or.inl ⟨(key _ _ _ h1 hd).1, (key _ _ _ h2 hd').1, (key _ _ _ h3 hd).1, (key _ _ _ h4 hd').1⟩
  · exact Or.inr ⟨(key _ _ _ h1 hd).2, (key _ _ _ h2 hd).2, (key _ _ _ h3 hd').2, (key _ _ _ h4 hd').2⟩
/-- WHAT IS APART STAYS APART nearby -/
theorem clr_near {N M D : Int} {a b c c' d d' : Pt} (hB : big N M D) (ha : bdd M a) (hb : bdd M b) (hc : bdd M c) (hc' : bdd M c') (hd : bdd D d) (hd' : bdd D d') (hab : a ≠ b) (hcc : c ≠ c') (h : comP a b c c' = 0) : clr (scP N a) (scP N b) (pe N c d) (pe N c' d') := by
  obtain ⟨p1, p2, p3⟩ := big_pos hB
  by_cases hn : orP a b c = 0 ∧ orP a b c' = 0
  · have hcol : colP a b c c' = 0 := by
      unfold comP at h
      simp only [sg_eq0] at h
      rwa [if_pos hn] at h
    apply clr_com
    rw [← met_com (sc_ne p1 hab) (pe_ne hB hd hd' hcc)]
    unfold metP
    rw [if_pos]
    have hB3 := hB.2.2
    have hD := hB.2.1
    rcases col_frames hab hn.1 hn.2 hcol with q | q
    · exact Or.inl (sp_near (by omega) hD q hd.1 hd'.1)
    · exact Or.inr (sp_near (by omega) hD q hd.2 hd'.2)
  · rcases com_side h hn with q | q
    · refine Or.inr (Or.inl ?_)
      rcases mul_pos_cases q with ⟨r1, r2⟩ | ⟨r1, r2⟩
      · exact nn (or_pe_neg hB ha hb hd (Or.inl r1)) (or_pe_neg hB ha hb hd' (Or.inl r2))
      · exact pp (or_pe_pos hB ha hb hd (Or.inl r1)) (or_pe_pos hB ha hb hd' (Or.inl r2))
    · refine Or.inr (Or.inr ?_)
      rcases mul_pos_cases q with ⟨r1, r2⟩ | ⟨r1, r2⟩
      · exact nn (or_pp_neg hB ha hc hc' hd hd' r1) (or_pp_neg hB hb hc hc' hd hd' r2)
      · exact pp (or_pp_pos hB ha hc hc' hd hd' r1) (or_pp_pos hB hb hc hc' hd hd' r2)
