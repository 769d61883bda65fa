/-- d leads left of both edges at corner i+1 -/
def LL (v : Nat → Pt) (i : Nat) (d : Pt) : Prop := 0 < cr (dl (v i) (v (i + 1))) d ∧ 0 < cr (dl (v (i + 1)) (v (i + 2))) d
theorem cr_neg (e d : Pt) : cr e (-d.1, -d.2) = -cr e d := by unfold cr; grind
section CONE
variable {v : Nat → Pt} {n : Nat} {N M D : Int}
theorem LL_ex (h : sound v n) (hB : big N M D) (hD : 64 * (M * M * M) ≤ D) (hM : ∀ i, bdd M (v i)) (i : Nat) : ∃ d, bdd D d ∧ LL v i d := by
  obtain ⟨d, h1, h2, h3⟩ := left_way hB.1 (hM i) (hM (i + 1)) (hM (i + 2)) (sound_next h i) (sound_next h (i + 1)) (sound_goes h i)
  refine ⟨d, ?_, h2, h3⟩
  unfold bdd at h1 ⊢
  omega
/-- the winding to the left of the ring is one number, all round -/
theorem left_const (h : sound v n) (hB : big N M D) (hD : 64 * (M * M * M) ≤ D) (hM : ∀ i, bdd M (v i)) {i j : Nat} {d e : Pt} (hd : bdd D d) (he : bdd D e) (hi : LL v i d) (hj : LL v j e) :
    wnd (fun k => scP N (v k)) n (pe N (v (i + 1)) d) = wnd (fun k => scP N (v k)) n (pe N (v (j + 1)) e) := by
  have n3 := h.1
  have go : ∀ m i d, bdd D d → LL v i d → ∀ e, bdd D e → LL v (i + m + 1) e → wnd (fun k => scP N (v k)) n (pe N (v (i + 1)) d) = wnd (fun k => scP N (v k)) n (pe N (v (i + m + 1 + 1)) e) := by
    intro m
    induction m with
    | zero =>
      intro i d hd hi e he hj
      exact ring_left h hB hM hd he hi.1 hi.2 hj.1 hj.2
    | succ m ih =>
      intro i d hd hi e he hj
      obtain ⟨f, hf, hff⟩ := LL_ex h hB hD hM (i + 1)
      rw [ring_left h hB hM hd hf hi.1 hi.2 hff.1 hff.2]
      have := ih (i + 1) f hf hff e he (by rw [show i + 1 + m + 1 = i + (m + 1) + 1 by omega]; exact hj)
      rw [show i + 1 + m + 1 + 1 = i + (m + 1) + 1 + 1 by omega] at this
      exact this
  have hj' : LL v (j + n * (i + 1)) e := by
    unfold LL at hj ⊢
    have e0 : ∀ c, v (j + n * (i + 1) + c) = v (j + c) := by
      intro c
      apply sound_eq h
      rw [show j + n * (i + 1) + c = j + c + n * (i + 1) by omega, Nat.add_mul_mod_self_left]
    have e1 := e0 0
    rw [Nat.add_zero, Nat.add_zero] at e1
    rw [e1, e0 1, e0 2]
    exact hj
  have hle : i + 1 ≤ j + n * (i + 1) := by
    have := Nat.mul_le_mul_right (i + 1) (show 1 ≤ n by omega)
    omega
  have q := go (j + n * (i + 1) - i - 1) i d hd hi e he (by rw [show i + (j + n * (i + 1) - i - 1) + 1 = j + n * (i + 1) by omega]; exact hj')
  rw [show i + (j + n * (i + 1) - i - 1) + 1 + 1 = j + 1 + n * (i + 1) by omega, sound_eq h (Nat.add_mul_mod_self_left (j + 1) n (i + 1))] at q
  exact q
/-- the winding to the right is one less -/
theorem right_const (h : sound v n) (hB : big N M D) (hD : 64 * (M * M * M) ≤ D) (hM : ∀ i, bdd M (v i)) {i j : Nat} {d e : Pt} (hd : bdd D d) (he : bdd D e) (hi : LL v i d) (hj : LL v j (-e.1, -e.2)) :
    wnd (fun k => scP N (v k)) n (pe N (v (i + 1)) d) = wnd (fun k => scP N (v k)) n (pe N (v (j + 1)) e) + 1 := by
  have n3 := h.1
  obtain ⟨f, hf, hff⟩ := LL_ex h hB hD hM (j + n - 1)
  have hj' : LL v (j + n) (-e.1, -e.2) := by
    unfold LL at hj ⊢
    have e0 : ∀ c, v (j + n + c) = v (j + c) := by
      intro c
      rw [show j + n + c = j + c + n by omega]
      exact h.2.1 _
    have e1 := e0 0
    rw [Nat.add_zero, Nat.add_zero] at e1
    rw [e1, e0 1, e0 2]
    exact hj
  unfold LL at hj'
  rw [cr_neg, cr_neg] at hj'
  rw [left_const h hB hD hM hd hf hi hff]
  have q := ring_across h hB hM (i := j + n - 1) hf he hff.1 hff.2 (by rw [show j + n - 1 + 1 = j + n by omega, show j + n - 1 + 2 = j + n + 1 by omega]; omega) (by rw [show j + n - 1 + 2 = j + n + 1 by omega, show j + n - 1 + 3 = j + n + 2 by omega]; omega)
  rw [q, show j + n - 1 + 2 = j + 1 + n by omega, h.2.1]
/-- a corner lies on no edge but its own two -/
theorem corner_off (h : sound v n) (i k : Nat) (hk : k < n) : (v k = v i ∧ v (k + 1) = v (i + 1)) ∨ (v k = v (i + 1) ∧ v (k + 1) = v (i + 2)) ∨ ¬ (orP (v k) (v (k + 1)) (v (i + 1)) = 0 ∧ boxP (v k) (v (k + 1)) (v (i + 1))) := by
  rcases sound_cases h i k hk with c | ⟨-, c⟩ | ⟨e1, e2⟩ | c
  · exact Or.inl c
  · exact Or.inr (Or.inl c)
  · right; right
    rw [e1, e2]
    rintro ⟨z, bx⟩
    have g : goes (v (i + 1)) (v (i + 2)) (v (i + 3)) := sound_goes h (i + 1)
    rw [← or_cyc] at z
    have g := g.resolve_left (fun q => q z)
    unfold boxP at bx
    rcases g with g | g
    · rcases mul_pos_cases g with q | q <;> omega
    · rcases mul_pos_cases g with q | q <;> omega
  · right; right
    rintro ⟨z, bx⟩
    have hon : onP (v k) (v (k + 1)) (v (i + 1)) = true := (onP_iff _ _ _).mpr ⟨z, bx⟩
    by_cases hn : orP (v k) (v (k + 1)) (v (i + 1)) = 0 ∧ orP (v k) (v (k + 1)) (v (i + 2)) = 0
    · have hcol : colP (v k) (v (k + 1)) (v (i + 1)) (v (i + 2)) = 0 := by
        unfold comP at c
        simp only [sg_eq0] at c
        rwa [if_pos hn] at c
      have hf := col_frames (sound_next h k) hn.1 hn.2 hcol
      have := on_meets hon (c := v (i + 1)) (d := v (i + 2)) (Or.inl rfl)
      rw [this.1, this.2] at hf
      rcases hf with q | q <;> cases q
    · unfold comP at c
      simp only [sg_mul, sg_lt0, sg_gt0, sg_eq0] at c
      rw [if_neg hn] at c
      by_cases h3 : orP (v k) (v (k + 1)) (v (i + 1)) * orP (v k) (v (k + 1)) (v (i + 2)) < 0 ∧ orP (v (i + 1)) (v (i + 2)) (v k) * orP (v (i + 1)) (v (i + 2)) (v (k + 1)) < 0
      · rw [if_pos h3] at c; exact absurd c (by decide)
      · rw [if_neg h3, if_pos] at c
        · exact absurd c (by decide)
        · unfold tchP
          rw [hon]; simp
end CONE
/-- a short step near a point that is off an edge keeps clear of it -/
theorem clr_spot {N M D : Int} {a b c d d' : Pt} (hB : big N M D) (ha : bdd M a) (hb : bdd M b) (hd : bdd D d) (hd' : bdd D d') (hab : a ≠ b) (h : ¬ (orP a b c = 0 ∧ boxP a b c)) : clr (scP N a) (scP N b) (pe N c d) (pe N c d') := by
  obtain ⟨p1, p2, p3⟩ := big_pos hB
  by_cases h0 : orP a b c = 0
  · have hbx : ¬ boxP a b c := fun q => h ⟨h0, q⟩
    have hs : spZ a.1 b.1 c.1 c.1 = false ∨ spZ a.2 b.2 c.2 c.2 = false := by
      cases q1 : spZ c.1 c.1 a.1 b.1 with
      | false => exact Or.inl ((spZ_comm c.1 c.1 a.1 b.1).trans q1)
      | true =>
        right
        cases q2 : spZ c.2 c.2 a.2 b.2 with
        | false => exact (spZ_comm c.2 c.2 a.2 b.2).trans q2
        | true =>
          exfalso
          apply hbx
          exact ⟨(spZ_pt _ _ _).mp q1, (spZ_pt _ _ _).mp q2⟩
    by_cases he : pe N c d = pe N c d'
    · rw [he]
      by_cases z : orP (scP N a) (scP N b) (pe N c d') = 0
      · exact Or.inl ⟨z, z⟩
      · refine Or.inr (Or.inl ?_)
        rcases Int.lt_or_le (orP (scP N a) (scP N b) (pe N c d')) 0 with q | q
        · exact nn q q
        · exact pp (by omega) (by omega)
    · apply clr_com
      rw [← met_com (sc_ne p1 hab) he]
      unfold metP
      rw [if_pos]
      have hB3 := hB.2.2
      have hD := hB.2.1
      rcases hs with q | q
      · exact Or.inl (sp_near (by omega) hD q hd.1 hd'.1)
      · exact Or.inr (sp_near (by omega) hD q hd.2 hd'.2)
  · refine Or.inr (Or.inl ?_)
    rcases Int.lt_or_le (orP a b c) 0 with q | q
    · exact nn (or_pe_neg hB ha hb hd (Or.inl q)) (or_pe_neg hB ha hb hd' (Or.inl q))
    · exact pp (or_pe_pos hB ha hb hd (Or.inl (by omega))) (or_pe_pos hB ha hb hd' (Or.inl (by omega)))
theorem plucker (e f d g : Pt) : cr e f * cr d g = cr e d * cr f g - cr e g * cr f d := by unfold cr; grind
theorem or_cr (u a b : Pt) : orP u a b = cr (dl u a) (dl a b) := by unfold orP cr dl; grind
/-- one who leaves a towards d comes to the inside: the class's opensTo -/
def opn (u a b d : Pt) : Prop := if 0 < orP u a b then 0 < cr (dl u a) d ∧ 0 < cr (dl a b) d else 0 < cr (dl u a) d ∨ 0 < cr (dl a b) d
/-- a turn about a corner, within the inside -/
theorem clr_turn {N M D : Int} {u a b d e : Pt} (hB : big N M D) (hu : bdd M u) (ha : bdd M a) (hb : bdd M b) (hd : bdd D d) (he : bdd D e) (g : goes u a b) (h : opn u a b d) (l1 : 0 < cr (dl u a) e) (l2 : 0 < cr (dl a b) e) :
    clr (scP N u) (scP N a) (pe N a d) (pe N a e) ∧ clr (scP N a) (scP N b) (pe N a d) (pe N a e) := by
  have pl := plucker (dl u a) (dl a b) d e
  rw [← or_cr] at pl
  have sa : orP (pe N a d) (pe N a e) (scP N a) = cr d e := by rw [or_pp, cr_self, cr_self, or_self1]; simp
  have su := or_pp_lin (c := a) (c' := a) (a := u) hB hd he (show orP a a u = 0 by unfold orP; grind)
  have sb := or_pp_lin (c := a) (c' := a) (a := b) hB hd he (show orP a a b = 0 by unfold orP; grind)
  have p1 : 0 < orP (scP N u) (scP N a) (pe N a e) := or_pe_pos hB hu ha he (Or.inr ⟨or_self2 u a, l1⟩)
  have p2 : 0 < orP (scP N a) (scP N b) (pe N a e) := or_pe_pos hB ha hb he (Or.inr ⟨or_self1 a b, l2⟩)
  have q1 : 0 < cr (dl u a) d → 0 < orP (scP N u) (scP N a) (pe N a d) := fun q => or_pe_pos hB hu ha hd (Or.inr ⟨or_self2 u a, q⟩)
  have q2 : 0 < cr (dl a b) d → 0 < orP (scP N a) (scP N b) (pe N a d) := fun q => or_pe_pos hB ha hb hd (Or.inr ⟨or_self1 a b, q⟩)
  by_cases c1 : 0 < cr (dl u a) d
  · by_cases c2 : 0 < cr (dl a b) d
    · exact ⟨Or.inr (Or.inl (pp (q1 c1) p1)), Or.inr (Or.inl (pp (q2 c2) p2))⟩
    · have ht : orP u a b < 0 := by
        unfold opn at h
        rcases Int.lt_trichotomy (orP u a b) 0 with t | t | t
        · exact t
        · exact absurd ((straight_left t g).mp c1) c2
        · rw [if_pos t] at h; exact absurd h.2 c2
      refine ⟨Or.inr (Or.inl (pp (q1 c1) p1)), Or.inr (Or.inr ?_)⟩
      have w1 := pp c1 l2
      have w2 := m_pz (Int.le_of_lt l1) (show cr (dl a b) d ≤ 0 by omega)
      have hde : cr d e < 0 := by
        rcases Int.lt_or_le (cr d e) 0 with q | q
        · exact q
        · have := m_zp (Int.le_of_lt ht) q; omega
      rw [sa]
      refine nn hde (sb.2 ?_)
      rw [cr_rev a b, cr_rev a b]; omega
  · have c2 : 0 < cr (dl a b) d := by
      unfold opn at h
      split at h
      · exact h.2
      · exact h.resolve_left c1
    have ht : orP u a b < 0 := by
      unfold opn at h
      rcases Int.lt_trichotomy (orP u a b) 0 with t | t | t
      · exact t
      · exact absurd ((straight_left t g).mpr c2) c1
      · rw [if_pos t] at h; exact absurd h.1 c1
    refine ⟨Or.inr (Or.inr ?_), Or.inr (Or.inl (pp (q2 c2) p2))⟩
    have w1 := m_zp (show cr (dl u a) d ≤ 0 by omega) (Int.le_of_lt l2)
    have w2 := pp l1 c2
    have hde : 0 < cr d e := by
      rcases Int.lt_or_le 0 (cr d e) with q | q
      · exact q
      · have := m_zz (Int.le_of_lt ht) q; omega
    rw [sa]
    refine pp (su.1 ?_) hde
    omega
