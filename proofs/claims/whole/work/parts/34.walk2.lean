theorem or_cyc (a b c : Pt) : orP a b c = orP b c a := by unfold orP; grind
theorem or_self1 (a b : Pt) : orP a b a = 0 := by unfold orP; grind
theorem or_self2 (a b : Pt) : orP a b b = 0 := by unfold orP; grind
theorem cr_self (a d : Pt) : cr (dl a a) d = 0 := by unfold cr dl; grind
theorem cr_rev (a b d : Pt) : cr (dl b a) d = -cr (dl a b) d := by unfold cr dl; grind
/-- near the ends of a step along a b, the edge's own ends lie to the right -/
theorem or_pp_a {N M D : Int} {a b d d' : Pt} (hB : big N M D) (hd : bdd D d) (hd' : bdd D d') (h : 0 < cr (dl a b) d) : orP (pe N a d) (pe N b d') (scP N a) < 0 := by
  obtain ⟨p1, p2, p3⟩ := big_pos hB
  have c3 := cr_le hd hd'
  have hB3 := hB.2.2
  have hD := hB.2.1
  rw [or_pp, or_self1, cr_self, Int.mul_zero, show (0 : Int) + (0 - cr (dl a b) d) = -cr (dl a b) d by omega]
  have := Int.mul_le_mul_of_nonneg_left (show -cr (dl a b) d ≤ -1 by omega) (Int.le_of_lt p1)
  omega
theorem or_pp_b {N M D : Int} {a b d d' : Pt} (hB : big N M D) (hd : bdd D d) (hd' : bdd D d') (h : 0 < cr (dl a b) d') : orP (pe N a d) (pe N b d') (scP N b) < 0 := by
  obtain ⟨p1, p2, p3⟩ := big_pos hB
  have c3 := cr_le hd hd'
  have hB3 := hB.2.2
  have hD := hB.2.1
  rw [or_pp, or_self2, cr_self, cr_rev, Int.mul_zero, show (0 : Int) + (-cr (dl a b) d' - 0) = -cr (dl a b) d' by omega]
  have := Int.mul_le_mul_of_nonneg_left (show -cr (dl a b) d' ≤ -1 by omega) (Int.le_of_lt p1)
  omega
/-- A STEP ALONG AN EDGE, just left of it, keeps clear of the edge, of the one before and of the one behind -/
theorem along {N M D : Int} {u a b w d d' : Pt} (hB : big N M D) (hu : bdd M u) (ha : bdd M a) (hb : bdd M b) (hw : bdd M w) (hd : bdd D d) (hd' : bdd D d') (g1 : goes u a b) (g2 : goes a b w) (l1 : 0 < cr (dl u a) d) (l2 : 0 < cr (dl a b) d) (l3 : 0 < cr (dl a b) d') (l4 : 0 < cr (dl b w) d') :
    clr (scP N u) (scP N a) (pe N a d) (pe N b d') ∧ clr (scP N a) (scP N b) (pe N a d) (pe N b d') ∧ clr (scP N b) (scP N w) (pe N a d) (pe N b d') := by
  refine ⟨?_, ?_, ?_⟩
  · have q1 : 0 < orP (scP N u) (scP N a) (pe N a d) := or_pe_pos hB hu ha hd (Or.inr ⟨or_self2 u a, l1⟩)
    rcases Int.lt_trichotomy (orP u a b) 0 with h | h | h
    · refine Or.inr (Or.inr (nn ?_ (or_pp_a hB hd hd' l2)))
      exact or_pp_neg hB hu ha hb hd hd' (by rw [← or_cyc]; exact h)
    · exact Or.inr (Or.inl (pp q1 (or_pe_pos hB hu ha hd' (Or.inr ⟨h, (straight_left h g1).mpr l3⟩))))
    · exact Or.inr (Or.inl (pp q1 (or_pe_pos hB hu ha hd' (Or.inl h))))
  · exact Or.inr (Or.inl (pp (or_pe_pos hB ha hb hd (Or.inr ⟨or_self1 a b, l2⟩)) (or_pe_pos hB ha hb hd' (Or.inr ⟨or_self2 a b, l3⟩))))
  · have q1 : 0 < orP (scP N b) (scP N w) (pe N b d') := or_pe_pos hB hb hw hd' (Or.inr ⟨or_self1 b w, l4⟩)
    rcases Int.lt_trichotomy (orP a b w) 0 with h | h | h
    · refine Or.inr (Or.inr (nn (or_pp_b hB hd hd' l3) ?_))
      exact or_pp_neg hB hw ha hb hd hd' h
    · exact Or.inr (Or.inl (pp (or_pe_pos hB hb hw hd (Or.inr ⟨by rw [← or_cyc]; exact h, (straight_left h g2).mp l2⟩)) q1))
    · exact Or.inr (Or.inl (pp (or_pe_pos hB hb hw hd (Or.inl (by rw [← or_cyc]; exact h))) q1))
/-- a sound ring of n corners, gone round again and again -/
def sound (v : Nat → Pt) (n : Nat) : Prop := 3 ≤ n ∧ (∀ i, v (i + n) = v i) ∧ (∀ i j, i < n → j < n → v i = v j → i = j) ∧ ∀ i j, i < j → j < n → comP (v i) (v (i + 1)) (v j) (v (j + 1)) = if j = i + 1 ∨ (i = 0 ∧ j = n - 1) then 2 else 0
theorem sound_per {v : Nat → Pt} {n : Nat} (h : sound v n) (i : Nat) : v i = v (i % n) := by
  have key : ∀ k r, v (r + n * k) = v r := by
    intro k
    induction k with
    | zero => intro r; rfl
    | succ k ih => intro r; rw [Nat.mul_succ, ← Nat.add_assoc, h.2.1, ih]
  have := key (i / n) (i % n)
  rw [Nat.mod_add_div] at this
  exact this
theorem sound_next {v : Nat → Pt} {n : Nat} (h : sound v n) (i : Nat) : v i ≠ v (i + 1) := by
  have h3 := h.1
  intro e
  rw [sound_per h i, sound_per h (i + 1)] at e
  have := h.2.2.1 _ _ (Nat.mod_lt _ (by omega)) (Nat.mod_lt _ (by omega)) e
  have e2 : (i + 1) % n = (i % n + 1) % n := by rw [Nat.add_mod, Nat.mod_eq_of_lt (show 1 < n by omega)]
  have hl := Nat.mod_lt i (show 0 < n by omega)
  rw [e2] at this
  by_cases q : i % n + 1 = n
  · rw [q, Nat.mod_self] at this; omega
  · have e3 : (i % n + 1) % n = i % n + 1 := Nat.mod_eq_of_lt (by omega)
    rw [e3] at this; omega
/-- of two edges that follow one another, said for every place -/
theorem sound_goes {v : Nat → Pt} {n : Nat} (h : sound v n) (i : Nat) : goes (v i) (v (i + 1)) (v (i + 2)) := by
  have h3 := h.1
  have hl := Nat.mod_lt i (show 0 < n by omega)
  have per := sound_per h
  have e1 : v (i + 1) = v (i % n + 1) := by rw [per (i + 1), per (i % n + 1), Nat.add_mod, Nat.mod_eq_of_lt (show 1 < n by omega)]
  have e2 : v (i + 2) = v (i % n + 2) := by
    rw [per (i + 2), per (i % n + 2)]
    congr 1
    rw [Nat.add_mod i 2, Nat.add_mod (i % n) 2, Nat.mod_mod]
  rw [per i, e1, e2]
  generalize i % n = r at hl
  by_cases q : r + 1 < n
  · have c := h.2.2.2 r (r + 1) (by omega) q
    rw [if_pos (Or.inl rfl)] at c
    exact goes_of (sound_next h r) (sound_next h (r + 1)) c
  · obtain rfl : r = n - 1 := by omega
    have c := h.2.2.2 0 (n - 1) (by omega) (by omega)
    rw [if_pos (Or.inr ⟨rfl, rfl⟩)] at c
    have w1 : v (n - 1 + 1) = v 0 := by have := h.2.1 0; rw [Nat.zero_add] at this; rw [show n - 1 + 1 = n by omega]; exact this
    have w2 : v (n - 1 + 2) = v 1 := by have := h.2.1 1; rw [show n - 1 + 2 = 1 + n by omega]; exact this
    rw [w1] at c
    rw [w1, w2]
    -- the first edge and the last one: the corner in common is v 0
    have n1 : v (n - 1) ≠ v 0 := by have := sound_next h (n - 1); rwa [w1] at this
    have n0 : v 0 ≠ v 1 := sound_next h 0
    by_cases z : orP (v (n - 1)) (v 0) (v 1) = 0
    · -- in line: turn both segments round
      have c2 : comP (v (n - 1)) (v 0) (v 0) (v 1) = 2 := by
        have hz1 : orP (v 0) (v 1) (v (n - 1)) = 0 := by rw [← or_cyc]; exact z
        have hz2 : orP (v 0) (v 1) (v 0) = 0 := or_self1 _ _
        unfold comP at c ⊢
        simp only [sg_eq0] at c ⊢
        rw [if_pos ⟨hz1, hz2⟩] at c
        rw [if_pos ⟨or_self2 _ _, z⟩]
        rw [colP_lt] at c ⊢
        have sF : colF (v (n - 1)) (v 0) (v 0) (v 1) = colF (v 0) (v 1) (v (n - 1)) (v 0) := by
          rw [colF_lt, colF_lt]
          generalize mnP (v (n - 1)) (v 0) = x
          generalize mnP (v 0) (v 1) = y
          by_cases q1 : ltP x y = true
          · rw [if_pos q1, if_neg]
            rw [ltP_t] at q1
            intro q2
            rw [ltP_t] at q2
            omega
          · rw [if_neg q1]
            by_cases q2 : ltP y x = true
            · rw [if_pos q2]
            · rw [if_neg q2]
              have q1' : ltP x y = false := by simpa using q1
              have q2' : ltP y x = false := by simpa using q2
              rw [ltP_f] at q1' q2'
              exact Prod.ext (by omega) (by omega)
        have sL : colL (v (n - 1)) (v 0) (v 0) (v 1) = colL (v 0) (v 1) (v (n - 1)) (v 0) := by
          rw [colL_lt, colL_lt]
          generalize mxP (v (n - 1)) (v 0) = x
          generalize mxP (v 0) (v 1) = y
          by_cases q1 : ltP x y = true
          · rw [if_pos q1, if_neg]
            rw [ltP_t] at q1
            intro q2
            rw [ltP_t] at q2
            omega
          · rw [if_neg q1]
            by_cases q2 : ltP y x = true
            · rw [if_pos q2]
            · rw [if_neg q2]
              have q1' : ltP x y = false := by simpa using q1
              have q2' : ltP y x = false := by simpa using q2
              rw [ltP_f] at q1' q2'
              exact Prod.ext (by omega) (by omega)
        rw [sF, sL]
        exact c
      exact goes_of n1 n0 c2
    · exact Or.inl z
/-- edges that do not follow one another have nothing in common -/
theorem sound_apart {v : Nat → Pt} {n : Nat} (h : sound v n) {i k : Nat} (hi : i < n) (hk : k < n) (h1 : k ≠ i) (h2 : k ≠ (i + 1) % n) (h3 : i ≠ (k + 1) % n) : comP (v k) (v (k + 1)) (v i) (v (i + 1)) = 0 := by
  have n3 := h.1
  have m1 : (i + 1) % n = if i + 1 = n then 0 else i + 1 := by
    split
    · rename_i q; rw [q, Nat.mod_self]
    · exact Nat.mod_eq_of_lt (by omega)
  have m2 : (k + 1) % n = if k + 1 = n then 0 else k + 1 := by
    split
    · rename_i q; rw [q, Nat.mod_self]
    · exact Nat.mod_eq_of_lt (by omega)
  rw [m1] at h2
  rw [m2] at h3
  rcases Nat.lt_or_ge k i with q | q
  · have c := h.2.2.2 k i q hi
    rw [if_neg] at c
    · exact c
    · split at h2 <;> split at h3 <;> omega
  · have c := h.2.2.2 i k (by omega) hk
    rw [if_neg] at c
    · exact com0_comm (sound_next h i) (sound_next h k) c
    · split at h2 <;> split at h3 <;> omega
