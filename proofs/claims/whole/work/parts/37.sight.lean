/-- a point far to the left: nothing winds about it -/
theorem wnd_left {v : Nat → Pt} {n : Nat} {c : Pt} (h : ∀ i, i ≤ n → c.1 < (v i).1) (h0 : v n = v 0) : wnd v n c = 0 := by
  have e1 : wnd v n c = sumZ (fun i => (if (v (i + 1)).2 ≤ c.2 then (0 : Int) else 1) - (if (v i).2 ≤ c.2 then (0 : Int) else 1)) n := by
    refine sumZ_congr n (fun i hi => ?_)
    have h1 := h i (by omega)
    have h2 := h (i + 1) (by omega)
    unfold chi
    have e : orP (v i) (v (i + 1)) c = ((v i).1 - c.1) * ((v (i + 1)).2 - c.2) - ((v i).2 - c.2) * ((v (i + 1)).1 - c.1) := rfl
    by_cases qa : (v i).2 ≤ c.2
    · by_cases qb : (v (i + 1)).2 ≤ c.2
      · rw [if_neg (by omega), if_neg (by omega), if_pos qb, if_pos qa]; rfl
      · have w1 := pp (show 0 < (v i).1 - c.1 by omega) (show 0 < (v (i + 1)).2 - c.2 by omega)
        have w2 := m_zp (show (v i).2 - c.2 ≤ 0 by omega) (show 0 ≤ (v (i + 1)).1 - c.1 by omega)
        rw [if_pos ⟨qa, by omega, by omega⟩, if_neg qb, if_pos qa]; rfl
    · by_cases qb : (v (i + 1)).2 ≤ c.2
      · have w1 := m_pz (show 0 ≤ (v i).1 - c.1 by omega) (show (v (i + 1)).2 - c.2 ≤ 0 by omega)
        have w2 := pp (show 0 < (v i).2 - c.2 by omega) (show 0 < (v (i + 1)).1 - c.1 by omega)
        rw [if_neg (by omega), if_pos ⟨by omega, qb, by omega⟩, if_pos qb, if_neg qa]; rfl
      · rw [if_neg (by omega), if_neg (by omega), if_neg qb, if_neg qa]; rfl
  rw [e1, sumZ_tel (fun i => if (v i).2 ≤ c.2 then (0 : Int) else 1), h0]
  omega
section SIGHT
variable {v : Nat → Pt} {n : Nat} {N M D : Int}
theorem v_close (h : sound v n) : scP N (v n) = scP N (v 0) := by
  have := h.2.1 0
  rw [Nat.zero_add] at this
  rw [this]
/-- near a corner, on the inside: the left's winding -/
theorem near_in (h : sound v n) (hB : big N M D) (hM : ∀ i, bdd M (v i)) {i : Nat} {d e : Pt} (hd : bdd D d) (he : bdd D e) (ho : opn (v i) (v (i + 1)) (v (i + 2)) d) (hl : LL v i e) : wnd (fun k => scP N (v k)) n (pe N (v (i + 1)) d) = wnd (fun k => scP N (v k)) n (pe N (v (i + 1)) e) := by
  have p1 := (big_pos hB).1
  have ct := clr_turn hB (hM i) (hM (i + 1)) (hM (i + 2)) hd he (sound_goes h i) ho hl.1 hl.2
  refine wnd_move (fun k _ => sc_next h p1 k) (v_close h) (fun k hk => ?_)
  show clr (scP N (v k)) (scP N (v (k + 1))) _ _
  rcases corner_off h i k hk with ⟨e1, e2⟩ | ⟨e1, e2⟩ | c
  · rw [e1, e2]; exact ct.1
  · rw [e1, e2]; exact ct.2
  · exact clr_spot hB (hM k) (hM (k + 1)) hd he (sound_next h k) c
/-- near a corner, on the outside -/
theorem near_out (h : sound v n) (hB : big N M D) (hM : ∀ i, bdd M (v i)) {i : Nat} {d e : Pt} (hd : bdd D d) (he : bdd D e) (ho : opn (v (i + 2)) (v (i + 1)) (v i) d) (hl : LL v i (-e.1, -e.2)) : wnd (fun k => scP N (v k)) n (pe N (v (i + 1)) d) = wnd (fun k => scP N (v k)) n (pe N (v (i + 1)) e) := by
  have p1 := (big_pos hB).1
  unfold LL at hl
  rw [cr_neg, cr_neg] at hl
  have ct := clr_turn (u := v (i + 2)) (a := v (i + 1)) (b := v i) hB (hM (i + 2)) (hM (i + 1)) (hM i) hd he (goes_rev (sound_goes h i)) ho (by rw [cr_rev]; omega) (by rw [cr_rev]; omega)
  refine wnd_move (fun k _ => sc_next h p1 k) (v_close h) (fun k hk => ?_)
  show clr (scP N (v k)) (scP N (v (k + 1))) _ _
  rcases corner_off h i k hk with ⟨e1, e2⟩ | ⟨e1, e2⟩ | c
  · rw [e1, e2]; exact clr_rev ct.2
  · rw [e1, e2]; exact clr_rev ct.1
  · exact clr_spot hB (hM k) (hM (k + 1)) hd he (sound_next h k) c
/-- c sees the corner i+1: nothing of the other edges stands between -/
def sees (v : Nat → Pt) (n : Nat) (c : Pt) (i : Nat) : Prop := c ≠ v (i + 1) ∧ ∀ k, k < n → (v k = v i ∧ v (k + 1) = v (i + 1)) ∨ (v k = v (i + 1) ∧ v (k + 1) = v (i + 2)) ∨ comP (v k) (v (k + 1)) c (v (i + 1)) = 0
theorem sight (h : sound v n) (hB : big N M D) (hM : ∀ i, bdd M (v i)) {i : Nat} {c : Pt} (hc : bdd M c) (hd : bdd D (dl (v (i + 1)) c)) (hs : sees v n c i) : wnd v n c = wnd (fun k => scP N (v k)) n (pe N (v (i + 1)) (dl (v (i + 1)) c)) := by
  have p1 := (big_pos hB).1
  rw [← wnd_sc p1]
  have own : ∀ x a c : Pt, (a = x ∨ True) → clr (scP N x) (scP N a) (scP N c) (pe N a (dl a c)) := by
    intro x a c _
    have g1 : orP (scP N x) (scP N a) (scP N c) = N * N * cr (dl x a) (dl a c) := by rw [or_sc, or_cr]
    have g2 : orP (scP N x) (scP N a) (pe N a (dl a c)) = N * cr (dl x a) (dl a c) := by rw [or_pe, or_self2, Int.mul_zero, Int.zero_add]
    unfold clr
    rw [g1, g2]
    generalize cr (dl x a) (dl a c) = z
    rcases Int.lt_trichotomy z 0 with q | q | q
    · exact Or.inr (Or.inl (nn (pn (pp p1 p1) q) (pn p1 q)))
    · left; rw [q]; simp
    · exact Or.inr (Or.inl (pp (pp (pp p1 p1) q) (pp p1 q)))
  have own2 : ∀ a b c : Pt, clr (scP N a) (scP N b) (scP N c) (pe N a (dl a c)) := fun a b c => clr_rev (own b a c (Or.inr trivial))
  refine wnd_move (fun k _ => sc_next h p1 k) (v_close h) (fun k hk => ?_)
  show clr (scP N (v k)) (scP N (v (k + 1))) _ _
  rcases hs.2 k hk with ⟨e1, e2⟩ | ⟨e1, e2⟩ | q
  · rw [e1, e2]; exact own _ _ _ (Or.inr trivial)
  · rw [e1, e2]; exact own2 _ _ _
  · have hD := hB.2.1
    have q2 := clr_near (d := (0, 0)) (d' := dl (v (i + 1)) c) hB (hM k) (hM (k + 1)) hc (hM (i + 1)) (show bdd D (0, 0) by unfold bdd; dsimp only; omega) hd (sound_next h k) hs.1 q
    have e0 : pe N c (0, 0) = scP N c := by unfold pe scP; simp
    rwa [e0] at q2
end SIGHT
/-- a number as great as is wanted -/
theorem big_ex (M : Int) (hM : 0 < M) : ∃ N D : Int, big N M D ∧ 64 * (M * M * M) ≤ D ∧ 2 * M ≤ D := by
  have w := pp (pp hM hM) hM
  have w2 : M ≤ M * M * M := by
    have a1 := Int.mul_le_mul_of_nonneg_left (show 1 ≤ M by omega) (Int.le_of_lt hM)
    have a2 := Int.mul_le_mul_of_nonneg_left (show 1 ≤ M by omega) (Int.le_of_lt (pp hM hM))
    omega
  exact ⟨16 * (M * (64 * (M * M * M))) + 4 * ((64 * (M * M * M)) * (64 * (M * M * M))) + 4 * (64 * (M * M * M)) + 2, 64 * (M * M * M), ⟨hM, by omega, Int.le_refl _⟩, Int.le_refl _, by omega⟩
/-- ALL THAT SEE A CORNER: inside one and the same winding, outside one less -/
theorem sight_two {v : Nat → Pt} {n : Nat} {M : Int} (h : sound v n) (hM0 : 0 < M) (hM : ∀ i, bdd M (v i)) : ∃ W : Int, (∀ i c, bdd M c → sees v n c i → opn (v i) (v (i + 1)) (v (i + 2)) (dl (v (i + 1)) c) → wnd v n c = W) ∧ (∀ i c, bdd M c → sees v n c i → opn (v (i + 2)) (v (i + 1)) (v i) (dl (v (i + 1)) c) → wnd v n c = W - 1) := by
  obtain ⟨N, D, hB, hD, hD2⟩ := big_ex M hM0
  obtain ⟨d0, b0, l0⟩ := LL_ex h hB hD hM 0
  have bd : ∀ i c, bdd M c → bdd D (dl (v (i + 1)) c) := by
    intro i c hc
    have := hM (i + 1)
    unfold bdd dl at *
    dsimp only
    omega
  refine ⟨wnd (fun k => scP N (v k)) n (pe N (v (0 + 1)) d0), ?_, ?_⟩
  · intro i c hc hs ho
    obtain ⟨d, b, l⟩ := LL_ex h hB hD hM i
    rw [sight h hB hM hc (bd i c hc) hs, near_in h hB hM (bd i c hc) b ho l]
    exact left_const h hB hD hM b b0 l l0
  · intro i c hc hs ho
    obtain ⟨d, b, l⟩ := LL_ex h hB hD hM i
    have bn : bdd D (-d.1, -d.2) := by unfold bdd at *; dsimp only; omega
    have ln : LL v i (- -d.1, - -d.2) := by rw [Int.neg_neg, Int.neg_neg]; exact l
    rw [sight h hB hM hc (bd i c hc) hs, near_out h hB hM (bd i c hc) bn ho ln]
    have := right_const h hB hD hM b0 bn l0 ln
    omega
