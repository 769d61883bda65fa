/-- A RING THAT TURNS LEFT at the corner ahead of all others: what sees a corner from inside has the winding 1, from outside 0 -/
theorem sight_left {v : Nat → Pt} {n : Nat} {M : Int} (h : sound v n) (hM0 : 0 < M) (hM : ∀ i, bdd M (v i)) {i0 : Nat} (hl : ∀ k, ltP (v k) (v (i0 + 1)) = false) (ht : 0 < orP (v i0) (v (i0 + 1)) (v (i0 + 2))) :
    (∀ i c, bdd M c → sees v n c i → opn (v i) (v (i + 1)) (v (i + 2)) (dl (v (i + 1)) c) → wnd v n c = 1) ∧ (∀ i c, bdd M c → sees v n c i → opn (v (i + 2)) (v (i + 1)) (v i) (dl (v (i + 1)) c) → wnd v n c = 0) := by
  obtain ⟨N, D, hB, hD, hD2⟩ := big_ex M hM0
  have p1 := (big_pos hB).1
  obtain ⟨d0, b0, l0⟩ := LL_ex h hB hD hM i0
  have bd : ∀ i c, bdd M c → bdd D (dl (v (i + 1)) c) := by
    intro i c hc
    have := hM (i + 1)
    unfold bdd dl at *
    dsimp only
    omega
  have hW : wnd (fun k => scP N (v k)) n (pe N (v (i0 + 1)) d0) = 1 := by
    have bl : bdd D (-1, 0) := by unfold bdd; dsimp only; omega
    have bn : bdd D (-d0.1, -d0.2) := by unfold bdd at *; dsimp only; omega
    have ln : LL v i0 (- -d0.1, - -d0.2) := by rw [Int.neg_neg, Int.neg_neg]; exact l0
    have ho : opn (v (i0 + 2)) (v (i0 + 1)) (v i0) (-1, 0) := by
      unfold opn
      have hr : orP (v (i0 + 2)) (v (i0 + 1)) (v i0) = -orP (v i0) (v (i0 + 1)) (v (i0 + 2)) := by unfold orP; grind
      rw [if_neg (by omega)]
      have hu := hl i0
      have hb := hl (i0 + 2)
      rw [ltP_f] at hu hb
      have e1 : cr (dl (v (i0 + 2)) (v (i0 + 1))) (-1, 0) = (v (i0 + 1)).2 - (v (i0 + 2)).2 := by unfold cr dl; dsimp only; omega
      have e2 : cr (dl (v (i0 + 1)) (v i0)) (-1, 0) = (v i0).2 - (v (i0 + 1)).2 := by unfold cr dl; dsimp only; omega
      rw [e1, e2]
      by_cases q1 : 0 < (v (i0 + 1)).2 - (v (i0 + 2)).2
      · exact Or.inl q1
      · by_cases q2 : 0 < (v i0).2 - (v (i0 + 1)).2
        · exact Or.inr q2
        · exfalso
          have e : orP (v i0) (v (i0 + 1)) (v (i0 + 2)) = ((v (i0 + 1)).1 - (v i0).1) * ((v (i0 + 2)).2 - (v (i0 + 1)).2) - ((v (i0 + 1)).2 - (v i0).2) * ((v (i0 + 2)).1 - (v (i0 + 1)).1) := by unfold orP; grind
          have w1 := m_zp (show (v (i0 + 1)).1 - (v i0).1 ≤ 0 by omega) (show 0 ≤ (v (i0 + 2)).2 - (v (i0 + 1)).2 by omega)
          have w2 := m_nn (show 0 ≤ (v (i0 + 1)).2 - (v i0).2 by omega) (show 0 ≤ (v (i0 + 2)).1 - (v (i0 + 1)).1 by omega)
          omega
    have q1 := right_const h hB hD hM b0 bn l0 ln
    have q2 := near_out h hB hM bl bn ho ln
    have q3 : wnd (fun k => scP N (v k)) n (pe N (v (i0 + 1)) (-1, 0)) = 0 := by
      refine wnd_left (fun i _ => ?_) (v_close h)
      have hk := hl i
      rw [ltP_f] at hk
      show N * (v (i0 + 1)).1 + -1 < N * (v i).1
      have := Int.mul_le_mul_of_nonneg_left (show (v (i0 + 1)).1 ≤ (v i).1 by omega) (Int.le_of_lt p1)
      omega
    omega
  constructor
  · intro i c hc hs ho
    obtain ⟨d, b, l⟩ := LL_ex h hB hD hM i
    rw [sight h hB hM hc (bd i c hc) hs, near_in h hB hM (bd i c hc) b ho l, ← hW]
    exact left_const h hB hD hM b b0 l l0
  · intro i c hc hs ho
    obtain ⟨d, b, l⟩ := LL_ex h hB hD hM i
    have bn : bdd D (-d.1, -d.2) := by unfold bdd at *; dsimp only; omega
    have ln : LL v i (- -d.1, - -d.2) := by rw [Int.neg_neg, Int.neg_neg]; exact l
    rw [sight h hB hM hc (bd i c hc) hs, near_out h hB hM (bd i c hc) bn ho ln]
    have := right_const h hB hD hM b0 bn l0 ln
    omega
