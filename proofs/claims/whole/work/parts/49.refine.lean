/-! ===== a ring with more corners on its edges ===== -/
def sub (a b s t : Pt) : Prop := bet a b s ∧ bet a b t ∧ ∃ p q : Int, 0 < p ∧ 0 < q ∧ p * (t.1 - s.1) = q * (b.1 - a.1) ∧ p * (t.2 - s.2) = q * (b.2 - a.2)
theorem sub_self (a b : Pt) : sub a b a b := ⟨bet_a _ _, bet_b _ _, 1, 1, by decide, by decide, rfl, rfl⟩
theorem mul_z {q x y : Int} (hq : 0 < q) (h : q * (x - y) = 0) : x = y := by
  rcases Int.mul_eq_zero.mp h with w | w <;> omega
theorem sub_ne {a b s t : Pt} (hab : a ≠ b) (h : sub a b s t) : s ≠ t := by
  obtain ⟨-, -, p, q, hp, hq, e1, e2⟩ := h
  intro c; subst c
  rw [Int.sub_self, Int.mul_zero] at e1 e2
  exact hab (Prod.ext (mul_z hq e1.symm).symm (mul_z hq e2.symm).symm)
theorem sub_tr {a b s t x y : Pt} (h : sub a b s t) (h2 : sub s t x y) : sub a b x y := by
  obtain ⟨b1, b2, p, q, hp, hq, e1, e2⟩ := h
  obtain ⟨c1, c2, p', q', hp', hq', f1, f2⟩ := h2
  refine ⟨bet_conv b1 b2 c1, bet_conv b1 b2 c2, p * p', q * q', Int.mul_pos hp hp', Int.mul_pos hq hq', ?_, ?_⟩
  · calc p * p' * (y.1 - x.1) = p * (p' * (y.1 - x.1)) := Int.mul_assoc ..
      _ = p * (q' * (t.1 - s.1)) := by rw [f1]
      _ = q' * (p * (t.1 - s.1)) := by grind
      _ = q' * (q * (b.1 - a.1)) := by rw [e1]
      _ = q * q' * (b.1 - a.1) := by grind
  · calc p * p' * (y.2 - x.2) = p * (p' * (y.2 - x.2)) := Int.mul_assoc ..
      _ = p * (q' * (t.2 - s.2)) := by rw [f2]
      _ = q' * (p * (t.2 - s.2)) := by grind
      _ = q' * (q * (b.2 - a.2)) := by rw [e2]
      _ = q * q' * (b.2 - a.2) := by grind
theorem sub_left {a b x : Pt} (h : bet a b x) (x1 : x ≠ a) (x2 : x ≠ b) : sub a b a x := by
  obtain ⟨s, t, hs, ht, -, -, -, e1, e2⟩ := comb_pos h x1 x2
  exact ⟨bet_a _ _, h, s + t, t, by omega, ht, by grind, by grind⟩
theorem sub_right {a b x : Pt} (h : bet a b x) (x1 : x ≠ a) (x2 : x ≠ b) : sub a b x b := by
  obtain ⟨s, t, hs, ht, -, -, -, e1, e2⟩ := comb_pos h x1 x2
  exact ⟨h, bet_b _ _, s + t, s, by omega, hs, by grind, by grind⟩
theorem sub_cr {a b s t : Pt} (h : sub a b s t) (d : Pt) : (0 < cr (dl s t) d ↔ 0 < cr (dl a b) d) ∧ (cr (dl s t) d < 0 ↔ cr (dl a b) d < 0) := by
  obtain ⟨-, -, p, q, hp, hq, e1, e2⟩ := h
  refine sgn_prop hp hq ?_
  unfold cr dl
  calc p * ((t.1 - s.1) * d.2 - (t.2 - s.2) * d.1) = (p * (t.1 - s.1)) * d.2 - (p * (t.2 - s.2)) * d.1 := by grind
    _ = q * ((b.1 - a.1) * d.2 - (b.2 - a.2) * d.1) := by rw [e1, e2]; grind
theorem cr_anti (d e : Pt) : cr d e = -cr e d := by unfold cr; grind
theorem sub_cr' {a b s t : Pt} (h : sub a b s t) (d : Pt) : (0 < cr d (dl s t) ↔ 0 < cr d (dl a b)) ∧ (cr d (dl s t) < 0 ↔ cr d (dl a b) < 0) := by
  have := sub_cr h d
  rw [cr_anti d (dl s t), cr_anti d (dl a b)]
  constructor <;> constructor <;> intro k <;> omega
theorem sub_end1 {a b s : Pt} (hab : a ≠ b) (h : sub a b s a) : False := by
  obtain ⟨hb, -, p, q, hp, hq, e1, e2⟩ := h
  obtain ⟨s', t', hs, ht, h0, f1, f2⟩ := bet_comb hb
  have pos : 0 < (s' + t') * q + p * t' := by
    have := Int.mul_pos h0 hq
    have := Int.mul_nonneg (Int.le_of_lt hp) ht
    omega
  apply hab
  apply Prod.ext
  · refine (mul_z pos ?_).symm
    calc ((s' + t') * q + p * t') * (b.1 - a.1) = (s' + t') * (q * (b.1 - a.1)) + p * (t' * (b.1 - a.1)) := by grind
      _ = 0 := by rw [← e1]; grind
  · refine (mul_z pos ?_).symm
    calc ((s' + t') * q + p * t') * (b.2 - a.2) = (s' + t') * (q * (b.2 - a.2)) + p * (t' * (b.2 - a.2)) := by grind
      _ = 0 := by rw [← e2]; grind
theorem sub_end2 {a b t : Pt} (hab : a ≠ b) (h : sub a b b t) : False := by
  obtain ⟨-, hb, p, q, hp, hq, e1, e2⟩ := h
  obtain ⟨s', t', hs, ht, h0, f1, f2⟩ := bet_comb hb
  have pos : 0 < (s' + t') * q + p * s' := by
    have := Int.mul_pos h0 hq
    have := Int.mul_nonneg (Int.le_of_lt hp) hs
    omega
  apply hab
  apply Prod.ext
  · refine (mul_z pos ?_).symm
    calc ((s' + t') * q + p * s') * (b.1 - a.1) = (s' + t') * (q * (b.1 - a.1)) + p * (s' * (b.1 - a.1)) := by grind
      _ = 0 := by rw [← e1]; grind
  · refine (mul_z pos ?_).symm
    calc ((s' + t') * q + p * s') * (b.2 - a.2) = (s' + t') * (q * (b.2 - a.2)) + p * (s' * (b.2 - a.2)) := by grind
      _ = 0 := by rw [← e2]; grind
theorem pos_lt {p q x y : Int} (hp : 0 < p) (hq : 0 < q) (h : p * x = q * y) : (0 < x ↔ 0 < y) ∧ (x < 0 ↔ y < 0) := sgn_prop hp hq h
theorem sub_lt {a b s t : Pt} (h : sub a b s t) : ltP s t = ltP a b := by
  obtain ⟨-, -, p, q, hp, hq, e1, e2⟩ := h
  have k1 := pos_lt hp hq e1
  have k2 := pos_lt hp hq e2
  have : ltP s t = true ↔ ltP a b = true := by rw [ltP_t, ltP_t]; omega
  cases q1 : ltP s t <;> cases q2 : ltP a b <;> simp_all
theorem bet_split {a b x y : Pt} (hx : bet a b x) (hy : bet a b y) : bet a x y ∨ bet x b y := by
  obtain ⟨s, t, hs, ht, h0, e1, e2⟩ := bet_comb hx
  obtain ⟨s', t', hs', ht', h0', f1, f2⟩ := bet_comb hy
  by_cases z : t = 0
  · subst z
    have : x = a := by
      apply Prod.ext
      · refine mul_z (q := s) (by omega) ?_
        grind
      · refine mul_z (q := s) (by omega) ?_
        grind
    subst this
    exact Or.inr hy
  · have t0 : 0 < t := by omega
    by_cases c : t' * s ≤ t * s'
    · left
      refine comb_bet (s := t * s' - t' * s) (t := t' * (s + t)) ⟨by omega, Int.mul_nonneg ht' (by omega), ?_, ?_, ?_⟩
      · have : t * s' - t' * s + t' * (s + t) = t * (s' + t') := by grind
        rw [this]; exact Int.mul_pos t0 h0'
      · calc (t * s' - t' * s + t' * (s + t)) * y.1 = t * ((s' + t') * y.1) := by grind
          _ = t * (s' * a.1 + t' * b.1) := by rw [f1]
          _ = (t * s' - t' * s) * a.1 + t' * (s * a.1 + t * b.1) := by grind
          _ = (t * s' - t' * s) * a.1 + t' * (s + t) * x.1 := by rw [← e1]; grind
      · calc (t * s' - t' * s + t' * (s + t)) * y.2 = t * ((s' + t') * y.2) := by grind
          _ = t * (s' * a.2 + t' * b.2) := by rw [f2]
          _ = (t * s' - t' * s) * a.2 + t' * (s * a.2 + t * b.2) := by grind
          _ = (t * s' - t' * s) * a.2 + t' * (s + t) * x.2 := by rw [← e2]; grind
    · right
      have s0 : 0 < s := by
        rcases Int.lt_or_le 0 s with w | w
        · exact w
        · exfalso
          obtain rfl : s = 0 := by omega
          have := Int.mul_nonneg ht hs'
          omega
      refine comb_bet (s := s' * (s + t)) (t := t' * s - t * s') ⟨Int.mul_nonneg hs' (by omega), by omega, ?_, ?_, ?_⟩
      · have : s' * (s + t) + (t' * s - t * s') = s * (s' + t') := by grind
        rw [this]; exact Int.mul_pos s0 h0'
      · calc (s' * (s + t) + (t' * s - t * s')) * y.1 = s * ((s' + t') * y.1) := by grind
          _ = s * (s' * a.1 + t' * b.1) := by rw [f1]
          _ = s' * (s * a.1 + t * b.1) + (t' * s - t * s') * b.1 := by grind
          _ = s' * (s + t) * x.1 + (t' * s - t * s') * b.1 := by rw [← e1]; grind
      · calc (s' * (s + t) + (t' * s - t * s')) * y.2 = s * ((s' + t') * y.2) := by grind
          _ = s * (s' * a.2 + t' * b.2) := by rw [f2]
          _ = s' * (s * a.2 + t * b.2) + (t' * s - t * s') * b.2 := by grind
          _ = s' * (s + t) * x.2 + (t' * s - t * s') * b.2 := by rw [← e2]; grind
/-- on the ring, at a scale -/
def onN (v : Nat → Pt) (n : Nat) (N : Int) (y : Pt) : Prop := ∃ k, k < n ∧ bet (scP N (v k)) (scP N (v (k + 1))) y
def Ref (v : Nat → Pt) (n : Nat) (w : Nat → Pt) (m : Nat) : Prop := soundS w m ∧ lefty w ∧ (∀ j, ∃ i, i < n ∧ sub (v i) (v (i + 1)) (w j) (w (j + 1))) ∧ (∀ N y, 0 < N → onN v n N y → onN w m N y) ∧ ∀ i, ∃ j, w j = v i
theorem per_edge {v : Nat → Pt} {n : Nat} (h : soundS v n) (j : Nat) : ∃ i, i < n ∧ v j = v i ∧ v (j + 1) = v (i + 1) := by
  have h3 := h.1
  refine ⟨j % n, Nat.mod_lt _ (by omega), sound_per (S_sound h) j, sound_eq (S_sound h) ?_⟩
  rw [Nat.mod_add_mod]
theorem Ref_refl {v : Nat → Pt} {n : Nat} (h : soundS v n) (hl : lefty v) : Ref v n v n := by
  refine ⟨h, hl, fun j => ?_, fun N y _ k => k, fun i => ⟨i, rfl⟩⟩
  obtain ⟨i, hi, e1, e2⟩ := per_edge h j
  exact ⟨i, hi, by rw [e1, e2]; exact sub_self _ _⟩
theorem with_corner2 {v : Nat → Pt} {n : Nat} (h : soundS v n) (hl : lefty v) {k : Nat} (hk : k < n) {x : Pt} (hx : bet (v k) (v (k + 1)) x) (x1 : x ≠ v k) (x2 : x ≠ v (k + 1)) : ∃ w : Nat → Pt, soundS w (n + 1) ∧ lefty w ∧ (∀ j, j < n → w j = v (j + (k + 1))) ∧ w n = x ∧ w (n + 1) = v (k + 1) := by
  have h3 := h.1
  have hr := rot_S h (k + 1)
  have lr := lefty_rot (show 0 < n by omega) h.2.1 hl (k + 1)
  have e1 : v (n - 1 + (k + 1)) = v k := by rw [show n - 1 + (k + 1) = k + n by omega]; exact h.2.1 k
  have e2 : v (0 + (k + 1)) = v (k + 1) := by rw [Nat.zero_add]
  have hx' : bet ((fun i => v (i + (k + 1))) (n - 1)) ((fun i => v (i + (k + 1))) 0) x := by
    show bet (v (n - 1 + (k + 1))) (v (0 + (k + 1))) x
    rw [e1, e2]; exact hx
  have x1' : x ≠ (fun i => v (i + (k + 1))) (n - 1) := by show x ≠ v (n - 1 + (k + 1)); rw [e1]; exact x1
  have x2' : x ≠ (fun i => v (i + (k + 1))) 0 := by show x ≠ v (0 + (k + 1)); rw [e2]; exact x2
  refine ⟨ins (fun i => v (i + (k + 1))) n x, ins_S hr hx' x1' x2', lefty_ins h3 hr.2.1 hx' x1' x2' lr, fun j hj => ins_lt hj, ins_n, ?_⟩
  have := ins_per (v := fun i => v (i + (k + 1))) (n := n) (x := x) 0
  rw [Nat.zero_add] at this
  rw [this, ins_lt (show 0 < n by omega)]
  exact e2
theorem Ref_ins {v w : Nat → Pt} {n m : Nat} (h : Ref v n w m) {x : Pt} (hx : onN v n 1 x) : ∃ w' m', Ref v n w' m' ∧ (∃ j, w' j = x) ∧ (∀ j, ∃ k, w' k = w j) ∧ ∀ j, w' j = x ∨ ∃ k, w' j = w k := by
  obtain ⟨hs, hl, hsub, hcov, hcor⟩ := id h
  obtain ⟨k, hk, hb⟩ := hcov 1 x (by decide) hx
  rw [sc_one, sc_one] at hb
  by_cases x1 : x = w k
  · exact ⟨w, m, h, ⟨k, x1.symm⟩, fun j => ⟨j, rfl⟩, fun j => Or.inr ⟨j, rfl⟩⟩
  by_cases x2 : x = w (k + 1)
  · exact ⟨w, m, h, ⟨k + 1, x2.symm⟩, fun j => ⟨j, rfl⟩, fun j => Or.inr ⟨j, rfl⟩⟩
  have h3 := hs.1
  obtain ⟨w', s', l', c1, c2, c3⟩ := with_corner2 hs hl hk hb x1 x2
  have wk : w' (m - 1) = w k := by
    rw [c1 _ (by omega), show m - 1 + (k + 1) = k + m by omega]; exact hs.2.1 k
  have old : ∀ j, ∃ i, w' i = w j := by
    intro j
    have e : w j = w (j % m) := sound_per (S_sound hs) j
    have lt := Nat.mod_lt j (show 0 < m by omega)
    by_cases q : k + 1 ≤ j % m
    · refine ⟨j % m - (k + 1), ?_⟩
      rw [c1 _ (by omega), e]; congr 1; omega
    · refine ⟨j % m + m - (k + 1), ?_⟩
      rw [c1 _ (by omega), e, show j % m + m - (k + 1) + (k + 1) = j % m + m by omega, hs.2.1]
  have kind : ∀ j, j < m + 1 → w' j = x ∨ ∃ i, w' j = w i := by
    intro j hj
    by_cases q : j = m
    · subst q; exact Or.inl c2
    · exact Or.inr ⟨_, c1 j (by omega)⟩
  have edge : ∀ j, j < m + 1 → ∃ i, i < m ∧ sub (w i) (w (i + 1)) (w' j) (w' (j + 1)) := by
    intro j hj
    by_cases q : j = m
    · subst q
      rw [c2, c3]
      exact ⟨k, hk, sub_right hb x1 x2⟩
    · by_cases q2 : j = m - 1
      · subst q2
        rw [wk, show m - 1 + 1 = m by omega, c2]
        exact ⟨k, hk, sub_left hb x1 x2⟩
      · rw [c1 j (by omega), c1 (j + 1) (by omega)]
        obtain ⟨i, hi, e1, e2⟩ := per_edge hs (j + (k + 1))
        refine ⟨i, hi, ?_⟩
        rw [e1, show j + 1 + (k + 1) = j + (k + 1) + 1 by omega, e2]
        exact sub_self _ _
  refine ⟨w', m + 1, ⟨s', l', fun j => ?_, fun N y hN ho => ?_, fun i => ?_⟩, ⟨m, c2⟩, old, fun j => ?_⟩
  · obtain ⟨i, hi, e1, e2⟩ := per_edge s' j
    obtain ⟨i2, hi2, hsb⟩ := edge i hi
    obtain ⟨i3, hi3, hsb2⟩ := hsub i2
    exact ⟨i3, hi3, by rw [e1, e2]; exact sub_tr hsb2 hsb⟩
  · obtain ⟨j, hj, hy⟩ := hcov N y hN ho
    by_cases q : j = k
    · subst q
      rcases bet_split ((bet_sc hN).mpr hb) hy with r | r
      · exact ⟨m - 1, by omega, by rw [wk, show m - 1 + 1 = m by omega, c2]; exact r⟩
      · exact ⟨m, by omega, by rw [c2, c3]; exact r⟩
    · by_cases q2 : k + 1 ≤ j
      · refine ⟨j - (k + 1), by omega, ?_⟩
        rw [c1 _ (by omega), c1 _ (by omega), show j - (k + 1) + (k + 1) = j by omega, show j - (k + 1) + 1 + (k + 1) = j + 1 by omega]
        exact hy
      · refine ⟨j + m - (k + 1), by omega, ?_⟩
        rw [c1 _ (by omega), c1 _ (by omega), show j + m - (k + 1) + (k + 1) = j + m by omega, show j + m - (k + 1) + 1 + (k + 1) = j + 1 + m by omega, hs.2.1, hs.2.1]
        exact hy
  · obtain ⟨j, e⟩ := hcor i
    obtain ⟨j2, e2⟩ := old j
    exact ⟨j2, by rw [e2, e]⟩
  · obtain ⟨i, hi, e1, -⟩ := per_edge s' j
    rw [e1]
    exact kind i hi
theorem Ref_list {v : Nat → Pt} {n : Nat} (h : soundS v n) (hl : lefty v) (x : Nat → Pt) : ∀ r, (∀ i, i < r → onN v n 1 (x i)) → ∃ w m, Ref v n w m ∧ (∀ i, i < r → ∃ j, w j = x i) ∧ ∀ j, (∃ i, w j = v i) ∨ ∃ i, i < r ∧ w j = x i := by
  intro r
  induction r with
  | zero => intro _; exact ⟨v, n, Ref_refl h hl, fun i hi => absurd hi (by omega), fun j => Or.inl ⟨j, rfl⟩⟩
  | succ r ih =>
    intro hx
    obtain ⟨w, m, hr, c1, c2⟩ := ih (fun i hi => hx i (by omega))
    obtain ⟨w', m', hr', d1, d2, d3⟩ := Ref_ins hr (hx r (by omega))
    refine ⟨w', m', hr', fun i hi => ?_, fun j => ?_⟩
    · by_cases q : i = r
      · subst q; exact d1
      · obtain ⟨j, e⟩ := c1 i (by omega)
        obtain ⟨k, e2⟩ := d2 j
        exact ⟨k, by rw [e2, e]⟩
    · rcases d3 j with e | ⟨k, e⟩
      · exact Or.inr ⟨r, by omega, e⟩
      · rcases c2 k with ⟨i, e2⟩ | ⟨i, hi, e2⟩
        · exact Or.inl ⟨i, by rw [e, e2]⟩
        · exact Or.inr ⟨i, by omega, by rw [e, e2]⟩
theorem on_corner {v : Nat → Pt} {n : Nat} (h : soundS v n) (i : Nat) : onN v n 1 (v i) := by
  obtain ⟨k, hk, hb⟩ := corner_on h i
  exact ⟨k, hk, by rw [sc_one, sc_one]; exact hb⟩
theorem sub_on {v w : Nat → Pt} {n m : Nat} (h : Ref v n w m) {N : Int} (hN : 0 < N) {y : Pt} (ho : onN w m N y) : onN v n N y := by
  obtain ⟨j, hj, hb⟩ := ho
  obtain ⟨i, hi, s1, s2, -⟩ := h.2.2.1 j
  exact ⟨i, hi, bet_conv ((bet_sc hN).mpr s1) ((bet_sc hN).mpr s2) hb⟩
/-- two rings cut at each other's corners -/
theorem pair_ref {p q : Nat → Pt} {n m : Nat} (hp : soundS p n) (lp : lefty p) (hq : soundS q m) (lq : lefty q) : ∃ P n' Q m', Ref p n P n' ∧ Ref q m Q m' ∧ (∀ j, onN p n 1 (Q j) → ∃ i, P i = Q j) ∧ ∀ i, onN q m 1 (P i) → ∃ j, Q j = P i := by
  have cl : ∀ P : Prop, Decidable P := Classical.propDecidable
  obtain ⟨x, hx⟩ : ∃ x : Nat → Pt, x = fun i => @ite _ (onN p n 1 (q i)) (cl _) (q i) (p 0) := ⟨_, rfl⟩
  obtain ⟨y, hy⟩ : ∃ y : Nat → Pt, y = fun i => @ite _ (onN q m 1 (p i)) (cl _) (p i) (q 0) := ⟨_, rfl⟩
  have x1 : ∀ i, onN p n 1 (q i) → x i = q i := fun i h => by rw [hx]; exact if_pos h
  have x2 : ∀ i, ¬ onN p n 1 (q i) → x i = p 0 := fun i h => by rw [hx]; exact if_neg h
  have y1 : ∀ i, onN q m 1 (p i) → y i = p i := fun i h => by rw [hy]; exact if_pos h
  have y2 : ∀ i, ¬ onN q m 1 (p i) → y i = q 0 := fun i h => by rw [hy]; exact if_neg h
  obtain ⟨P, n', rP, lP, kP⟩ := Ref_list hp lp x m (fun i _ => by
    by_cases c : onN p n 1 (q i)
    · rw [x1 i c]; exact c
    · rw [x2 i c]; exact on_corner hp 0)
  obtain ⟨Q, m', rQ, lQ, kQ⟩ := Ref_list hq lq y n (fun i _ => by
    by_cases c : onN q m 1 (p i)
    · rw [y1 i c]; exact c
    · rw [y2 i c]; exact on_corner hq 0)
  have cP : ∀ i, onN p n 1 (q i) → ∃ k, P k = q i := by
    intro i h
    obtain ⟨i', hi, e, -⟩ := per_edge hq i
    rw [e] at h ⊢
    obtain ⟨k, e2⟩ := lP i' hi
    exact ⟨k, by rw [e2, x1 i' h]⟩
  have cQ : ∀ i, onN q m 1 (p i) → ∃ k, Q k = p i := by
    intro i h
    obtain ⟨i', hi, e, -⟩ := per_edge hp i
    rw [e] at h ⊢
    obtain ⟨k, e2⟩ := lQ i' hi
    exact ⟨k, by rw [e2, y1 i' h]⟩
  refine ⟨P, n', Q, m', rP, rQ, fun j ho => ?_, fun i ho => ?_⟩
  · rcases kQ j with ⟨i, e⟩ | ⟨i, hi, e⟩
    · rw [e] at ho ⊢; exact cP i ho
    · by_cases c : onN q m 1 (p i)
      · rw [e, y1 i c]; exact rP.2.2.2.2 i
      · rw [e, y2 i c] at ho ⊢; exact cP 0 ho
  · rcases kP i with ⟨j, e⟩ | ⟨j, hj, e⟩
    · rw [e] at ho ⊢; exact cQ j ho
    · by_cases c : onN p n 1 (q j)
      · rw [e, x1 j c]; exact rQ.2.2.2.2 j
      · rw [e, x2 j c] at ho ⊢; exact cQ 0 ho
