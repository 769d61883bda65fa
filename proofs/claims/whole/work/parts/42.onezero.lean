/-! ===== FACT A: off a ring that turns left the winding is 0 or 1 ===== -/
theorem wnd_ins {v : Nat → Pt} {n : Nat} {x : Pt} (h3 : 3 ≤ n) (e0 : v n = v 0) (hx : bet (v (n - 1)) (v 0) x) (x1 : x ≠ v (n - 1)) (x2 : x ≠ v 0) (c : Pt) : wnd (ins v n x) (n + 1) c = wnd v n c := by
  obtain ⟨m, rfl⟩ : ∃ m, n = m + 1 := ⟨n - 1, by omega⟩
  have i1 : ins v (m + 1) x (m + 1 + 1) = v 0 := by have := ins_per (v := v) (n := m + 1) (x := x) 0; rw [Nat.zero_add] at this; rw [this]; exact ins_lt (by omega)
  show sumZ (fun i => chi (ins v (m + 1) x i) (ins v (m + 1) x (i + 1)) c) m + chi (ins v (m + 1) x m) (ins v (m + 1) x (m + 1)) c + chi (ins v (m + 1) x (m + 1)) (ins v (m + 1) x (m + 1 + 1)) c = sumZ (fun i => chi (v i) (v (i + 1)) c) m + chi (v m) (v (m + 1)) c
  rw [i1, ins_n, ins_lt (show m < m + 1 by omega), e0]
  have := chi_add hx x1 x2 c
  rw [Nat.add_sub_cancel] at this
  have s : sumZ (fun i => chi (ins v (m + 1) x i) (ins v (m + 1) x (i + 1)) c) m = sumZ (fun i => chi (v i) (v (i + 1)) c) m := by
    refine sumZ_congr m (fun i hi => ?_)
    rw [ins_lt (show i < m + 1 by omega), ins_lt (show i + 1 < m + 1 by omega)]
  omega
theorem lefty_ins {v : Nat → Pt} {n : Nat} {x : Pt} (h3 : 3 ≤ n) (hp : ∀ i, v (i + n) = v i) (hx : bet (v (n - 1)) (v 0) x) (x1 : x ≠ v (n - 1)) (x2 : x ≠ v 0) (h : lefty v) : lefty (ins v n x) := by
  obtain ⟨i, h1, h2⟩ := h
  have e0 := v_n hp
  have e1 : v (n + 1) = v 1 := by have := hp 1; rwa [Nat.add_comm 1 n] at this
  have per : ∀ i, v i = v (i % n) := by
    intro i
    have key : ∀ k r, v (r + n * k) = v r := by
      intro k
      induction k with
      | zero => intro r; rfl
      | succ k ih => intro r; rw [Nat.mul_succ, ← Nat.add_assoc, hp, ih]
    have := key (i / n) (i % n)
    rw [Nat.mod_add_div] at this
    exact this
  have ad : ∀ c, v (i + c) = v (i % n + c) := by
    intro c
    rw [per (i + c), per (i % n + c)]
    congr 1
    rw [Nat.add_mod, Nat.add_mod (i % n) c, Nat.mod_mod]
  have hr := Nat.mod_lt i (show 0 < n by omega)
  rw [ad 1] at h1
  rw [ad 1, ad 2, per i] at h2
  generalize i % n = r at *
  obtain ⟨s, t, hs, ht, hc⟩ := comb_pos hx x1 x2
  have lst : ∀ k, ltP (ins v n x k) (v (r + 1)) = false := by
    intro k
    unfold ins
    by_cases q : k % (n + 1) = n
    · rw [if_pos q]
      have hb := (bt_box hx.1).mpr hx.2
      rw [btP_iff] at hb
      have a1 := h1 (n - 1)
      have a2 := h1 0
      simp only [ltP_f] at hb a1 a2 ⊢
      omega
    · rw [if_neg q]; exact h1 _
  have i1 : ins v n x (n + 1) = v 0 := by have := ins_per (v := v) (n := n) (x := x) 0; rw [Nat.zero_add] at this; rw [this]; exact ins_lt (by omega)
  have i2 : ins v n x (n + 2) = v 1 := by have := ins_per (v := v) (n := n) (x := x) 1; rw [show 1 + (n + 1) = n + 2 by omega] at this; rw [this]; exact ins_lt (by omega)
  by_cases q1 : r + 2 < n
  · refine ⟨r, ?_, ?_⟩
    · rw [ins_lt (show r + 1 < n by omega)]; exact lst
    · rw [ins_lt (show r < n by omega), ins_lt (show r + 1 < n by omega), ins_lt q1]; exact h2
  · by_cases q2 : r + 2 = n
    · refine ⟨r, ?_, ?_⟩
      · rw [ins_lt (show r + 1 < n by omega)]; exact lst
      · rw [ins_lt (show r < n by omega), ins_lt (show r + 1 < n by omega), q2, ins_n]
        rw [q2, e0] at h2
        have f := comb_or hc (v r) (v (r + 1))
        rw [show n - 1 = r + 1 by omega, or_self2, Int.mul_zero, Int.zero_add] at f
        exact (sgn_prop (show 0 < s + t by omega) ht f).1.mpr h2
    · obtain rfl : n = r + 1 := by omega
      refine ⟨r + 1, ?_, ?_⟩
      · rw [i1]; rw [e0] at lst; exact lst
      · rw [i1, ins_n, i2]
        rw [e0, e1] at h2
        have f := comb_or hc (v 0) (v 1)
        rw [Nat.add_sub_cancel, or_self1, Int.mul_zero, Int.add_zero] at f
        rw [or_cyc] at h2 ⊢
        exact (sgn_prop (show 0 < s + t by omega) hs f).1.mpr h2
/-- a bound for all corners -/
theorem bdd_ex (v : Nat → Pt) (n : Nat) (hn : 0 < n) (hp : ∀ i, v (i + n) = v i) (c : Pt) : ∃ M, 0 < M ∧ (∀ i, bdd M (v i)) ∧ bdd M c := by
  have one : ∀ p : Pt, bdd (p.1.natAbs + p.2.natAbs + 1) p := by intro p; unfold bdd; omega
  have mono : ∀ {M K : Int} {p : Pt}, M ≤ K → bdd M p → bdd K p := by intro M K p h1 h2; unfold bdd at *; omega
  have fin : ∀ m, ∃ M, 0 < M ∧ (∀ i, i < m → bdd M (v i)) ∧ bdd M c := by
    intro m
    induction m with
    | zero => exact ⟨c.1.natAbs + c.2.natAbs + 1, by omega, fun i hi => absurd hi (by omega), one c⟩
    | succ m ih =>
      obtain ⟨M, h0, h1, h2⟩ := ih
      refine ⟨M + ((v m).1.natAbs + (v m).2.natAbs + 1), by omega, fun i hi => ?_, mono (by omega) h2⟩
      by_cases q : i = m
      · subst q; exact mono (by omega) (one _)
      · exact mono (by omega) (h1 i (by omega))
  obtain ⟨M, h0, h1, h2⟩ := fin n
  refine ⟨M, h0, fun i => ?_, h2⟩
  have key : ∀ k r, v (r + n * k) = v r := by
    intro k
    induction k with
    | zero => intro r; rfl
    | succ k ih => intro r; rw [Nat.mul_succ, ← Nat.add_assoc, hp, ih]
  have := key (i / n) (i % n)
  rw [Nat.mod_add_div] at this
  rw [this]
  exact h1 _ (Nat.mod_lt _ hn)
/-- what sees a corner of a left ring: 1 inside, 0 outside -/
theorem left_sees {v : Nat → Pt} {n : Nat} (h : sound v n) (hl : lefty v) {i : Nat} {c : Pt} (hs : sees v n c i) : (opn (v i) (v (i + 1)) (v (i + 2)) (dl (v (i + 1)) c) → wnd v n c = 1) ∧ (opn (v (i + 2)) (v (i + 1)) (v i) (dl (v (i + 1)) c) → wnd v n c = 0) := by
  obtain ⟨i0, h1, h2⟩ := hl
  obtain ⟨M, h0, hM, hc⟩ := bdd_ex v n (by have := h.1; omega) h.2.1 c
  have := sight_left h h0 hM h1 h2
  exact ⟨this.1 i c hc hs, this.2 i c hc hs⟩
/-- a least one -/
theorem least_ex (P : Nat → Prop) (f : Nat → Int) : ∀ n, (∀ k, k < n → ¬ P k) ∨ ∃ k, k < n ∧ P k ∧ ∀ j, j < n → P j → f k ≤ f j := by
  intro n
  induction n with
  | zero => exact Or.inl (fun k hk => absurd hk (by omega))
  | succ n ih =>
    by_cases hn : P n
    · right
      rcases ih with q | ⟨k, hk, hP, hm⟩
      · refine ⟨n, by omega, hn, fun j hj hj2 => ?_⟩
        by_cases e : j = n
        · subst e; exact Int.le_refl _
        · exact absurd hj2 (q j (by omega))
      · by_cases c : f k ≤ f n
        · refine ⟨k, by omega, hP, fun j hj hj2 => ?_⟩
          by_cases e : j = n
          · subst e; exact c
          · exact hm j (by omega) hj2
        · refine ⟨n, by omega, hn, fun j hj hj2 => ?_⟩
          by_cases e : j = n
          · subst e; exact Int.le_refl _
          · have := hm j (by omega) hj2; omega
    · rcases ih with q | ⟨k, hk, hP, hm⟩
      · left
        intro k hk
        by_cases e : k = n
        · subst e; exact hn
        · exact q k (by omega)
      · right
        refine ⟨k, by omega, hP, fun j hj hj2 => ?_⟩
        by_cases e : j = n
        · subst e; exact absurd hj2 hn
        · exact hm j (by omega) hj2
/-- off the ring -/
def off (v : Nat → Pt) (n : Nat) (c : Pt) : Prop := ∀ k, k < n → ¬ bet (v k) (v (k + 1)) c
/-- a point on an edge as one more corner: the ring from there on -/
theorem with_corner {v : Nat → Pt} {n : Nat} (h : soundS v n) (hl : lefty v) {k : Nat} (hk : k < n) {x : Pt} (hx : bet (v k) (v (k + 1)) x) (x1 : x ≠ v k) (x2 : x ≠ v (k + 1)) : ∃ w : Nat → Pt, soundS w (n + 1) ∧ lefty w ∧ (∀ c, wnd w (n + 1) c = wnd v n c) ∧ w (n - 1) = v k ∧ w n = x ∧ w (n + 1) = v (k + 1) ∧ ∀ j, j < n - 1 → ∃ i, i < n ∧ i ≠ k ∧ w j = v i ∧ w (j + 1) = v (i + 1) := by
  have h3 := h.1
  have hr := rot_S h (k + 1)
  have lr := lefty_rot (show 0 < n by omega) h.2.1 hl (k + 1)
  have e1 : v (n - 1 + (k + 1)) = v k := by rw [show n - 1 + (k + 1) = k + n by omega]; exact h.2.1 k
  have e2 : v (0 + (k + 1)) = v (k + 1) := by rw [Nat.zero_add]
  have hx' : bet ((fun i => v (i + (k + 1))) (n - 1)) ((fun i => v (i + (k + 1))) 0) x := by
    show bet (v (n - 1 + (k + 1))) (v (0 + (k + 1))) x
    rw [e1, e2]; exact hx
  have x1' : x ≠ (fun i => v (i + (k + 1))) (n - 1) := by show x ≠ v (n - 1 + (k + 1)); rw [e1]; exact x1
  have x2' : x ≠ (fun i => v (i + (k + 1))) 0 := by show x ≠ v (0 + (k + 1)); rw [e2]; exact x2
  refine ⟨ins (fun i => v (i + (k + 1))) n x, ins_S hr hx' x1' x2', lefty_ins h3 hr.2.1 hx' x1' x2' lr, fun c => ?_, ?_, ins_n, ?_, fun j hj => ?_⟩
  · rw [wnd_ins h3 (v_n hr.2.1) hx' x1' x2', wnd_rot h.2.1]
  · rw [ins_lt (show n - 1 < n by omega)]; exact e1
  · have := ins_per (v := fun i => v (i + (k + 1))) (n := n) (x := x) 0
    rw [Nat.zero_add] at this
    rw [this, ins_lt (show 0 < n by omega)]
    exact e2
  · rw [ins_lt (show j < n by omega), ins_lt (show j + 1 < n by omega)]
    by_cases q : j + (k + 1) < n
    · exact ⟨j + (k + 1), q, by omega, rfl, by show v (j + 1 + (k + 1)) = v (j + (k + 1) + 1); congr 1; omega⟩
    · refine ⟨j + (k + 1) - n, by omega, by omega, ?_, ?_⟩
      · show v (j + (k + 1)) = v (j + (k + 1) - n)
        have := h.2.1 (j + (k + 1) - n)
        rwa [show j + (k + 1) - n + n = j + (k + 1) by omega] at this
      · show v (j + 1 + (k + 1)) = v (j + (k + 1) - n + 1)
        have := h.2.1 (j + (k + 1) - n + 1)
        rwa [show j + (k + 1) - n + 1 + n = j + 1 + (k + 1) by omega] at this
/-- what sees a point of an edge: 1 on its left, 0 on its right -/
theorem left_edge {v : Nat → Pt} {n : Nat} (h : soundS v n) (hl : lefty v) {k : Nat} (hk : k < n) {x c : Pt} (hx : bet (v k) (v (k + 1)) x) (x1 : x ≠ v k) (x2 : x ≠ v (k + 1)) (hc : c ≠ x) (hs : ∀ i, i < n → i ≠ k → ¬ hit (v i) (v (i + 1)) c x) :
    (0 < orP (v k) (v (k + 1)) c → wnd v n c = 1) ∧ (orP (v k) (v (k + 1)) c < 0 → wnd v n c = 0) := by
  obtain ⟨w, hw, lw, ew, w1, w2, w3, w4⟩ := with_corner h hl hk hx x1 x2
  have h3 := h.1
  have hsw : sees w (n + 1) c (n - 1) := by
    refine ⟨by rw [show n - 1 + 1 = n by omega, w2]; exact hc, fun j hj => ?_⟩
    by_cases q1 : j = n
    · right; left
      subst q1
      rw [show j - 1 + 1 = j by omega, show j - 1 + 2 = j + 1 by omega]
      exact ⟨rfl, rfl⟩
    · by_cases q2 : j = n - 1
      · left; subst q2; exact ⟨rfl, rfl⟩
      · right; right
        obtain ⟨i, hi, hik, a1, a2⟩ := w4 j (by omega)
        rw [a1, a2, show n - 1 + 1 = n by omega, w2]
        refine Classical.byContradiction fun q => ?_
        exact hs i hi hik (com_hit (soundS_next h hi) hc q)
  have := left_sees (S_sound hw) lw hsw
  rw [show n - 1 + 1 = n by omega, show n - 1 + 2 = n + 1 by omega, w1, w2, w3, ew] at this
  obtain ⟨s, t, s0, t0, hcb⟩ := comb_pos hx x1 x2
  have f1 := comb_or hcb c (v k)
  have f2 := comb_or hcb (v (k + 1)) c
  have g1 : (s + t) * orP (v k) x c = t * orP (v k) (v (k + 1)) c := by
    rw [or_cyc c (v k) x, or_cyc c (v k) (v (k + 1)), or_self2, Int.mul_zero, Int.zero_add] at f1
    exact f1
  have p1 := sgn_prop (show 0 < s + t by omega) t0 g1
  have c1 : cr (dl (v k) x) (dl x c) = orP (v k) x c := (or_cr _ _ _).symm
  have c2 : cr (dl x (v k)) (dl x c) = -orP (v k) x c := by rw [cr_rev, c1]
  have z : orP (v k) x (v (k + 1)) = 0 := by
    have e := hx.1
    have : orP (v k) x (v (k + 1)) = -orP (v k) (v (k + 1)) x := by unfold orP; grind
    omega
  have z2 : orP (v (k + 1)) x (v k) = 0 := by
    have e := hx.1
    have : orP (v (k + 1)) x (v k) = orP (v k) (v (k + 1)) x := by unfold orP; grind
    omega
  constructor
  · intro q
    refine this.1 ?_
    unfold opn
    rw [z, if_neg (by omega), c1]
    exact Or.inl (p1.1.mpr q)
  · intro q
    refine this.2 ?_
    unfold opn
    rw [z2, if_neg (by omega), c2]
    have := p1.2.mpr q
    exact Or.inr (by omega)
