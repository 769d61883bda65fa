/-! ===== cuts, and the pieces ===== -/
theorem sg_sc {K z : Int} (hK : 0 < K) : sg (K * z) = sg z := by
  have := sgn_prop (k := 1) (t := K) (u := K * z) (w := z) (by decide) hK (by rw [Int.one_mul])
  rcases Int.lt_trichotomy z 0 with h | h | h
  · have h2 := this.2.mpr h
    unfold sg
    first | rw [if_pos h2, if_pos h] | (simp [h, h2]; omega) | grind
  · subst h; rw [Int.mul_zero]
  · have h2 := this.1.mpr h
    unfold sg
    first | rw [if_neg (by omega), if_neg (by omega), if_pos h2, if_pos h] | grind
theorem or_scc (N : Int) (p q r : Pt) : orP (scP N p) (scP N q) (scP N r) = N * N * orP p q r := by unfold orP scP; grind
theorem comP_sc {N : Int} (hN : 0 < N) (a b c d : Pt) : comP (scP N a) (scP N b) (scP N c) (scP N d) = comP a b c d := by
  have nn := Int.mul_pos hN hN
  have s : ∀ p q r : Pt, sg (orP (scP N p) (scP N q) (scP N r)) = sg (orP p q r) := fun p q r => by rw [or_scc, sg_sc nn]
  have mn : ∀ p q : Pt, mnP (scP N p) (scP N q) = scP N (mnP p q) := fun p q => by
    rw [mnP_lt, mnP_lt, sc_lt hN]; split <;> rfl
  have mx : ∀ p q : Pt, mxP (scP N p) (scP N q) = scP N (mxP p q) := fun p q => by
    rw [mxP_lt, mxP_lt, sc_lt hN]; split <;> rfl
  have F : colF (scP N a) (scP N b) (scP N c) (scP N d) = scP N (colF a b c d) := by
    rw [colF_lt, colF_lt, mn, mn, sc_lt hN]; split <;> rfl
  have L : colL (scP N a) (scP N b) (scP N c) (scP N d) = scP N (colL a b c d) := by
    rw [colL_lt, colL_lt, mx, mx, sc_lt hN]; split <;> rfl
  have on : ∀ p q r : Pt, onP (scP N p) (scP N q) (scP N r) = onP p q r := fun p q r => by
    have : onP (scP N p) (scP N q) (scP N r) = true ↔ onP p q r = true := by rw [bet_on, bet_on, bet_sc hN]
    cases q1 : onP (scP N p) (scP N q) (scP N r) <;> cases q2 : onP p q r <;> simp_all
  unfold comP tchP
  rw [colP_lt, colP_lt, F, L, sc_lt hN, sc_lt hN]
  simp only [s, on]
theorem bet_two {a b x y : Pt} (hx : bet a b x) (hy : bet a b y) : ∃ K κ : Int, 0 < K ∧ K * (y.1 - x.1) = κ * (b.1 - a.1) ∧ K * (y.2 - x.2) = κ * (b.2 - a.2) := by
  obtain ⟨s, t, hs, ht, h0, e1, e2⟩ := bet_comb hx
  obtain ⟨s', t', hs', ht', h0', f1, f2⟩ := bet_comb hy
  refine ⟨(s + t) * (s' + t'), t' * s - t * s', Int.mul_pos h0 h0', ?_, ?_⟩
  · calc (s + t) * (s' + t') * (y.1 - x.1) = (s + t) * ((s' + t') * y.1) - (s' + t') * ((s + t) * x.1) := by grind
      _ = (t' * s - t * s') * (b.1 - a.1) := by rw [e1, f1]; grind
  · calc (s + t) * (s' + t') * (y.2 - x.2) = (s + t) * ((s' + t') * y.2) - (s' + t') * ((s + t) * x.2) := by grind
      _ = (t' * s - t * s') * (b.2 - a.2) := by rw [e2, f2]; grind
theorem par_two {a b c d x y : Pt} (hne : x ≠ y) (x1 : bet a b x) (x2 : bet c d x) (y1 : bet a b y) (y2 : bet c d y) : cr (dl a b) (dl c d) = 0 := by
  obtain ⟨K, κ, hK, e1, e2⟩ := bet_two x1 y1
  obtain ⟨K', κ', hK', f1, f2⟩ := bet_two x2 y2
  have nz : ∀ {K κ : Int} {p q : Pt}, 0 < K → K * (y.1 - x.1) = κ * (q.1 - p.1) → K * (y.2 - x.2) = κ * (q.2 - p.2) → κ ≠ 0 := by
    intro K κ p q hK e1 e2 z
    subst z
    rw [Int.zero_mul] at e1 e2
    exact hne (Prod.ext (mul_z hK e1).symm (mul_z hK e2).symm)
  have n1 := nz hK e1 e2
  have n2 := nz hK' f1 f2
  have : κ * κ' * cr (dl a b) (dl c d) = 0 := by
    unfold cr dl
    calc κ * κ' * ((b.1 - a.1) * (d.2 - c.2) - (b.2 - a.2) * (d.1 - c.1)) = (κ * (b.1 - a.1)) * (κ' * (d.2 - c.2)) - (κ * (b.2 - a.2)) * (κ' * (d.1 - c.1)) := by grind
      _ = 0 := by rw [← e1, ← e2, ← f1, ← f2]; grind
  rcases Int.mul_eq_zero.mp this with w | w
  · rcases Int.mul_eq_zero.mp w with w | w
    · exact absurd w n1
    · exact absurd w n2
  · exact w
theorem only_of {a b c d e : Pt} (hab : a ≠ b) (e1 : bet a b e) (e2 : bet c d e) (h : comP a b c d = 2) : only a b c d e := by
  intro N x hN x1 x2
  refine Classical.byContradiction fun hne => ?_
  have k1 := (bet_sc hN).mpr e1
  have k2 := (bet_sc hN).mpr e2
  have := com3_of (fun c => hab (sc_inj hN c)) (par_two hne x1 x2 k1 k2) x1 x2 k1 k2 hne
  rw [comP_sc hN, h] at this
  exact absurd this (by decide)
/-- what isInside and isCut ask of each edge -/
def cutC (v : Nat → Pt) (n : Nat) (a b : Pt) : Prop := ∀ k, k < n → comP a b (v k) (v (k + 1)) = if v k = a ∨ v k = b ∨ v (k + 1) = a ∨ v (k + 1) = b then 2 else 0
def dg (v : Nat → Pt) (a b : Pt) : Prop := ∀ k N x, 0 < N → bet (scP N a) (scP N b) x → bet (scP N (v k)) (scP N (v (k + 1))) x → x = scP N a ∨ x = scP N b
theorem dg_of {v : Nat → Pt} {n : Nat} (h : soundS v n) {a b : Pt} (hab : a ≠ b) (hc : cutC v n a b) : dg v a b := by
  intro k N x hN x1 x2
  obtain ⟨k', hk, e1, e2⟩ := per_edge h k
  rw [e1, e2] at x2
  have c := hc k' hk
  by_cases q : v k' = a ∨ v k' = b ∨ v (k' + 1) = a ∨ v (k' + 1) = b
  · rw [if_pos q] at c
    have fin : ∀ e, (e = a ∨ e = b) → (e = v k' ∨ e = v (k' + 1)) → x = scP N a ∨ x = scP N b := by
      intro e h1 h2
      have := only_of hab (e := e) (by rcases h1 with rfl | rfl; exact bet_a _ _; exact bet_b _ _) (by rcases h2 with rfl | rfl; exact bet_a _ _; exact bet_b _ _) c N x hN x1 x2
      rcases h1 with rfl | rfl
      · exact Or.inl this
      · exact Or.inr this
    rcases q with q | q | q | q
    · exact fin a (Or.inl rfl) (Or.inl q.symm)
    · exact fin b (Or.inr rfl) (Or.inl q.symm)
    · exact fin a (Or.inl rfl) (Or.inr q.symm)
    · exact fin b (Or.inr rfl) (Or.inr q.symm)
  · rw [if_neg q] at c
    exact absurd ⟨N, x, hN, x1, x2⟩ (com0_hit hab c)
theorem dg_rev {v : Nat → Pt} {a b : Pt} (h : dg v a b) : dg v b a := fun k N x hN x1 x2 => (h k N x hN (bet_rev x1) x2).symm
theorem cut_far {v : Nat → Pt} {n : Nat} {a b : Pt} (hab : a ≠ b) (hc : cutC v n a b) {k : Nat} (hk : k < n) : ¬ (v k = a ∧ v (k + 1) = b) ∧ ¬ (v k = b ∧ v (k + 1) = a) := by
  have c := hc k hk
  constructor
  · rintro ⟨e1, e2⟩
    rw [if_pos (Or.inl e1), e1, e2] at c
    rw [com3_of hab (by unfold cr; grind) (bet_a _ _) (bet_a _ _) (bet_b _ _) (bet_b _ _) hab] at c
    exact absurd c (by decide)
  · rintro ⟨e1, e2⟩
    rw [if_pos (Or.inr (Or.inl e1)), e1, e2] at c
    rw [com3_of hab (by unfold cr dl; grind) (bet_a _ _) (bet_b _ _) (bet_b _ _) (bet_a _ _) hab] at c
    exact absurd c (by decide)
theorem cut_clean {v : Nat → Pt} {n : Nat} (h : soundS v n) {a b : Pt} (hab : a ≠ b) (hc : cutC v n a b) : clean v n a b := by
  refine ⟨hab, fun k hk c => ?_, fun k hb => ?_⟩
  · rw [hc k hk] at c
    split at c <;> exact absurd c (by decide)
  · have := dg_of h hab hc k 1 (v k) (by decide) (by rw [sc_one, sc_one]; exact hb) (by rw [sc_one, sc_one]; exact bet_a _ _)
    rwa [sc_one, sc_one] at this
theorem starts_corner {v : Nat → Pt} {n : Nat} (h : soundS v n) (i : Nat) (t : Pt) : startsIn v n (v (i + 1)) t ↔ opn (v i) (v (i + 1)) (v (i + 2)) (dl (v (i + 1)) t) := by
  constructor
  · rintro (⟨o, -⟩ | ⟨k, e, o⟩ | ⟨k, hk, b, n1, n2, -⟩)
    · obtain ⟨k, hk, b⟩ := corner_on h (i + 1)
      exact absurd b (o k hk)
    · have := same_corner h e
      rw [this.1, this.2, e]
      rw [e] at o
      exact o
    · rcases corner_in h b with c | c
      · exact absurd c n1
      · exact absurd c n2
  · intro o; exact Or.inr (Or.inl ⟨i, rfl, o⟩)
/-- isInside is isCut -/
theorem cut_iff {v : Nat → Pt} {n : Nat} (h : soundS v n) (hl : lefty v) {i : Nat} {b m : Pt} (hab : v (i + 1) ≠ b) (hc : cutC v n (v (i + 1)) b) (hm : mid (v (i + 1)) b m) : inn v n m ↔ opn (v i) (v (i + 1)) (v (i + 2)) (dl (v (i + 1)) b) := by
  rw [gap_in h hl (cut_clean h hab hc) hm, starts_corner h]
theorem SS_gen {v : Nat → Pt} {n : Nat} (h : soundS v n) {x y : Nat} (hne : x % n ≠ y % n) {N : Int} (hN : 0 < N) {z : Pt} (b1 : bet (scP N (v x)) (scP N (v (x + 1))) z) (b2 : bet (scP N (v y)) (scP N (v (y + 1))) z) : (v (y + 1) = v x ∧ z = scP N (v x)) ∨ (v (x + 1) = v y ∧ z = scP N (v y)) := by
  have h3 := h.1
  have hs := S_sound h
  have ex := sound_per hs x
  have ey := sound_per hs y
  have ex1 : v (x + 1) = v (x % n + 1) := sound_eq hs (by rw [Nat.mod_add_mod])
  have ey1 : v (y + 1) = v (y % n + 1) := sound_eq hs (by rw [Nat.mod_add_mod])
  rw [ex, ex1] at b1
  rw [ey, ey1] at b2
  rcases soundS_all h (Nat.mod_lt x (by omega)) (Nat.mod_lt y (by omega)) hne N z hN b1 b2 with ⟨e, ez⟩ | ⟨e, ez⟩
  · left
    refine ⟨?_, by rw [ex]; exact ez⟩
    rw [ey1, ex]; exact sound_eq hs (by rw [e, Nat.mod_mod])
  · right
    refine ⟨?_, by rw [ey]; exact ez⟩
    rw [ex1, ey]; exact sound_eq hs (by rw [e, Nat.mod_mod])
theorem mod_inj {n s k k' : Nat} (hk : k < n) (hk' : k' < n) (e : (s + k) % n = (s + k') % n) : k = k' := by
  have a := Nat.div_add_mod (s + k) n
  have b := Nat.div_add_mod (s + k') n
  rw [e] at a
  generalize (s + k) / n = x at *
  generalize (s + k') / n = y at *
  rcases Nat.lt_trichotomy x y with c | c | c
  · have := Nat.mul_le_mul_left n (show x + 1 ≤ y by omega)
    rw [Nat.mul_add, Nat.mul_one] at this
    omega
  · subst c; omega
  · have := Nat.mul_le_mul_left n (show y + 1 ≤ x by omega)
    rw [Nat.mul_add, Nat.mul_one] at this
    omega
theorem inj_n {v : Nat → Pt} {n : Nat} (h : soundS v n) {s k k' : Nat} (hk : k < n) (hk' : k' < n) (e : v (s + k) = v (s + k')) : k = k' := by
  have h3 := h.1
  rw [sound_per (S_sound h) (s + k), sound_per (S_sound h) (s + k')] at e
  exact mod_inj hk hk' (h.2.2.1 _ _ (Nat.mod_lt _ (by omega)) (Nat.mod_lt _ (by omega)) e)
theorem piece_S {v : Nat → Pt} {n s m : Nat} (h : soundS v n) (h3 : 3 ≤ m) (hm : m ≤ n) (hd : dg v (v s) (v (s + (m - 1)))) : soundS (fun k => v (s + k % m)) m := by
  have lt : ∀ {k}, k < m → k % m = k := fun hk => Nat.mod_eq_of_lt hk
  refine ⟨h3, fun i => ?_, fun i j hi hj e => ?_, fun i k hik hk => ?_⟩
  · show v (s + (i + m) % m) = v (s + i % m)
    rw [Nat.add_mod_right]
  · have e : v (s + i % m) = v (s + j % m) := e
    rw [lt hi, lt hj] at e
    exact inj_n h (by omega) (by omega) e
  · intro N x hN b1 b2
    have b1 : bet (scP N (v (s + i % m))) (scP N (v (s + (i + 1) % m))) x := b1
    have b2 : bet (scP N (v (s + k % m))) (scP N (v (s + (k + 1) % m))) x := b2
    show ((k + 1) % m = i ∧ x = scP N (v (s + i % m))) ∨ ((i + 1) % m = k ∧ x = scP N (v (s + k % m)))
    rw [lt (show i < m by omega), lt (show i + 1 < m by omega)] at b1
    rw [lt hk] at b2
    rw [lt (show i < m by omega), lt hk, lt (show i + 1 < m by omega)]
    by_cases q : k = m - 1
    · subst q
      rw [show m - 1 + 1 = m by omega, Nat.mod_self] at b2 ⊢
      rw [Nat.add_zero] at b2
      have fin : ∀ t, t < m → x = scP N (v (s + t)) → t = i ∨ t = i + 1 := by
        intro t ht e
        rw [e] at b1
        rcases corner_in h (k := s + i) ((bet_sc hN).mp b1) with c | c
        · exact Or.inl (inj_n h (by omega) (by omega) c)
        · exact Or.inr (inj_n h (by omega) (by omega) (c.trans (by rfl)))
      rcases hd (s + i) N x hN (bet_rev b2) b1 with e | e
      · rcases fin 0 (by omega) e with c | c
        · subst c; exact Or.inl ⟨rfl, e⟩
        · omega
      · rcases fin (m - 1) (by omega) e with c | c
        · omega
        · exact Or.inr ⟨c.symm, e⟩
    · rw [lt (show k + 1 < m by omega)] at b2
      rcases SS_gen h (x := s + i) (y := s + k) (fun e => by have := mod_inj (s := s) (k := i) (k' := k) (n := n) (by omega) (by omega) e; omega) hN b1 b2 with ⟨e, ez⟩ | ⟨e, ez⟩
      · have := inj_n h (s := s) (k := k + 1) (k' := i) (by omega) (by omega) e
        omega
      · have := inj_n h (s := s) (k := i + 1) (k' := k) (by omega) (by omega) e
        exact Or.inr ⟨this, ez⟩
