theorem com1_comm {a b c d : Pt} (h : comP a b c d = 1) : comP c d a b = 1 := by
  rw [com1] at h ⊢; exact ⟨h.2, h.1⟩
theorem com3_of {a b c d x y : Pt} (hab : a ≠ b) (hz : cr (dl a b) (dl c d) = 0) (x1 : bet a b x) (x2 : bet c d x) (y1 : bet a b y) (y2 : bet c d y) (hne : x ≠ y) : comP a b c d = 3 := by
  have eq : orP a b d = orP a b c := by have := or_dl a b c d; omega
  have o1 : orP a b c = 0 := by
    obtain ⟨s, t, hc⟩ := bet_comb x2
    have k := comb_or hc a b
    rw [x1.1, Int.mul_zero, eq] at k
    have : (s + t) * orP a b c = 0 := by grind
    rcases Int.mul_eq_zero.mp this with w | w
    · have := hc.2.2.1; omega
    · exact w
  have o2 : orP a b d = 0 := by omega
  rw [com3]
  refine ⟨⟨o1, o2⟩, ?_⟩
  have inb : ∀ z : Pt, bet a b z → bet c d z → ltP z (colF a b c d) = false ∧ ltP (colL a b c d) z = false := by
    intro z z1 z2
    have k1 : ltP z (mnP a b) = false ∧ ltP (mxP a b) z = false := by
      have k := (bt_box z1.1).mpr z1.2
      rw [btP_iff] at k
      rw [mnP_lt, mxP_lt]
      cases q : ltP a b with
      | true => rw [if_pos rfl, if_pos rfl]; exact bet_lt z1 q
      | false =>
        rw [if_neg (by decide), if_neg (by decide)]
        rcases k with ⟨k1, k2⟩ | k
        · rw [ltP_f] at k1 k2 q
          constructor
          · rw [ltP_f]; omega
          · rw [ltP_f]; omega
        · exact ⟨k.2, k.1⟩
    have k2 : ltP z (mnP c d) = false ∧ ltP (mxP c d) z = false := by
      have k := (bt_box z2.1).mpr z2.2
      rw [btP_iff] at k
      rw [mnP_lt, mxP_lt]
      cases q : ltP c d with
      | true => rw [if_pos rfl, if_pos rfl]; exact bet_lt z2 q
      | false =>
        rw [if_neg (by decide), if_neg (by decide)]
        rcases k with ⟨k1, k2⟩ | k
        · rw [ltP_f] at k1 k2 q
          constructor
          · rw [ltP_f]; omega
          · rw [ltP_f]; omega
        · exact ⟨k.2, k.1⟩
    rw [colF_lt, colL_lt]
    constructor
    · split
      · exact k2.1
      · exact k1.1
    · split
      · exact k1.2
      · exact k2.2
  have ix := inb x x1 x2
  have iy := inb y y1 y2
  cases q : ltP (colF a b c d) (colL a b c d) with
  | true => rfl
  | false =>
    exfalso
    apply hne
    obtain ⟨ix1, ix2⟩ := ix
    obtain ⟨iy1, iy2⟩ := iy
    rw [ltP_f] at ix1 ix2 iy1 iy2 q
    apply Prod.ext <;> omega
theorem like_back {p q : Nat → Pt} {n m : Nat} (hp : soundS p n) (lp : lefty p) (hq : soundS q m) (lq : lefty q) (l0 : ltP (p 0) (p 1) = true) (nc : ∀ i k, i < n → k < m → comP (p i) (p (i + 1)) (q k) (q (k + 1)) ≠ 1) (on : ∀ N y, 0 < N → onN p n N y → onN q m N y) : ∃ j, j < m ∧ ltP (q j) (q (j + 1)) = true ∧ comP (p 0) (p 1) (q j) (q (j + 1)) = 3 := by
  obtain ⟨P, n', Q, m', rP, rQ, cP, cQ⟩ := pair_ref hp lp hq lq
  have h3 := rP.1.1
  have h3q := rQ.1.1
  have NC : ∀ i k, comP (P i) (P (i + 1)) (Q k) (Q (k + 1)) ≠ 1 := by
    intro i k c
    obtain ⟨i', hi, s1, s2, -⟩ := rP.2.2.1 i
    obtain ⟨k', hk, t1, t2, -⟩ := rQ.2.2.1 k
    exact nc i' k' hi hk (com1_comm (sub_com1 t1 t2 (com1_comm (sub_com1 s1 s2 c))))
  have cor : ∀ i, ∃ j, Q j = P i := fun i => cQ i (on 1 _ (by decide) (sub_on rP (by decide) (on_corner rP.1 i)))
  have edge : ∀ i, (∃ j, P i = Q j ∧ P (i + 1) = Q (j + 1)) ∨ ∃ j, P i = Q (j + 1) ∧ P (i + 1) = Q j := by
    intro i
    obtain ⟨a, ea⟩ := cor i
    obtain ⟨b, eb⟩ := cor (i + 1)
    have cl : clean Q m' (P i) (P (i + 1)) := by
      refine ⟨next_ne rP.1 i, fun k _ => NC i k, fun k hb => ?_⟩
      obtain ⟨i', hi, e1, e2⟩ := per_edge rP.1 i
      obtain ⟨l, el⟩ := cP k (sub_on rP (by decide) ⟨i', hi, by rw [sc_one, sc_one, ← e1, ← e2]; exact hb⟩)
      rw [← el] at hb ⊢
      exact corner_in rP.1 hb
    rcases gap_cases rQ.1 cl with ⟨k, hk, b1, b2⟩ | c
    · rw [← ea] at b1
      rw [← eb] at b2
      have ne : Q a ≠ Q b := by rw [ea, eb]; exact next_ne rP.1 i
      rw [← ea, ← eb]
      rcases corner_in rQ.1 b1 with c1 | c1 <;> rcases corner_in rQ.1 b2 with c2 | c2
      · exact absurd (c1.trans c2.symm) ne
      · exact Or.inl ⟨k, c1, c2⟩
      · exact Or.inr ⟨k, c1, c2⟩
      · exact absurd (c1.trans c2.symm) ne
    · exfalso
      obtain ⟨y, hy⟩ : ∃ y : Pt, y = ((P i).1 + (P (i + 1)).1, (P i).2 + (P (i + 1)).2) := ⟨_, rfl⟩
      have md : mid (scP 2 (P i)) (scP 2 (P (i + 1))) y := by
        subst hy
        constructor <;> simp only [scP] <;> omega
      have yb := mid_bet md
      obtain ⟨i', hi, e1, e2⟩ := per_edge rP.1 i
      obtain ⟨k, hk, hb⟩ := rQ.2.2.2.1 2 y (by decide) (on 2 y (by decide) (sub_on rP (by decide) ⟨i', hi, by rw [← e1, ← e2]; exact yb⟩))
      have nn := mid_ne md (fun c => next_ne rP.1 i (sc_inj (by decide) c))
      rcases c k hk 2 y (by decide) yb hb with c | c
      · exact nn.1 c
      · exact nn.2 c
  obtain ⟨a, ea⟩ := rP.2.2.2.2 0
  have direct : ∃ j, P a = Q j ∧ P (a + 1) = Q (j + 1) := by
    rcases edge a with h | ⟨j, r1, r2⟩
    · exact h
    exfalso
    have idx : ∀ x, ∃ x', Q x = Q (x' + 1) := fun x => ⟨x + m' - 1, by rw [show x + m' - 1 + 1 = x + m' by omega, rQ.1.2.1]⟩
    have rev : ∀ t, ∃ j, P (a + t) = Q (j + 1) ∧ P (a + t + 1) = Q j := by
      intro t
      induction t with
      | zero => exact ⟨j, r1, r2⟩
      | succ t ih =>
        obtain ⟨j, r1, r2⟩ := ih
        rcases edge (a + t + 1) with ⟨k, d1, d2⟩ | h
        · exfalso
          obtain ⟨j', ej⟩ := idx j
          obtain ⟨k', ek⟩ := idx k
          have e : Q (j' + 1) = Q (k' + 1) := by rw [← ej, ← ek, ← r2, d1]
          have s1 := sound_eq (S_sound rQ.1) (x := j + 1) (y := j' + 2)
          have e2 : Q (j + 1) = Q (k + 1) := by
            have hmod : j % m' = k % m' := by
              have e3 : Q j = Q k := by rw [← r2, d1]
              rw [sound_per (S_sound rQ.1) j, sound_per (S_sound rQ.1) k] at e3
              exact rQ.1.2.2.1 _ _ (Nat.mod_lt _ (by omega)) (Nat.mod_lt _ (by omega)) e3
            exact sound_eq (S_sound rQ.1) (by rw [Nat.add_mod, hmod, ← Nat.add_mod])
          exact two_ne rP.1 (a + t) (by rw [r1, e2, ← d2])
        · exact h
    have all : ∀ i, ∃ j, P i = Q (j + 1) ∧ P (i + 1) = Q j := by
      intro i
      have e : ∀ x, P (x + a * n') = P x := fun x => sound_eq (S_sound rP.1) (Nat.add_mul_mod_self_right _ _ _)
      have le : a ≤ a * n' := Nat.le_mul_of_pos_right a (by omega)
      obtain ⟨k, s1, s2⟩ := rev (i + a * n' - a)
      rw [show a + (i + a * n' - a) = i + a * n' by omega] at s1 s2
      rw [e i] at s1
      rw [show i + a * n' + 1 = i + 1 + a * n' by omega, e (i + 1)] at s2
      exact ⟨k, s1, s2⟩
    have modq : ∀ x y, Q x = Q y → x % m' = y % m' := fun x y e3 => by
      rw [sound_per (S_sound rQ.1) x, sound_per (S_sound rQ.1) y] at e3
      exact rQ.1.2.2.1 _ _ (Nat.mod_lt _ (by omega)) (Nat.mod_lt _ (by omega)) e3
    have back : ∀ i k, P i = Q (k + 1) → P (i + 1) = Q k := by
      intro i k e
      obtain ⟨j, s1, s2⟩ := all i
      obtain ⟨j', ej⟩ := idx j
      rw [s2]
      have := same_corner rQ.1 (i := j) (j := k) (by rw [← s1, e])
      exact this.1
    have covers : ∀ J t i, P i = Q (J + t) → ∃ i', P i' = Q J := by
      intro J t
      induction t with
      | zero => intro i h; exact ⟨i, h⟩
      | succ t ih => intro i h; exact ih (i + 1) (back i (J + t) h)
    have onto : ∀ x, ∃ i, P i = Q x := by
      intro x
      have e : Q (j + 1) = Q (j + 1 + x * m') := sound_eq (S_sound rQ.1) (Nat.add_mul_mod_self_right _ _ _).symm
      have le : x ≤ x * m' := Nat.le_mul_of_pos_right x (by omega)
      exact covers x (j + 1 + x * m' - x) a (by rw [r1, e]; congr 1; omega)
    obtain ⟨b, lb, tb⟩ := rP.2.1
    obtain ⟨c, lc, tc⟩ := rQ.2.1
    have same : P (b + 1) = Q (c + 1) := by
      obtain ⟨i, ei⟩ := onto (c + 1)
      obtain ⟨k, ek⟩ := cor (b + 1)
      have k1 := lb i
      have k2 := lc k
      rw [ei] at k1
      rw [ek] at k2
      rw [ltP_f] at k1 k2
      apply Prod.ext <;> omega
    have n1 : P (b + 2) = Q c := back (b + 1) c same
    have n0 : P b = Q (c + 2) := by
      obtain ⟨k, s1, s2⟩ := all b
      rw [s1]
      have hmod := modq k (c + 1) (by rw [← s2, same])
      exact sound_eq (S_sound rQ.1) (x := k + 1) (y := c + 2) (by rw [show c + 2 = c + 1 + 1 by omega, Nat.add_mod, hmod, ← Nat.add_mod])
    rw [n0, same, n1] at tb
    have : orP (Q (c + 2)) (Q (c + 1)) (Q c) = -orP (Q c) (Q (c + 1)) (Q (c + 2)) := by unfold orP; grind
    omega
  obtain ⟨j, d1, d2⟩ := direct
  have np := lt_ne l0
  have sP := edge_at hp rP (a := a) (k := 0) (by have := hp.1; omega) (by rw [ea]; exact bet_a _ _) (by rw [ea]; exact np)
  obtain ⟨k, hk, sQ⟩ := rQ.2.2.1 j
  have lk : ltP (q k) (q (k + 1)) = true := by
    rw [← sub_lt sQ, ← d1, ← d2, sub_lt sP]; exact l0
  refine ⟨k, hk, lk, ?_⟩
  have z : cr (dl (p 0) (p 1)) (dl (q k) (q (k + 1))) = 0 := by
    have k1 := sub_cr sP (dl (Q j) (Q (j + 1)))
    have k2 := sub_cr' sQ (dl (p 0) (p (0 + 1)))
    have : cr (dl (P a) (P (a + 1))) (dl (Q j) (Q (j + 1))) = 0 := by rw [d1, d2]; unfold cr; grind
    show cr (dl (p 0) (p (0 + 1))) (dl (q k) (q (k + 1))) = 0
    omega
  exact com3_of np z sP.1 (by rw [d1]; exact sQ.1) sP.2.1 (by rw [d2]; exact sQ.2.1) (next_ne rP.1 a)
/-- a point of a cut segment lies in one of its pieces -/
theorem in_piece {U W : Pt} {m : Nat} {s : Nat → Pt} (s0 : s 0 = U) (sm : s m = W) (hm : 0 < m) (ord : ∀ j k, j < k → k ≤ m → bet U (s k) (s j)) {N : Int} (hN : 0 < N) {y : Pt} (hy : bet (scP N U) (scP N W) y) : ∃ k, k < m ∧ bet (scP N (s k)) (scP N (s (k + 1))) y := by
  have key : ∀ t, t ≤ m → 0 < t → bet (scP N U) (scP N (s t)) y → ∃ k, k < m ∧ bet (scP N (s k)) (scP N (s (k + 1))) y := by
    intro t
    induction t with
    | zero => intro _ h; omega
    | succ t ih =>
      intro ht _ hb
      by_cases q : t = 0
      · subst q
        exact ⟨0, by omega, by rw [s0]; exact hb⟩
      · rcases bet_split ((bet_sc hN).mpr (ord t (t + 1) (by omega) ht)) hb with r | r
        · exact ih (by omega) (by omega) r
        · exact ⟨t, by omega, r⟩
  exact key m (Nat.le_refl _) hm (by rw [sm]; exact hy)
/-- if the middle of each gap lies on the ring, the whole segment does -/
theorem on_all {v : Nat → Pt} {n : Nat} {U W : Pt} {m : Nat} {s mm : Nat → Pt} (h : soundS v n) (hs : stopsOf v U W m s) (hx : ∀ k, k < n → comP U W (v k) (v (k + 1)) ≠ 1) (hm : ∀ k, k < m → mid (s k) (s (k + 1)) (mm k)) (hon : ∀ k, k < m → ¬ off v n (mm k)) {N : Int} (hN : 0 < N) {y : Pt} (hy : bet (scP N U) (scP N W) y) : onN v n N y := by
  obtain ⟨m0, s0, sm, ord, inner, all⟩ := id hs
  obtain ⟨k, hk, hb⟩ := in_piece s0 sm m0 (fun j k h1 h2 => (ord j k h1 h2).1) hN hy
  have cl := stops_clean hs hx hk
  rcases gap_cases h cl with ⟨i, hi, b1, b2⟩ | c
  · exact ⟨i, hi, bet_conv ((bet_sc hN).mpr b1) ((bet_sc hN).mpr b2) hb⟩
  · exfalso
    apply hon k hk
    intro i hi b
    have md := hm k hk
    have nn := mid_ne md cl.1
    have := c i hi 1 (mm k) (by decide) (by rw [sc_one, sc_one]; exact mid_bet md) (by rw [sc_one, sc_one]; exact b)
    rw [sc_one, sc_one] at this
    rcases this with e | e
    · exact nn.1 e
    · exact nn.2 e
/-- and if the whole segment lies on the ring, so does the middle of each gap -/
theorem on_mids {v : Nat → Pt} {n : Nat} {U W : Pt} {m : Nat} {s mm : Nat → Pt} (hs : stopsOf v U W m s) (hm : ∀ k, k < m → mid (s k) (s (k + 1)) (mm k)) (hon : ∀ y, bet U W y → onN v n 1 y) {k : Nat} (hk : k < m) : ¬ off v n (mm k) := by
  intro ho
  obtain ⟨i, hi, b⟩ := hon (mm k) (bet_conv (stops_on hs (show k ≤ m by omega)) (stops_on hs (show k + 1 ≤ m by omega)) (mid_bet (hm k hk)))
  rw [sc_one, sc_one] at b
  exact ho i hi b
