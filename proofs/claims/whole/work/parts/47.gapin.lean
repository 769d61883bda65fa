/-- one who leaves s towards t comes at once to the inside -/
def startsIn (v : Nat → Pt) (n : Nat) (s t : Pt) : Prop := (off v n s ∧ wnd v n s = 1) ∨ (∃ i, s = v (i + 1) ∧ opn (v i) (v (i + 1)) (v (i + 2)) (dl s t)) ∨ ∃ k, k < n ∧ bet (v k) (v (k + 1)) s ∧ s ≠ v k ∧ s ≠ v (k + 1) ∧ 0 < orP (v k) (v (k + 1)) t
theorem corner_on {v : Nat → Pt} {n : Nat} (h : soundS v n) (i : Nat) : ∃ k, k < n ∧ bet (v k) (v (k + 1)) (v i) := by
  have h3 := h.1
  refine ⟨i % n, Nat.mod_lt _ (by omega), ?_⟩
  rw [sound_per (S_sound h) i]
  have : v (i % n % n) = v (i % n) := by rw [Nat.mod_mod]
  exact bet_a _ _
theorem same_corner {v : Nat → Pt} {n : Nat} (h : soundS v n) {i j : Nat} (e : v (i + 1) = v (j + 1)) : v i = v j ∧ v (i + 2) = v (j + 2) := by
  have h3 := h.1
  have hs := S_sound h
  rw [sound_per hs (i + 1), sound_per hs (j + 1)] at e
  have e1 := h.2.2.1 _ _ (Nat.mod_lt _ (by omega)) (Nat.mod_lt _ (by omega)) e
  constructor
  · refine sound_eq hs ?_
    have e2 : (i + 1 + (n - 1)) % n = (j + 1 + (n - 1)) % n := by rw [Nat.add_mod, e1, ← Nat.add_mod]
    rw [show i + 1 + (n - 1) = i + n by omega, show j + 1 + (n - 1) = j + n by omega, Nat.add_mod_right, Nat.add_mod_right] at e2
    exact e2
  · refine sound_eq hs ?_
    rw [show i + 2 = i + 1 + 1 by omega, show j + 2 = j + 1 + 1 by omega, Nat.add_mod, e1, ← Nat.add_mod]
/-- a corner is no point between the ends of an edge -/
theorem corner_not {v : Nat → Pt} {n : Nat} (h : soundS v n) {i k : Nat} (hk : k < n) (hb : bet (v k) (v (k + 1)) (v (i + 1))) : (v k = v i ∧ v (k + 1) = v (i + 1)) ∨ (v k = v (i + 1) ∧ v (k + 1) = v (i + 2)) := by
  rcases corner_off (S_sound h) i k hk with c | c | c
  · exact Or.inl c
  · exact Or.inr c
  · exact absurd ⟨hb.1, hb.2⟩ c
theorem cr_dl (u a t : Pt) : cr (dl u a) (dl a t) = orP u a t := (or_cr u a t).symm
/-- along an edge one comes not to the inside -/
theorem opn_along {u a b t : Pt} (h : bet a b t ∨ bet a u t) : ¬ opn u a b (dl a t) := by
  unfold opn
  rw [cr_dl]
  have e2 : cr (dl a b) (dl a t) = orP a b t := by unfold cr dl orP; grind
  rw [e2]
  rcases h with h | h
  · obtain ⟨p, q, hc⟩ := bet_comb h
    have e := comb_or hc u a
    rw [or_self2, Int.mul_zero, Int.zero_add] at e
    have z := h.1
    rw [z]
    split
    · rintro ⟨-, w⟩; omega
    · rename_i c
      rintro (w | w)
      · have := pp hc.2.2.1 w
        have := m_pz hc.2.1 (show orP u a b ≤ 0 by omega)
        omega
      · omega
  · obtain ⟨p, q, hc⟩ := bet_comb h
    have e := comb_or hc a b
    rw [or_self1, Int.mul_zero, Int.zero_add] at e
    have z := h.1
    have z1 : orP u a t = 0 := by rw [or_swap, z]; rfl
    rw [z1]
    have z2 : orP a b u = orP u a b := by rw [or_cyc u a b]
    rw [z2] at e
    split
    · rintro ⟨w, -⟩; omega
    · rename_i c
      rintro (w | w)
      · omega
      · have := pp hc.2.2.1 w
        have := m_pz hc.2.1 (show orP u a b ≤ 0 by omega)
        omega
theorem opn_tri {u a b m : Pt} (hua : u ≠ a) (hab : a ≠ b) (hm : m ≠ a) (g : goes u a b) (h1 : ¬ opn u a b (dl a m)) (h2 : ¬ opn b a u (dl a m)) : (bet a b m ∨ bet a m b) ∨ bet a u m ∨ bet a m u := by
  have c1 : cr (dl u a) (dl a m) = orP u a m := cr_dl u a m
  have c2 : cr (dl a b) (dl a m) = orP a b m := by unfold cr dl orP; grind
  have c3 : cr (dl b a) (dl a m) = -orP a b m := by rw [cr_rev, c2]
  have c4 : cr (dl a u) (dl a m) = -orP u a m := by rw [cr_rev, c1]
  have o : orP b a u = -orP u a b := by unfold orP; grind
  unfold opn at h1 h2
  rw [c1, c2] at h1
  rw [c3, c4, o] at h2
  have fa : ∀ p q : Int, 0 ≤ p → 0 ≤ q → 0 < p + q → ∀ x : Pt, comb x m a p q → p = 0 → False := by
    intro p q hp hq h0 x hc e
    subst e
    obtain ⟨-, -, -, e1, e2⟩ := hc
    rw [Int.zero_mul, Int.zero_add, Int.zero_add] at e1 e2
    exact hm (Prod.ext (Int.eq_of_mul_eq_mul_left (by omega) e1).symm (Int.eq_of_mul_eq_mul_left (by omega) e2).symm)
  have L2 : orP a b m = 0 → (bet a b m ∨ bet a m b) ∨ bet b m a := by
    intro z
    rcases tri_line hab z with w | w | w
    · exact Or.inl (Or.inl w)
    · exact Or.inl (Or.inr w)
    · exact Or.inr w
  have L1 : orP u a m = 0 → (bet a u m ∨ bet a m u) ∨ bet u m a := by
    intro z
    rcases tri_line (Ne.symm hua) (show orP a u m = 0 by rw [or_swap, z]; rfl) with w | w | w
    · exact Or.inl (Or.inl w)
    · exact Or.inl (Or.inr w)
    · exact Or.inr w
  have X2 : bet b m a → orP u a b ≠ 0 → (0 < orP u a b → 0 ≤ orP u a m) → (orP u a b < 0 → orP u a m ≤ 0) → False := by
    intro w n0 k1 k2
    obtain ⟨p, q, hc⟩ := bet_comb w
    have e := comb_or hc u a
    rw [or_self2, Int.mul_zero] at e
    have hp := hc.1
    have hq := hc.2.1
    have p0 : 0 < p := by
      rcases Int.lt_or_le 0 p with r | r
      · exact r
      · exact (fa p q hp hq hc.2.2.1 b hc (by omega)).elim
    rcases Int.lt_trichotomy (orP u a b) 0 with r | r | r
    · have := pn p0 r
      have := m_pz hq (k2 r)
      omega
    · exact n0 r
    · have := pp p0 r
      have := m_nn hq (k1 r)
      omega
  have X1 : bet u m a → orP u a b ≠ 0 → (0 < orP u a b → 0 ≤ orP a b m) → (orP u a b < 0 → orP a b m ≤ 0) → False := by
    intro w n0 k1 k2
    obtain ⟨p, q, hc⟩ := bet_comb w
    have e := comb_or hc a b
    rw [or_self1, Int.mul_zero, ← or_cyc u a b] at e
    have hp := hc.1
    have hq := hc.2.1
    have p0 : 0 < p := by
      rcases Int.lt_or_le 0 p with r | r
      · exact r
      · exact (fa p q hp hq hc.2.2.1 u hc (by omega)).elim
    rcases Int.lt_trichotomy (orP u a b) 0 with r | r | r
    · have := pn p0 r
      have := m_pz hq (k2 r)
      omega
    · exact n0 r
    · have := pp p0 r
      have := m_nn hq (k1 r)
      omega
  rcases Int.lt_trichotomy (orP u a b) 0 with O | O | O
  · rw [if_neg (by omega)] at h1
    rw [if_pos (by omega)] at h2
    by_cases z : orP a b m = 0
    · rcases L2 z with w | w
      · exact Or.inl w
      · exact (X2 w (by omega) (by omega) (by omega)).elim
    · rcases L1 (by omega) with w | w
      · exact Or.inr w
      · exact (X1 w (by omega) (by omega) (by omega)).elim
  · rw [if_neg (by omega)] at h1 h2
    rcases L2 (by omega) with w | w
    · exact Or.inl w
    · rcases L1 (by omega) with w2 | w2
      · exact Or.inr w2
      · exfalso
        have gg := g.resolve_left (fun q => q O)
        have hb : bet u b a := by
          rcases gg with gg | gg
          · exact lin_bet1 (by rw [or_p1, O]; rfl) (by rcases mul_pos_cases gg with q | q <;> omega) (by rcases mul_pos_cases gg with q | q <;> omega)
          · exact lin_bet2 (by rw [or_p1, O]; rfl) (by rcases mul_pos_cases gg with q | q <;> omega) (by rcases mul_pos_cases gg with q | q <;> omega)
        exact hm (opp hb (Ne.symm hua) hab w w2)
  · rw [if_pos O] at h1
    rw [if_neg (by omega)] at h2
    by_cases z : orP a b m = 0
    · rcases L2 z with w | w
      · exact Or.inl w
      · exact (X2 w (by omega) (by omega) (by omega)).elim
    · rcases L1 (by omega) with w | w
      · exact Or.inr w
      · exact (X1 w (by omega) (by omega) (by omega)).elim
theorem opn_half {u a b t m : Pt} (h : mid a t m) : opn u a b (dl a m) ↔ opn u a b (dl a t) := by
  have e : ∀ x : Pt, cr x (dl a t) = 2 * cr x (dl a m) := by
    intro x
    obtain ⟨h1, h2⟩ := h
    unfold cr dl
    dsimp only
    rw [show t.1 = m.1 + m.1 - a.1 by omega, show t.2 = m.2 + m.2 - a.2 by omega]
    grind
  unfold opn
  rw [e, e]
  split
  · constructor <;> (rintro ⟨p, q⟩; exact ⟨by omega, by omega⟩)
  · constructor
    · rintro (p | p)
      · exact Or.inl (by omega)
      · exact Or.inr (by omega)
    · rintro (p | p)
      · exact Or.inl (by omega)
      · exact Or.inr (by omega)
/-- A GAP IS INSIDE just if one who starts at its one end comes to the inside -/
theorem gap_in {v : Nat → Pt} {n : Nat} {s t m : Pt} (h : soundS v n) (hl : lefty v) (hc : clean v n s t) (hm : mid s t m) : inn v n m ↔ startsIn v n s t := by
  have h3 := h.1
  have hst := hc.1
  have mn := mid_ne hm hst
  have mb := mid_bet hm
  have hS := S_sound h
  have gc := gap_cases h hc
  -- both ends on one edge: nothing of it is inside
  have onedge : ∀ k, k < n → bet (v k) (v (k + 1)) s → bet (v k) (v (k + 1)) t → ¬ inn v n m := fun k hk a b hi => hi.1 k hk (bet_conv a b mb)
  have clear : (∀ k, k < n → ∀ N y, 0 < N → bet (scP N s) (scP N t) y → bet (scP N (v k)) (scP N (v (k + 1))) y → y = scP N s ∨ y = scP N t) → ∀ k, k < n → ¬ bet (v k) (v (k + 1)) s → ¬ hit (v k) (v (k + 1)) m s := by
    rintro g k hk ns ⟨N, y, hN, g1, g2⟩
    have mbN := (bet_sc hN).mpr mb
    have b1 := bet_tr mbN (bet_rev g2)
    rcases g k hk N y hN b1 g1 with e | e
    · rw [e] at g1; exact ns ((bet_sc hN).mp g1)
    · rw [e] at g2
      exact mn.2 (bet_end mb ((bet_sc hN).mp (bet_rev g2)))
  have offm : (∀ k, k < n → ∀ N y, 0 < N → bet (scP N s) (scP N t) y → bet (scP N (v k)) (scP N (v (k + 1))) y → y = scP N s ∨ y = scP N t) → off v n m := by
    intro g k hk b
    have := g k hk 1 m (by decide) (by rw [sc_one, sc_one]; exact mb) (by rw [sc_one, sc_one]; exact b)
    rw [sc_one, sc_one] at this
    rcases this with e | e
    · exact mn.1 e
    · exact mn.2 e
  by_cases hoff : off v n s
  · -- s off the ring
    rcases gc with ⟨k, hk, a, b⟩ | g
    · exact absurd a (hoff k hk)
    · have ew : wnd v n m = wnd v n s := by
        refine wnd_move (fun k hk => soundS_next h hk) (v_n h.2.1) (fun k hk => clr_com ?_)
        refine Classical.byContradiction fun c => clear g k hk (hoff k hk) (com_hit (soundS_next h hk) mn.1 c)
      constructor
      · intro hi
        exact Or.inl ⟨hoff, by rw [← ew]; exact hi.2⟩
      · rintro (a | ⟨i, e, -⟩ | ⟨k, hk, b, -⟩)
        · exact ⟨offm g, by rw [ew]; exact a.2⟩
        · obtain ⟨k, hk, b⟩ := corner_on h (i + 1)
          rw [← e] at b
          exact absurd b (hoff k hk)
        · exact absurd b (hoff k hk)
  · by_cases hcor : ∃ i, s = v (i + 1)
    · obtain ⟨i, es⟩ := hcor
      have others : startsIn v n s t ↔ opn (v i) (v (i + 1)) (v (i + 2)) (dl s t) := by
        constructor
        · rintro (a | ⟨j, e, o⟩ | ⟨k, hk, b, n1, n2, -⟩)
          · exact absurd a.1 hoff
          · obtain ⟨e1, e2⟩ := same_corner h (es.symm.trans e)
            rw [e1, ← es, e, e2]
            exact e ▸ o
          · rw [es] at b n1 n2
            rcases corner_not h hk b with ⟨-, c⟩ | ⟨c, -⟩
            · exact absurd c.symm n2
            · exact absurd c.symm n1
        · intro o
          exact Or.inr (Or.inl ⟨i, es, o⟩)
      rw [others]
      rcases gc with ⟨k, hk, a, b⟩ | g
      · refine ⟨fun hi => absurd hi (onedge k hk a b), fun o => ?_⟩
        exfalso
        rw [es] at a o
        rcases corner_not h hk a with ⟨e1, e2⟩ | ⟨e1, e2⟩
        · rw [e1, e2] at b
          exact opn_along (Or.inr (bet_rev b)) o
        · rw [e1, e2] at b
          exact opn_along (Or.inl b) o
      · have hs : sees v n m i := by
          refine ⟨by rw [← es]; exact mn.1, fun k hk => ?_⟩
          rcases corner_off hS i k hk with c | c | c
          · exact Or.inl c
          · exact Or.inr (Or.inl c)
          · right; right
            rw [← es] at c ⊢
            refine Classical.byContradiction fun q => clear g k hk c (com_hit (soundS_next h hk) mn.1 q)
        have ls := left_sees hS hl hs
        have hf : opn (v i) (v (i + 1)) (v (i + 2)) (dl (v (i + 1)) m) ↔ opn (v i) (v (i + 1)) (v (i + 2)) (dl s t) := by
          have := opn_half (u := v i) (b := v (i + 2)) hm
          rw [es] at this ⊢
          exact this
        constructor
        · intro hi
          refine Classical.byContradiction fun q => ?_
          have q1 := fun w => q (hf.mp w)
          have q2 : ¬ opn (v (i + 2)) (v (i + 1)) (v i) (dl (v (i + 1)) m) := by
            intro w
            have := ls.2 w
            rw [hi.2] at this
            omega
          have m1 : m ≠ v (i + 1) := by rw [← es]; exact mn.1
          have incl : ∀ c, bet (v (i + 1)) m (v c) → v c ≠ v (i + 1) → False := by
            intro c b ne
            rw [← es] at b ne
            rcases hc.2.2 c (bet_tr mb b) with e | e
            · exact ne e
            · rw [e] at b; exact mn.2 (bet_end mb b)
          have edge1 : ¬ bet (v (i + 1)) (v (i + 2)) m := by
            intro b
            have hj := Nat.mod_lt (i + 1) (show 0 < n by omega)
            refine offm g ((i + 1) % n) hj ?_
            rw [sound_eq hS (show (i + 1) % n % n = (i + 1) % n from Nat.mod_mod _ _), sound_eq hS (show ((i + 1) % n + 1) % n = (i + 2) % n by rw [Nat.add_mod, Nat.mod_mod, ← Nat.add_mod])]
            exact b
          have edge0 : ¬ bet (v (i + 1)) (v i) m := by
            intro b
            have hj := Nat.mod_lt i (show 0 < n by omega)
            refine offm g (i % n) hj ?_
            rw [sound_eq hS (show i % n % n = i % n from Nat.mod_mod _ _), sound_eq hS (show (i % n + 1) % n = (i + 1) % n by rw [Nat.add_mod, Nat.mod_mod, ← Nat.add_mod])]
            exact bet_rev b
          rcases opn_tri (sound_next hS i) (sound_next hS (i + 1)) m1 (sound_goes hS i) q1 q2 with (b | b) | b | b
          · exact edge1 b
          · exact incl (i + 2) b (Ne.symm (sound_next hS (i + 1)))
          · exact edge0 b
          · exact incl i b (sound_next hS i)
        · intro o
          exact ⟨offm g, ls.1 (hf.mpr o)⟩
    · -- s between the ends of an edge
      have ⟨k, hk, b⟩ : ∃ k, k < n ∧ bet (v k) (v (k + 1)) s := by
        refine Classical.byContradiction fun c => hoff (fun k hk b => c ⟨k, hk, b⟩)
      have n2 : s ≠ v (k + 1) := fun e => hcor ⟨k, e⟩
      have n1 : s ≠ v k := fun e => hcor ⟨k + n - 1, by rw [show k + n - 1 + 1 = k + n by omega, h.2.1]; exact e⟩
      have uniq : ∀ j, j < n → bet (v j) (v (j + 1)) s → j = k := by
        intro j hj bj
        refine Classical.byContradiction fun c => ?_
        have := soundS_all h hj hk c 1 s (by decide) (by rw [sc_one, sc_one]; exact bj) (by rw [sc_one, sc_one]; exact b)
        rw [sc_one, sc_one] at this
        rcases this with ⟨-, e⟩ | ⟨-, e⟩
        · exact hcor ⟨j + n - 1, by rw [show j + n - 1 + 1 = j + n by omega, h.2.1]; exact e⟩
        · exact n1 e
      have others : startsIn v n s t ↔ 0 < orP (v k) (v (k + 1)) t := by
        constructor
        · rintro (a | ⟨j, e, -⟩ | ⟨j, hj, bj, -, -, o⟩)
          · exact absurd a.1 hoff
          · exact absurd ⟨j, e⟩ hcor
          · rw [uniq j hj bj] at o; exact o
        · intro o
          exact Or.inr (Or.inr ⟨k, hk, b, n1, n2, o⟩)
      rw [others]
      rcases gc with ⟨j, hj, a, b2⟩ | g
      · refine ⟨fun hi => absurd hi (onedge j hj a b2), fun o => ?_⟩
        rw [uniq j hj a] at b2
        have := b2.1
        omega
      · have le := left_edge h hl hk b n1 n2 mn.1 (fun i hi hik => clear g i hi (fun q => hik (uniq i hi q)))
        have mo := mid_or hm (v k) (v (k + 1))
        rw [b.1] at mo
        constructor
        · intro hi
          rcases Int.lt_trichotomy (orP (v k) (v (k + 1)) t) 0 with w | w | w
          · have := le.2 (by omega)
            rw [hi.2] at this
            omega
          · exfalso
            have nb : ¬ bet (v k) (v (k + 1)) t := by
              intro q
              exact offm g k hk (bet_conv b q mb)
            have step : ∀ c, bet s t (v c) → v c ≠ s → bet (v k) (v (k + 1)) (v c) → False := by
              intro c bc ne on
              rcases hc.2.2 c bc with e | e
              · exact ne e
              · rw [e] at on; exact nb on
            have zs : ∀ x : Pt, (x = v k ∨ x = v (k + 1)) → orP s x t = 0 := by
              intro x hx
              have hz := par_zero (soundS_next h hk) b.1 w
              have e1 : orP s x t = -orP s t x := or_p1 s t x
              rcases hx with rfl | rfl
              · rw [e1, hz.1]; rfl
              · rw [e1, hz.2]; rfl
            rcases tri_line n2 (zs _ (Or.inr rfl)) with q | q | q
            · exact nb (bet_tr' b q)
            · exact step (k + 1) q (Ne.symm n2) (bet_b _ _)
            · rcases tri_line n1 (zs _ (Or.inl rfl)) with q2 | q2 | q2
              · exact nb (bet_rev (bet_tr' (bet_rev b) q2))
              · exact step k q2 (Ne.symm n1) (bet_a _ _)
              · exact hst (opp b n1 n2 q q2).symm
          · exact w
        · intro o
          exact ⟨offm g, le.1 (by omega)⟩
