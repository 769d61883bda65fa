/-! ===== two rings of which neither reaches into the other ===== -/
theorem opn_swap {u a b m : Pt} (g : goes u a b) (h : opn b a u (dl a m)) : opn u a m (dl a b) := by
  have c1 : cr (dl u a) (dl a m) = orP u a m := cr_dl u a m
  have c2 : cr (dl u a) (dl a b) = orP u a b := cr_dl u a b
  have o : orP b a u = -orP u a b := by unfold orP; grind
  have c3 : cr (dl b a) (dl a m) = -cr (dl a b) (dl a m) := cr_rev a b _
  have c4 : cr (dl a u) (dl a m) = -cr (dl u a) (dl a m) := cr_rev u a _
  have c5 : cr (dl a m) (dl a b) = -cr (dl a b) (dl a m) := cr_anti _ _
  have st1 : orP u a b = 0 → (0 < cr (dl u a) (dl a m) ↔ 0 < cr (dl a b) (dl a m)) := fun h0 => straight_left h0 g
  have st2 : orP u a b = 0 → (cr (dl u a) (dl a m) < 0 ↔ cr (dl a b) (dl a m) < 0) := fun h0 => by
    have := straight_left (d := (-(dl a m).1, -(dl a m).2)) h0 g
    rw [cr_neg, cr_neg] at this
    omega
  unfold opn at h ⊢
  rw [c3, c4, c1, o] at h
  rw [c2, c5]
  rw [c1] at st1 st2
  generalize orP u a b = A at *
  generalize orP u a m = B at *
  generalize cr (dl a b) (dl a m) = C at *
  split at h <;> split <;> omega
theorem opn_sub {a b s t x y z : Pt} (h : sub a b s t) : opn x y z (dl s t) ↔ opn x y z (dl a b) := by
  unfold opn
  rw [(sub_cr' h _).1, (sub_cr' h _).1]
theorem two_ne {v : Nat → Pt} {n : Nat} (h : soundS v n) (j : Nat) : v j ≠ v (j + 2) := by
  have h3 := h.1
  intro e
  rw [sound_per (S_sound h) j, sound_per (S_sound h) (j + 2)] at e
  have := h.2.2.1 _ _ (Nat.mod_lt _ (by omega)) (Nat.mod_lt _ (by omega)) e
  have l := Nat.mod_lt j (show 0 < n by omega)
  rw [Nat.add_mod] at this
  by_cases q : n = 3
  · subst q; omega
  rw [Nat.mod_eq_of_lt (show 2 < n by omega)] at this
  by_cases c : j % n + 2 < n
  · rw [Nat.mod_eq_of_lt c] at this; omega
  · have e2 : (j % n + 2) % n = j % n + 2 - n := by
      rw [Nat.mod_eq_sub_mod (by omega), Nat.mod_eq_of_lt (by omega)]
    omega
theorem next_ne {v : Nat → Pt} {n : Nat} (h : soundS v n) (j : Nat) : v j ≠ v (j + 1) := sound_next (S_sound h) j
theorem opn_ref {v w : Nat → Pt} {n m : Nat} (hv : soundS v n) (h : Ref v n w m) (i : Nat) : (∃ k, w (i + 1) = v (k + 1) ∧ ∀ d, opn (w i) (w (i + 1)) (w (i + 2)) d ↔ opn (v k) (v (k + 1)) (v (k + 2)) d) ∨ ∃ k, k < n ∧ bet (v k) (v (k + 1)) (w (i + 1)) ∧ w (i + 1) ≠ v k ∧ w (i + 1) ≠ v (k + 1) ∧ ∀ d, opn (w i) (w (i + 1)) (w (i + 2)) d ↔ 0 < cr (dl (v k) (v (k + 1))) d := by
  obtain ⟨a, ha, sa⟩ := h.2.2.1 i
  obtain ⟨b, hb, sb⟩ := h.2.2.1 (i + 1)
  have sb : sub (v b) (v (b + 1)) (w (i + 1)) (w (i + 2)) := sb
  have na := soundS_next hv ha
  have nb := soundS_next hv hb
  have n1 : w (i + 1) ≠ v a := fun c => sub_end1 na (c ▸ sa)
  have n2 : w (i + 1) ≠ v (b + 1) := fun c => sub_end2 nb (c ▸ sb)
  have so : (0 < orP (w i) (w (i + 1)) (w (i + 2))) ↔ 0 < cr (dl (v a) (v (a + 1))) (dl (v b) (v (b + 1))) := by
    rw [or_cr, (sub_cr sa _).1, (sub_cr' sb _).1]
  by_cases q : a = b
  · subst q
    right
    refine ⟨a, ha, sa.2.1, n1, n2, fun d => ?_⟩
    have z : ¬ 0 < orP (w i) (w (i + 1)) (w (i + 2)) := by
      rw [so]
      have : cr (dl (v a) (v (a + 1))) (dl (v a) (v (a + 1))) = 0 := by unfold cr; grind
      omega
    unfold opn
    rw [if_neg z, (sub_cr sa d).1, (sub_cr sb d).1]
    exact ⟨fun k => k.elim id id, Or.inl⟩
  · left
    rcases soundS_all hv ha hb q 1 (w (i + 1)) (by decide) (by rw [sc_one, sc_one]; exact sa.2.1) (by rw [sc_one, sc_one]; exact sb.1) with ⟨-, e⟩ | ⟨e0, e⟩
    · rw [sc_one] at e; exact absurd e n1
    · rw [sc_one] at e
      have h3 := hv.1
      have e1 : v b = v (a + 1) := sound_eq (S_sound hv) (by rw [← e0, Nat.mod_mod])
      have e2 : v (b + 1) = v (a + 2) := sound_eq (S_sound hv) (by rw [← e0, Nat.mod_add_mod])
      refine ⟨a, by rw [e, e1], fun d => ?_⟩
      unfold opn
      rw [e1, e2] at so
      rw [e1, e2] at sb
      simp only [so, or_cr (v a), (sub_cr sa d).1, (sub_cr sb d).1]
/-- no edge of q reaches into p -/
def noR (p : Nat → Pt) (n : Nat) (q : Nat → Pt) (m : Nat) : Prop := ∀ j, j < m → ¬ startsIn p n (q j) (q (j + 1)) ∧ (∀ i, p (i + 1) ≠ q j → p (i + 1) ≠ q (j + 1) → bet (q j) (q (j + 1)) (p (i + 1)) → ¬ opn (p i) (p (i + 1)) (p (i + 2)) (dl (p (i + 1)) (q (j + 1)))) ∧ ∀ k, k < n → comP (q j) (q (j + 1)) (p k) (p (k + 1)) ≠ 1
theorem bal {s t C D : Int} (hs : 0 < s) (ht : 0 < t) (h : s * C + t * D = 0) (hg : D < C) : 0 < C ∧ D < 0 := by
  have c0 : 0 < C := by
    rcases Int.lt_or_le 0 C with w | w
    · exact w
    · exfalso
      have k1 := Int.mul_nonneg (Int.le_of_lt hs) (show 0 ≤ -C by omega)
      have k2 := Int.mul_pos ht (show 0 < -D by omega)
      rw [Int.mul_neg] at k1 k2
      omega
  refine ⟨c0, ?_⟩
  rcases Int.lt_or_le D 0 with w | w
  · exact w
  · exfalso
    have k1 := Int.mul_pos hs c0
    have k2 := Int.mul_nonneg (Int.le_of_lt ht) w
    omega
theorem or_dl (a b s t : Pt) : orP a b t = orP a b s + cr (dl a b) (dl s t) := by unfold orP cr dl; grind
theorem cross1 {a b c d x : Pt} (h1 : bet a b x) (a1 : x ≠ a) (a2 : x ≠ b) (h2 : bet c d x) (a3 : x ≠ c) (a4 : x ≠ d) (g : 0 < cr (dl c d) (dl a b)) : comP a b c d = 1 := by
  obtain ⟨s, t, hs, ht, hc⟩ := comb_pos h2 a3 a4
  obtain ⟨s', t', hs', ht', hc'⟩ := comb_pos h1 a1 a2
  have e1 := comb_or hc a b
  have e2 := comb_or hc' c d
  rw [h1.1, Int.mul_zero] at e1
  rw [h2.1, Int.mul_zero] at e2
  have f1 := or_dl a b c d
  have f2 := or_dl c d a b
  rw [cr_anti] at f1
  rw [com1]
  have k1 := bal hs ht e1.symm (by omega)
  have k2 := bal ht' hs' (show t' * orP c d b + s' * orP c d a = 0 by omega) (by omega)
  exact ⟨pn k1.1 k1.2, np k2.2 k2.1⟩
theorem noR_ref {p q P Q : Nat → Pt} {n m n' m' : Nat} (hp : soundS p n) (hq : soundS q m) (rP : Ref p n P n') (rQ : Ref q m Q m') (h : noR p n q m) (i j : Nat) (e : P (i + 1) = Q j) : ¬ opn (P i) (P (i + 1)) (P (i + 2)) (dl (Q j) (Q (j + 1))) := by
  intro ho
  obtain ⟨b, hb, sb⟩ := rQ.2.2.1 j
  have nb : Q j ≠ q (b + 1) := fun c => sub_end2 (soundS_next hq hb) (c ▸ sb)
  have sb2 : sub (q b) (q (b + 1)) (Q j) (q (b + 1)) := by
    by_cases c : Q j = q b
    · rw [c]; exact sub_self _ _
    · exact sub_right sb.1 c nb
  rcases opn_ref hp rP i with ⟨k, ek, hk⟩ | ⟨k, hk, hbk, n1, n2, hkk⟩
  · have o2 : opn (p k) (p (k + 1)) (p (k + 2)) (dl (Q j) (q (b + 1))) := (opn_sub sb2).mpr ((opn_sub sb).mp ((hk _).mp ho))
    have e3 : p (k + 1) = Q j := by rw [← ek, e]
    by_cases c : Q j = q b
    · exact (h b hb).1 (Or.inr (Or.inl ⟨k, by rw [← c, e3], by rw [← c]; exact o2⟩))
    · refine (h b hb).2.1 k (by rw [e3]; exact c) (by rw [e3]; exact nb) (by rw [e3]; exact sb.1) ?_
      rw [show dl (p (k + 1)) (q (b + 1)) = dl (Q j) (q (b + 1)) by rw [e3]]
      exact o2
  · have g : 0 < cr (dl (p k) (p (k + 1))) (dl (Q j) (Q (j + 1))) := (hkk _).mp ho
    have g2 : 0 < cr (dl (p k) (p (k + 1))) (dl (q b) (q (b + 1))) := (sub_cr' sb _).1.mp g
    rw [e] at hbk n1 n2
    by_cases c : Q j = q b
    · refine (h b hb).1 (Or.inr (Or.inr ⟨k, hk, by rw [← c]; exact hbk, by rw [← c]; exact n1, by rw [← c]; exact n2, ?_⟩))
      rw [or_dl _ _ (Q j), hbk.1, c]
      omega
    · exact (h b hb).2.2 k hk (cross1 sb.1 c nb hbk n1 n2 g2)
theorem corner_in {v : Nat → Pt} {n : Nat} (h : soundS v n) {k a : Nat} (hb : bet (v k) (v (k + 1)) (v a)) : v a = v k ∨ v a = v (k + 1) := by
  have h3 := h.1
  obtain ⟨k', hk, e1, e2⟩ := per_edge h k
  have ea : v a = v (a + n - 1 + 1) := by rw [show a + n - 1 + 1 = a + n by omega, h.2.1]
  rw [e1, e2, ea] at hb
  rcases corner_not h hk hb with c | c
  · right; rw [ea, e2, c.2]
  · left; rw [ea, e1, c.1]
theorem same_dir {P Q : Nat → Pt} {n m : Nat} (hP : soundS P n) (hQ : soundS Q m) (cQ : ∀ i, onN Q m 1 (P i) → ∃ j, Q j = P i) {i j : Nat} (e : P i = Q j) (h : bet (Q j) (Q (j + 1)) (P (i + 1))) : P (i + 1) = Q (j + 1) := by
  obtain ⟨k, hk, e1, e2⟩ := per_edge hQ j
  obtain ⟨l, el⟩ := cQ (i + 1) ⟨k, hk, by rw [sc_one, sc_one, ← e1, ← e2]; exact h⟩
  rw [← el] at h ⊢
  rcases corner_in hQ h with c | c
  · exfalso
    apply next_ne hP i
    rw [e, ← c, el]
  · exact c
theorem noback {v : Nat → Pt} {n : Nat} (h : soundS v n) (j : Nat) : ¬ bet (v j) (v (j + 1)) (v (j + 2)) ∧ ¬ bet (v (j + 1)) (v (j + 2)) (v j) := by
  constructor
  · intro b
    rcases corner_in h b with c | c
    · exact two_ne h j c.symm
    · exact next_ne h (j + 1) c.symm
  · intro b
    rcases corner_in h (k := j + 1) b with c | c
    · exact next_ne h j c
    · exact two_ne h j c
theorem step {P Q : Nat → Pt} {n m : Nat} (hP : soundS P n) (hQ : soundS Q m) (cP : ∀ j, onN P n 1 (Q j) → ∃ i, P i = Q j) (cQ : ∀ i, onN Q m 1 (P i) → ∃ j, Q j = P i) (nP : ∀ i j, P (i + 1) = Q j → ¬ opn (P i) (P (i + 1)) (P (i + 2)) (dl (Q j) (Q (j + 1)))) (nQ : ∀ j i, Q (j + 1) = P i → ¬ opn (Q j) (Q (j + 1)) (Q (j + 2)) (dl (P i) (P (i + 1)))) {i j : Nat} (e0 : P i = Q j) (e1 : P (i + 1) = Q (j + 1)) : P (i + 2) = Q (j + 2) := by
  have h1 : ¬ opn (P i) (P (i + 1)) (P (i + 2)) (dl (P (i + 1)) (Q (j + 2))) := by
    have := nP i (j + 1) e1
    rw [← e1] at this
    exact this
  have h2 : ¬ opn (P (i + 2)) (P (i + 1)) (P i) (dl (P (i + 1)) (Q (j + 2))) := fun c => by
    have k := opn_swap (sound_goes (S_sound hP) i) c
    have := nQ j (i + 1) e1.symm
    rw [← e0, ← e1] at this
    exact this k
  have nq : Q (j + 2) ≠ P (i + 1) := by rw [e1]; exact (next_ne hQ (j + 1)).symm
  rcases opn_tri (next_ne hP i) (next_ne hP (i + 1)) nq (sound_goes (S_sound hP) i) h1 h2 with (b1 | b1) | b1 | b1
  · exact (same_dir hQ hP cP (i := j + 1) (j := i + 1) e1.symm b1).symm
  · exact same_dir hP hQ cQ (i := i + 1) (j := j + 1) e1 (by rw [← e1]; exact b1)
  · exfalso; rw [e1, e0] at b1; exact (noback hQ j).1 (bet_rev b1)
  · exfalso; rw [e1, e0] at b1; exact (noback hQ j).2 b1
theorem steps {P Q : Nat → Pt} {n m : Nat} (hP : soundS P n) (hQ : soundS Q m) (cP : ∀ j, onN P n 1 (Q j) → ∃ i, P i = Q j) (cQ : ∀ i, onN Q m 1 (P i) → ∃ j, Q j = P i) (nP : ∀ i j, P (i + 1) = Q j → ¬ opn (P i) (P (i + 1)) (P (i + 2)) (dl (Q j) (Q (j + 1)))) (nQ : ∀ j i, Q (j + 1) = P i → ¬ opn (Q j) (Q (j + 1)) (Q (j + 2)) (dl (P i) (P (i + 1)))) {i j : Nat} (e0 : P i = Q j) (e1 : P (i + 1) = Q (j + 1)) : ∀ t, P (i + t) = Q (j + t) ∧ P (i + t + 1) = Q (j + t + 1) := by
  intro t
  induction t with
  | zero => exact ⟨e0, e1⟩
  | succ t ih => exact ⟨ih.2, step hP hQ cP cQ nP nQ ih.1 ih.2⟩
theorem com3 {a b c d : Pt} : comP a b c d = 3 ↔ (orP a b c = 0 ∧ orP a b d = 0) ∧ ltP (colF a b c d) (colL a b c d) = true := by
  unfold comP
  simp only [sg_eq0]
  by_cases h : orP a b c = 0 ∧ orP a b d = 0
  · rw [if_pos h, colP_lt]
    constructor
    · intro k
      refine ⟨h, ?_⟩
      split at k
      · assumption
      · split at k <;> exact absurd k (by decide)
    · intro k; rw [if_pos k.2]
  · rw [if_neg h]
    constructor
    · intro k
      split at k
      · exact absurd k (by decide)
      · split at k <;> exact absurd k (by decide)
    · intro k; exact absurd k.1 h
theorem bet_lt {a b x : Pt} (h : bet a b x) (l : ltP a b = true) : ltP x a = false ∧ ltP b x = false := by
  have k := (bt_box h.1).mpr h.2
  rw [btP_iff] at k
  rcases k with k | ⟨k1, k2⟩
  · exact k
  · exfalso
    rw [ltP_f] at k1 k2
    rw [ltP_t] at l
    omega
theorem edge_at {v w : Nat → Pt} {n m : Nat} (hv : soundS v n) (h : Ref v n w m) {a k : Nat} (hk : k < n) (hb : bet (v k) (v (k + 1)) (w a)) (hne : w a ≠ v (k + 1)) : sub (v k) (v (k + 1)) (w a) (w (a + 1)) := by
  obtain ⟨i, hi, s⟩ := h.2.2.1 a
  by_cases q : i = k
  · subst q; exact s
  exfalso
  rcases soundS_all hv hi hk q 1 (w a) (by decide) (by rw [sc_one, sc_one]; exact s.1) (by rw [sc_one, sc_one]; exact hb) with ⟨e0, e⟩ | ⟨e0, e⟩
  · rw [sc_one] at e
    apply hne
    rw [e]
    exact sound_eq (S_sound hv) (by rw [← e0, Nat.mod_mod])
  · rw [sc_one] at e
    have : v k = v (i + 1) := sound_eq (S_sound hv) (by rw [← e0, Nat.mod_mod])
    rw [e, this] at s
    exact sub_end2 (soundS_next hv hi) s
theorem or_cr2 (a b c : Pt) : orP a b c = cr (dl a b) (dl a c) := by unfold orP cr dl; grind
theorem lt_ne {a b : Pt} (h : ltP a b = true) : a ≠ b := by
  intro c; subst c
  rw [ltP_t] at h
  omega
/-- the stretch of edge 0 gives a common edge -/
theorem like_start {p q P Q : Nat → Pt} {n m n' m' : Nat} (hp : soundS p n) (hq : soundS q m) (rP : Ref p n P n') (rQ : Ref q m Q m') (cP : ∀ j, onN p n 1 (Q j) → ∃ i, P i = Q j) (cQ : ∀ i, onN q m 1 (P i) → ∃ j, Q j = P i) (l0 : ltP (p 0) (p 1) = true) {j : Nat} (hj : j < m) (l1 : ltP (q j) (q (j + 1)) = true) (hc : comP (p 0) (p 1) (q j) (q (j + 1)) = 3) : ∃ a b, P a = Q b ∧ P (a + 1) = Q (b + 1) := by
  have h3 := hp.1
  obtain ⟨⟨o1, o2⟩, lt⟩ := com3.mp hc
  have np := lt_ne l0
  have nq := lt_ne l1
  have hcol : colP (p 0) (p 1) (q j) (q (j + 1)) ≠ 0 := by
    rw [colP_lt, if_pos lt]; decide
  obtain ⟨⟨f1, f2⟩, g1, g2⟩ := col_ends np nq o1 o2 hcol
  have hF : colF (p 0) (p 1) (q j) (q (j + 1)) = p 0 ∨ colF (p 0) (p 1) (q j) (q (j + 1)) = q j := by
    rw [colF_lt, mnP_lt, mnP_lt, if_pos l0, if_pos l1]
    split
    · exact Or.inr rfl
    · exact Or.inl rfl
  generalize colF (p 0) (p 1) (q j) (q (j + 1)) = F at *
  generalize colL (p 0) (p 1) (q j) (q (j + 1)) = L at *
  have F1 : F ≠ p 1 := fun c => by
    have := (bet_lt g1 l0).2
    rw [← c, lt] at this
    exact absurd this (by decide)
  have F2 : F ≠ q (j + 1) := fun c => by
    have := (bet_lt g2 l1).2
    rw [← c, lt] at this
    exact absurd this (by decide)
  have onp : onN p n 1 F := ⟨0, by omega, by rw [sc_one, sc_one]; exact f1⟩
  have onq : onN q m 1 F := ⟨j, hj, by rw [sc_one, sc_one]; exact f2⟩
  have ab : ∃ a b, P a = F ∧ Q b = F := by
    rcases hF with e | e
    · obtain ⟨a, ea⟩ := rP.2.2.2.2 0
      obtain ⟨b, eb⟩ := cQ a (by rw [ea, ← e]; exact onq)
      exact ⟨a, b, by rw [ea, e], by rw [eb, ea, e]⟩
    · obtain ⟨b, eb⟩ := rQ.2.2.2.2 j
      obtain ⟨a, ea⟩ := cP b (by rw [eb, ← e]; exact onp)
      exact ⟨a, b, by rw [ea, eb, e], by rw [eb, e]⟩
  obtain ⟨a, b, ea, eb⟩ := ab
  have sP := edge_at hp rP (a := a) (k := 0) (by omega) (by rw [ea]; exact f1) (by rw [ea]; exact F1)
  have sQ := edge_at hq rQ (a := b) (k := j) hj (by rw [eb]; exact f2) (by rw [eb]; exact F2)
  refine ⟨a, b, by rw [ea, eb], ?_⟩
  have z : orP (P a) (P (a + 1)) (Q (b + 1)) = 0 := by
    rw [or_cr2, show dl (P a) (Q (b + 1)) = dl (Q b) (Q (b + 1)) by rw [ea, eb]]
    have k1 := sub_cr sP (dl (Q b) (Q (b + 1)))
    have k2 := sub_cr' sQ (dl (p 0) (p (0 + 1)))
    have : cr (dl (p 0) (p (0 + 1))) (dl (q j) (q (j + 1))) = 0 := by
      have := or_dl (p 0) (p 1) (q j) (q (j + 1))
      rw [o1, o2] at this
      show cr (dl (p 0) (p 1)) (dl (q j) (q (j + 1))) = 0
      omega
    omega
  have lP : ltP (P a) (P (a + 1)) = true := by rw [sub_lt sP]; exact l0
  have lQ : ltP (P a) (Q (b + 1)) = true := by
    have := sub_lt sQ
    rw [eb, ← ea] at this
    rw [this]; exact l1
  rcases tri_line (lt_ne lP) z with k | k | k
  · refine (same_dir rQ.1 rP.1 (fun i ho => cP i (sub_on rP (by decide) ho)) (i := b) (j := a) (by rw [ea, eb]) k).symm
  · refine same_dir rP.1 rQ.1 (fun i ho => cQ i (sub_on rQ (by decide) ho)) (i := a) (j := b) (by rw [ea, eb]) ?_
    rw [eb, ← ea]; exact k
  · exfalso
    have k := (bt_box k.1).mpr k.2
    rw [btP_iff] at k
    rcases k with k | k
    · rw [lP] at k; exact absurd k.1 (by decide)
    · rw [lQ] at k; exact absurd k.2 (by decide)
/-- if edge 0 of p shares a stretch with an edge of q that goes its way, p lies all along q -/
theorem like_all {p q : Nat → Pt} {n m : Nat} (hp : soundS p n) (lp : lefty p) (hq : soundS q m) (lq : lefty q) (h1 : noR p n q m) (h2 : noR q m p n) (l0 : ltP (p 0) (p 1) = true) {j : Nat} (hj : j < m) (l1 : ltP (q j) (q (j + 1)) = true) (hc : comP (p 0) (p 1) (q j) (q (j + 1)) = 3) : ∀ N y, 0 < N → onN p n N y → onN q m N y := by
  obtain ⟨P, n', Q, m', rP, rQ, cP, cQ⟩ := pair_ref hp lp hq lq
  obtain ⟨a, b, e0, e1⟩ := like_start hp hq rP rQ cP cQ l0 hj l1 hc
  have st := steps rP.1 rQ.1 (fun i ho => cP i (sub_on rP (by decide) ho)) (fun i ho => cQ i (sub_on rQ (by decide) ho)) (noR_ref hp hq rP rQ h1) (noR_ref hq hp rQ rP h2) e0 e1
  intro N y hN ho
  obtain ⟨k, hk, hb⟩ := rP.2.2.2.1 N y hN ho
  have h3 := rP.1.1
  have e : ∀ x, P (x + a * n') = P x := fun x => sound_eq (S_sound rP.1) (Nat.add_mul_mod_self_right _ _ _)
  have le : a ≤ a * n' := Nat.le_mul_of_pos_right a (by omega)
  obtain ⟨s1, s2⟩ := st (k + a * n' - a)
  rw [show a + (k + a * n' - a) = k + a * n' by omega] at s1 s2
  rw [e k] at s1
  rw [show k + a * n' + 1 = k + 1 + a * n' by omega, e (k + 1)] at s2
  rw [s1, s2] at hb
  obtain ⟨i, hi, f1, f2⟩ := per_edge rQ.1 (b + (k + a * n' - a))
  rw [f1, f2] at hb
  exact sub_on rQ hN ⟨i, hi, hb⟩
