/-! ===== the class's answers and the reference's are one ===== -/
theorem two0 : (0 : Int) < 2 := by decide
theorem opn_sc2 (a b c x y : Pt) : opn (scP 2 a) (scP 2 b) (scP 2 c) (dl (scP 2 x) (scP 2 y)) ↔ opn a b c (dl x y) := by
  have e : ∀ a b x y : Pt, cr (dl (scP 2 a) (scP 2 b)) (dl (scP 2 x) (scP 2 y)) = 4 * cr (dl a b) (dl x y) := fun a b x y => by unfold cr dl scP; grind
  unfold opn
  rw [or_scc, e, e]
  have k1 : (0 < 2 * 2 * orP a b c) ↔ 0 < orP a b c := by omega
  have k2 : (0 < 4 * cr (dl a b) (dl x y)) ↔ 0 < cr (dl a b) (dl x y) := by omega
  have k3 : (0 < 4 * cr (dl b c) (dl x y)) ↔ 0 < cr (dl b c) (dl x y) := by omega
  simp only [k1, k2, k3]
theorem sc2_inj {a b : Pt} : scP 2 a = scP 2 b ↔ a = b := ⟨sc_inj two0, fun e => by rw [e]⟩
theorem startsIn_sc2 (v : Nat → Pt) (n : Nat) (U W : Pt) : startsIn (fun k => scP 2 (v k)) n (scP 2 U) (scP 2 W) ↔ startsIn v n U W := by
  unfold startsIn
  have k : ∀ a b, (0 < orP (scP 2 a) (scP 2 b) (scP 2 W)) ↔ 0 < orP a b W := fun a b => by rw [or_scc]; omega
  simp only [off_sc two0, wnd_sc two0, sc2_inj, opn_sc2, bet_sc two0, k, ne_eq]
theorem goesP_sc2 (v : Nat → Pt) (n : Nat) (U W : Pt) : goesP (fun k => scP 2 (v k)) n (scP 2 U) (scP 2 W) ↔ goesP v n U W := by
  unfold goesP
  simp only [startsIn_sc2, comP_sc two0, sc2_inj, bet_sc two0, opn_sc2, ne_eq]
theorem alongP_sc2 (v : Nat → Pt) (n : Nat) (U W : Pt) : alongP (fun k => scP 2 (v k)) n (scP 2 U) (scP 2 W) ↔ alongP v n U W := by
  constructor
  · intro h N y hN b
    have := h N (scP 2 y) hN (by rw [sc_sc, sc_sc, Int.mul_comm, ← sc_sc, ← sc_sc]; exact (bet_sc two0).mpr b)
    obtain ⟨k, hk, b2⟩ := this
    refine ⟨k, hk, ?_⟩
    have b2 : bet (scP N (scP 2 (v k))) (scP N (scP 2 (v (k + 1)))) (scP 2 y) := b2
    rw [sc_sc, sc_sc, Int.mul_comm, ← sc_sc, ← sc_sc] at b2
    exact (bet_sc two0).mp b2
  · intro h N y hN b
    rw [sc_sc, sc_sc] at b
    obtain ⟨k, hk, b2⟩ := h (N * 2) y (by omega) b
    exact ⟨k, hk, by show bet (scP N (scP 2 (v k))) (scP N (scP 2 (v (k + 1)))) y; rw [sc_sc, sc_sc]; exact b2⟩
/-- corners of the ring by number and by point -/
theorem num_pt {nc : Nat} {P : Nat → Pt} (hi : ∀ x y, x < nc → y < nc → P x = P y → x = y) {x y : Nat} (hx : x < nc) (hy : y < nc) : x = y ↔ P x = P y := ⟨fun e => by rw [e], hi x y hx hy⟩
theorem fst_off {v : Nat → Pt} {n : Nat} {T : Pt} : fst1 (onE v T) n = fst1 (onR v T) n := fst1_congr (fun k _ => by unfold onE onR; rw [onQ_onP])
theorem onR_bet {v : Nat → Pt} {T : Pt} {k : Nat} : onR v T k ↔ bet (v k) (v (k + 1)) T := bet_on
theorem stt_iff {nc : Nat} {P : Nat → Pt} {n : Nat} {c : Nat → Nat} (g : good nc P n c) (hi : ∀ x y, x < nc → y < nc → P x = P y → x = y) {a : Nat} {B : Pt} (ha : a < nc) : sttP (vr P c n) n c (plc (vr P c n) n (P a)) a B ↔ startsIn (vr P c n) n (P a) B := by
  obtain ⟨h3, h12, hc, hcd, hs, hl, hm⟩ := g
  have ck : ∀ k, k < n → (a = c k ↔ P a = vr P c n k) := fun k hk => by
    rw [num_pt hi ha (hc k hk)]; unfold vr; rw [Nat.mod_eq_of_lt hk]
  rcases fst1_cases (onR (vr P c n) (P a)) n with ⟨k, hk, r, mn, e⟩ | ⟨no, e⟩
  · have ep : plc (vr P c n) n (P a) = nI k := plc_some (by rw [fst_off]; exact e)
    rw [ep, stt_k hk (by omega)]
    have b := onR_bet.mp r
    have ck1 : a = c ((k + 1) % n) ↔ P a = vr P c n (k + 1) := by
      rw [ck _ (Nat.mod_lt _ (by omega)), ← vr_mod]
    have c0 : ∀ T, opnT (vr P c n (k + n - 1)) (vr P c n k) (vr P c n (k + 1)) T ↔ startsIn (vr P c n) n (vr P c n k) T := fun T => by
      have s := starts_corner hs (k + n - 1) T
      rw [show k + n - 1 + 1 = k + n by omega, show k + n - 1 + 2 = k + 1 + n by omega, hs.2.1, hs.2.1] at s
      rw [s, opnT_iff]
    have c1 : ∀ T, opnT (vr P c n (k + n)) (vr P c n (k + 1)) (vr P c n (k + 2)) T ↔ startsIn (vr P c n) n (vr P c n (k + 1)) T := fun T => by
      rw [starts_corner hs k T, opnT_iff, hs.2.1]
    rw [ck k hk, ck1, ne_eq, ck k hk, ne_eq, ck1]
    by_cases q : P a = vr P c n k
    · rw [q]
      constructor
      · rintro (⟨-, z⟩ | ⟨z, -⟩ | ⟨z, -⟩)
        · exact (c0 B).mp z
        · exact absurd rfl z
        · exact absurd rfl z
      · intro z; exact Or.inl ⟨rfl, (c0 B).mpr z⟩
    · by_cases q1 : P a = vr P c n (k + 1)
      · constructor
        · rintro (⟨z, -⟩ | ⟨-, -, z⟩ | ⟨-, z, -⟩)
          · exact absurd z q
          · rw [q1]; exact (c1 B).mp z
          · exact absurd q1 z
        · intro z
          rw [q1] at z
          exact Or.inr (Or.inl ⟨q, q1, (c1 B).mpr z⟩)
      · constructor
        · rintro (⟨z, -⟩ | ⟨-, z, -⟩ | ⟨-, -, z⟩)
          · exact absurd z q
          · exact absurd z q1
          · exact Or.inr (Or.inr ⟨k, hk, b, q, q1, z⟩)
        · rintro (⟨o, -⟩ | ⟨i, z, -⟩ | ⟨k', hk', b', n1, n2, z⟩)
          · exact absurd b (o k hk)
          · exfalso
            rw [z] at b q q1
            rcases corner_in hs b with w | w
            · exact q w
            · exact q1 w
          · have : k' = k := by
              refine Classical.byContradiction fun w => ?_
              rcases soundS_all hs hk' hk w 1 (P a) (by decide) (by rw [sc_one, sc_one]; exact b') (by rw [sc_one, sc_one]; exact b) with ⟨-, e⟩ | ⟨-, e⟩
              · rw [sc_one] at e; exact n1 e
              · rw [sc_one] at e; exact q e
            subst this
            exact Or.inr (Or.inr ⟨q, q1, z⟩)
  · have off1 : off (vr P c n) n (P a) := fun k hk b => no k hk (onR_bet.mpr b)
    have w01 := wnd01 hs hl off1
    have ep : plc (vr P c n) n (P a) = if wnd (vr P c n) n (P a) % 2 = 1 then -2 else -3 := plc_none (by rw [fst_off]; exact e)
    have si : startsIn (vr P c n) n (P a) B ↔ wnd (vr P c n) n (P a) = 1 := by
      constructor
      · rintro (⟨-, z⟩ | ⟨i, z, -⟩ | ⟨k, hk, b, -⟩)
        · exact z
        · obtain ⟨k, hk, b⟩ := corner_on hs (i + 1)
          rw [← z] at b
          exact absurd b (off1 k hk)
        · exact absurd b (off1 k hk)
      · intro z; exact Or.inl ⟨off1, z⟩
    rw [si, ep]
    by_cases q : wnd (vr P c n) n (P a) % 2 = 1
    · rw [if_pos q]
      exact ⟨fun _ => by omega, fun _ => Or.inl rfl⟩
    · rw [if_neg q]
      exact ⟨fun z => absurd z (stt_m3 (by omega)), fun z => by omega⟩
theorem gt_iff {nc : Nat} {P : Nat → Pt} {n : Nat} {c : Nat → Nat} (g : good nc P n c) (hi : ∀ x y, x < nc → y < nc → P x = P y → x = y) {a b : Nat} (ha : a < nc) (hb : b < nc) (hab : a ≠ b) : gtP (vr P c n) n c a b (P a) (P b) ↔ goesP (vr P c n) n (P a) (P b) := by
  obtain ⟨h3, h12, hc, hcd, hs, hl, hm⟩ := id g
  have nab : P a ≠ P b := fun e => hab (hi _ _ ha hb e)
  unfold gtP goesP
  rw [stt_iff g hi ha]
  have ck : ∀ k, (c (k % n) ≠ a ↔ vr P c n k ≠ P a) ∧ (c (k % n) ≠ b ↔ vr P c n k ≠ P b) := fun k => by
    have l := hc _ (Nat.mod_lt k (show 0 < n by omega))
    exact ⟨not_congr (num_pt hi l ha), not_congr (num_pt hi l hb)⟩
  have op : ∀ k T, opnT (vr P c n (k + n - 1)) (vr P c n k) (vr P c n (k + 1)) T ↔ opn (vr P c n (k + n - 1)) (vr P c n (k + n - 1 + 1)) (vr P c n (k + n - 1 + 2)) (dl (vr P c n (k + n - 1 + 1)) T) := fun k T => by
    rw [opnT_iff, show k + n - 1 + 1 = k + n by omega, show k + n - 1 + 2 = k + 1 + n by omega, hs.2.1, hs.2.1]
  constructor
  · rintro (⟨k, hk, z | ⟨z1, z2, z3, z4⟩⟩ | z)
    · rw [met_com nab (next_ne hs k)] at z
      exact Or.inl ⟨k, hk, z⟩
    · refine Or.inr (Or.inr ⟨k + n - 1, ?_⟩)
      rw [onQ_onP] at z3
      have b := bet_on.mp z3
      rw [op] at z4
      have e : vr P c n (k + n - 1 + 1) = vr P c n k := by rw [show k + n - 1 + 1 = k + n by omega]; exact hs.2.1 k
      exact ⟨by rw [e]; exact (ck k).1.mp z1, by rw [e]; exact (ck k).2.mp z2, by rw [e]; exact b, z4⟩
    · exact Or.inr (Or.inl z)
  · rintro (⟨k, hk, z⟩ | z | ⟨i, z1, z2, z3, z4⟩)
    · exact Or.inl ⟨k, hk, Or.inl (by rw [met_com nab (next_ne hs k)]; exact z)⟩
    · exact Or.inr z
    · left
      have e : vr P c n (i + 1) = vr P c n ((i + 1) % n) := vr_mod P c n (i + 1)
      have lt := Nat.mod_lt (i + 1) (show 0 < n by omega)
      have per : ∀ x y, x % n = y % n → vr P c n x = vr P c n y := fun x y q => by unfold vr; rw [q]
      have m1 : ((i + 1) % n + n - 1) % n = i % n := by
        rw [show (i + 1) % n + n - 1 = (i + 1) % n + (n - 1) by omega, Nat.mod_add_mod, show i + 1 + (n - 1) = i + n by omega, Nat.add_mod_right]
      have m2 : ((i + 1) % n + 1) % n = (i + 2) % n := by rw [Nat.mod_add_mod]
      refine ⟨(i + 1) % n, lt, Or.inr ⟨?_, ?_, ?_, ?_⟩⟩
      · rw [(ck _).1, ← e]; exact z1
      · rw [(ck _).2, ← e]; exact z2
      · rw [onQ_onP, ← e]; exact bet_on.mpr z3
      · rw [per _ _ m1, ← e, per _ _ m2, opnT_iff]; exact z4
/-- lieOver, as the class tells it -/
theorem over_same {nc : Nat} {P : Nat → Pt} {n m : Nat} {c d : Nat → Nat} (g : good nc P n c) (k : good nc P m d) (hi : ∀ x y, x < nc → y < nc → P x = P y → x = y) :
    (frames (vr P c n) (vr P d m) ∧ ((∃ j, j < n ∧ gtP (vr P d m) m d (c (j % n)) (c ((j + 1) % n)) (vr P c n j) (vr P c n (j + 1))) ∨ (∃ j, j < m ∧ gtP (vr P c n) n c (d (j % m)) (d ((j + 1) % m)) (vr P d m j) (vr P d m (j + 1))) ∨ metP (vr P c n 0) (vr P c n 1) (vr P d m 0) (vr P d m 1) = 3)) ↔ ovP (vr (dbl P) c n) n (vr (dbl P) d m) m := by
  have h3 := g.1
  have k3 := k.1
  have e1 : ∀ j, gtP (vr P d m) m d (c (j % n)) (c ((j + 1) % n)) (vr P c n j) (vr P c n (j + 1)) ↔ goesP (vr P d m) m (vr P c n j) (vr P c n (j + 1)) := fun j => gt_iff k hi (g.2.2.1 _ (Nat.mod_lt _ (by omega))) (g.2.2.1 _ (Nat.mod_lt _ (by omega))) ((good_RGd g).adj j)
  have e2 : ∀ j, gtP (vr P c n) n c (d (j % m)) (d ((j + 1) % m)) (vr P d m j) (vr P d m (j + 1)) ↔ goesP (vr P c n) n (vr P d m j) (vr P d m (j + 1)) := fun j => gt_iff g hi (k.2.2.1 _ (Nat.mod_lt _ (by omega))) (k.2.2.1 _ (Nat.mod_lt _ (by omega))) ((good_RGd k).adj j)
  have e3 : metP (vr P c n 0) (vr P c n 1) (vr P d m 0) (vr P d m 1) = comP (vr P c n 0) (vr P c n 1) (vr P d m 0) (vr P d m 1) := met_com (next_ne g.2.2.2.2.1 0) (next_ne k.2.2.2.2.1 0)
  simp only [e1, e2, e3]
  rw [over_iff g.2.2.2.2.1 g.2.2.2.2.2.1 k.2.2.2.2.1 k.2.2.2.2.2.1 (good_lt g) (good_lt k) g.2.2.2.2.2.2 k.2.2.2.2.2.2]
  unfold ovP
  rw [vr_dbl, vr_dbl]
  simp only [goesP_sc2, alongP_sc2]
/-- borders -/
theorem border_same {nc : Nat} {P : Nat → Pt} {n m : Nat} {c d : Nat → Nat} (g : good nc P n c) (k : good nc P m d) : sumN (fun a => cnt (fun j => metP (vr P c n a) (vr P c n (a + 1)) (vr P d m j) (vr P d m (j + 1)) = 3) m) n = sumN (fun a => cnt (fun j => comP (vr (dbl P) c n a) (vr (dbl P) c n (a + 1)) (vr (dbl P) d m j) (vr (dbl P) d m (j + 1)) = 3) m) n := by
  refine sumN_congr n (fun a _ => cnt_congr m (fun j _ => ?_))
  rw [met_com (next_ne g.2.2.2.2.1 a) (next_ne k.2.2.2.2.1 j), vr_dbl, vr_dbl, comP_sc two0]
