theorem goes_rev {a b w : Pt} (h : goes a b w) : goes w b a := by
  rcases h with h | h | h
  · left
    have : orP w b a = -orP a b w := by unfold orP; grind
    omega
  · right; left
    rw [show (b.1 - w.1) * (a.1 - b.1) = (b.1 - a.1) * (w.1 - b.1) by grind]; exact h
  · right; right
    rw [show (b.2 - w.2) * (a.2 - b.2) = (b.2 - a.2) * (w.2 - b.2) by grind]; exact h
/-- the same to the right of an edge -/
theorem alongR {N M D : Int} {u a b w d d' : Pt} (hB : big N M D) (hu : bdd M u) (ha : bdd M a) (hb : bdd M b) (hw : bdd M w) (hd : bdd D d) (hd' : bdd D d') (g1 : goes u a b) (g2 : goes a b w) (l1 : cr (dl u a) d < 0) (l2 : cr (dl a b) d < 0) (l3 : cr (dl a b) d' < 0) (l4 : cr (dl b w) d' < 0) :
    clr (scP N u) (scP N a) (pe N a d) (pe N b d') ∧ clr (scP N a) (scP N b) (pe N a d) (pe N b d') ∧ clr (scP N b) (scP N w) (pe N a d) (pe N b d') := by
  have h := along (u := w) (a := b) (b := a) (w := u) (d := d') (d' := d) hB hw hb ha hu hd' hd (goes_rev g2) (goes_rev g1) (by rw [cr_rev]; omega) (by rw [cr_rev]; omega) (by rw [cr_rev]; omega) (by rw [cr_rev]; omega)
  exact ⟨clr_rev (clr_flip h.2.2), clr_rev (clr_flip h.2.1), clr_rev (clr_flip h.1)⟩
theorem or_pp_lin {N M D : Int} {c c' d d' a : Pt} (hB : big N M D) (hd : bdd D d) (hd' : bdd D d') (h : orP c c' a = 0) :
    (0 < cr (dl a c) d' - cr (dl a c') d → 0 < orP (pe N c d) (pe N c' d') (scP N a)) ∧ (cr (dl a c) d' - cr (dl a c') d < 0 → orP (pe N c d) (pe N c' d') (scP N a) < 0) := by
  obtain ⟨p1, p2, p3⟩ := big_pos hB
  have c3 := cr_le hd hd'
  have hB3 := hB.2.2
  have hD := hB.2.1
  rw [or_pp, h, Int.mul_zero, Int.zero_add]
  generalize cr (dl a c) d' - cr (dl a c') d = y
  constructor
  · intro hy
    have := Int.mul_le_mul_of_nonneg_left (show 1 ≤ y by omega) (Int.le_of_lt p1)
    omega
  · intro hy
    have := Int.mul_le_mul_of_nonneg_left (show y ≤ -1 by omega) (Int.le_of_lt p1)
    omega
/-- straight on, the whole way from u to b -/
theorem straight_sum {u a b d : Pt} : cr (dl u b) d = cr (dl u a) d + cr (dl a b) d := by unfold cr dl; grind
/-- A STEP FROM THE LEFT OF AN EDGE'S START TO THE RIGHT OF ITS END crosses it, and nothing of its neighbours -/
theorem across {N M D : Int} {u a b w d d' : Pt} (hB : big N M D) (hu : bdd M u) (ha : bdd M a) (hb : bdd M b) (hw : bdd M w) (hd : bdd D d) (hd' : bdd D d') (g1 : goes u a b) (g2 : goes a b w) (l1 : 0 < cr (dl u a) d) (l2 : 0 < cr (dl a b) d) (l3 : cr (dl a b) d' < 0) (l4 : cr (dl b w) d' < 0) :
    clr (scP N u) (scP N a) (pe N a d) (pe N b d') ∧ clr (scP N b) (scP N w) (pe N a d) (pe N b d') ∧ 0 < orP (scP N a) (scP N b) (pe N a d) ∧ orP (scP N a) (scP N b) (pe N b d') < 0 ∧ orP (pe N a d) (pe N b d') (scP N a) * orP (pe N a d) (pe N b d') (scP N b) < 0 := by
  have na : orP (pe N a d) (pe N b d') (scP N a) < 0 := by
    refine (or_pp_lin hB hd hd' (or_self1 a b)).2 ?_
    rw [cr_self]; omega
  have pb : 0 < orP (pe N a d) (pe N b d') (scP N b) := by
    refine (or_pp_lin hB hd hd' (or_self2 a b)).1 ?_
    rw [cr_self, cr_rev]; omega
  refine ⟨?_, ?_, or_pe_pos hB ha hb hd (Or.inr ⟨or_self1 a b, l2⟩), or_pe_neg hB ha hb hd' (Or.inr ⟨or_self2 a b, l3⟩), np na pb⟩
  · have q1 : 0 < orP (scP N u) (scP N a) (pe N a d) := or_pe_pos hB hu ha hd (Or.inr ⟨or_self2 u a, l1⟩)
    rcases Int.lt_trichotomy (orP u a b) 0 with h | h | h
    · exact Or.inr (Or.inr (nn (or_pp_neg hB hu ha hb hd hd' (by rw [← or_cyc]; exact h)) na))
    · refine Or.inr (Or.inr (nn ?_ na))
      refine (or_pp_lin hB hd hd' (by rw [← or_cyc]; exact h)).2 ?_
      have s1 := straight_left (d := (-d'.1, -d'.2)) h g1
      have e1 : ∀ x y : Pt, cr (dl x y) (-d'.1, -d'.2) = -cr (dl x y) d' := by intro x y; unfold cr; grind
      rw [e1, e1] at s1
      have s2 := s1.mpr (by omega)
      have s3 := straight_sum (u := u) (a := a) (b := b) (d := d)
      omega
    · exact Or.inr (Or.inl (pp q1 (or_pe_pos hB hu ha hd' (Or.inl h))))
  · have q1 : orP (scP N b) (scP N w) (pe N b d') < 0 := or_pe_neg hB hb hw hd' (Or.inr ⟨or_self1 b w, l4⟩)
    rcases Int.lt_trichotomy (orP a b w) 0 with h | h | h
    · exact Or.inr (Or.inl (nn (or_pe_neg hB hb hw hd (Or.inl (by rw [← or_cyc]; exact h))) q1))
    · refine Or.inr (Or.inr (pp pb ?_))
      refine (or_pp_lin hB hd hd' h).1 ?_
      have s1 := (straight_left (d := d) h g2).mp l2
      have s3 := straight_sum (u := a) (a := b) (b := w) (d := d')
      rw [cr_rev a w, cr_rev b w]
      omega
    · exact Or.inr (Or.inr (pp pb (or_pp_pos hB hw ha hb hd hd' h)))
theorem sound_eq {v : Nat → Pt} {n : Nat} (h : sound v n) {x y : Nat} (e : x % n = y % n) : v x = v y := by rw [sound_per h x, sound_per h y, e]
/-- all edges of a sound ring, sorted by an edge (v (i+1), v (i+2)) -/
theorem sound_cases {v : Nat → Pt} {n : Nat} (h : sound v n) (i k : Nat) (hk : k < n) : (v k = v i ∧ v (k + 1) = v (i + 1)) ∨ (k = (i + 1) % n ∧ v k = v (i + 1) ∧ v (k + 1) = v (i + 2)) ∨ (v k = v (i + 2) ∧ v (k + 1) = v (i + 3)) ∨ comP (v k) (v (k + 1)) (v (i + 1)) (v (i + 2)) = 0 := by
  have n3 := h.1
  have hj := Nat.mod_lt (i + 1) (show 0 < n by omega)
  have ad : ∀ x c : Nat, (x % n + c) % n = (x + c) % n := by intro x c; rw [Nat.add_mod, Nat.mod_mod, ← Nat.add_mod]
  by_cases q1 : k = (i + 1) % n
  · right; left
    refine ⟨q1, sound_eq h (by rw [q1, Nat.mod_mod]), sound_eq h ?_⟩
    rw [q1, ad]
  · by_cases q2 : k = ((i + 1) % n + 1) % n
    · right; right; left
      rw [ad] at q2
      refine ⟨sound_eq h (by rw [q2, Nat.mod_mod]), sound_eq h ?_⟩
      rw [q2, ad]
    · by_cases q3 : (i + 1) % n = (k + 1) % n
      · left
        have e : (k + 1) % n = (i + 1) % n := q3.symm
        refine ⟨sound_eq h ?_, sound_eq h e⟩
        have e2 : (k + 1 + (n - 1)) % n = (i + 1 + (n - 1)) % n := by rw [Nat.add_mod, e, ← Nat.add_mod]
        rw [show k + 1 + (n - 1) = k + n by omega, show i + 1 + (n - 1) = i + n by omega, Nat.add_mod_right, Nat.add_mod_right] at e2
        exact e2
      · right; right; right
        have c := sound_apart h hj hk q1 q2 q3
        rwa [sound_eq h (show (i + 1) % n % n = (i + 1) % n from Nat.mod_mod _ _), sound_eq h (show ((i + 1) % n + 1) % n = (i + 2) % n from ad _ _)] at c
section RING
variable {v : Nat → Pt} {n : Nat} {N M D : Int}
theorem sc_next (h : sound v n) (hN : 0 < N) (i : Nat) : scP N (v i) ≠ scP N (v (i + 1)) := sc_ne hN (sound_next h i)
/-- along the left of an edge the winding stays -/
theorem ring_left (h : sound v n) (hB : big N M D) (hM : ∀ i, bdd M (v i)) {i : Nat} {d d' : Pt} (hd : bdd D d) (hd' : bdd D d') (l1 : 0 < cr (dl (v i) (v (i + 1))) d) (l2 : 0 < cr (dl (v (i + 1)) (v (i + 2))) d) (l3 : 0 < cr (dl (v (i + 1)) (v (i + 2))) d') (l4 : 0 < cr (dl (v (i + 2)) (v (i + 3))) d') :
    wnd (fun k => scP N (v k)) n (pe N (v (i + 1)) d) = wnd (fun k => scP N (v k)) n (pe N (v (i + 2)) d') := by
  have p1 := (big_pos hB).1
  have al := along hB (hM i) (hM (i + 1)) (hM (i + 2)) (hM (i + 3)) hd hd' (sound_goes h i) (sound_goes h (i + 1)) l1 l2 l3 l4
  refine wnd_move (fun k _ => sc_next h p1 k) (by show scP N (v n) = scP N (v 0); have := h.2.1 0; rw [Nat.zero_add] at this; rw [this]) (fun k hk => ?_)
  show clr (scP N (v k)) (scP N (v (k + 1))) _ _
  rcases sound_cases h i k hk with ⟨e1, e2⟩ | ⟨-, e1, e2⟩ | ⟨e1, e2⟩ | c
  · rw [e1, e2]; exact al.1
  · rw [e1, e2]; exact al.2.1
  · rw [e1, e2]; exact al.2.2
  · exact clr_near hB (hM k) (hM (k + 1)) (hM (i + 1)) (hM (i + 2)) hd hd' (sound_next h k) (sound_next h (i + 1)) c
theorem ring_right (h : sound v n) (hB : big N M D) (hM : ∀ i, bdd M (v i)) {i : Nat} {d d' : Pt} (hd : bdd D d) (hd' : bdd D d') (l1 : cr (dl (v i) (v (i + 1))) d < 0) (l2 : cr (dl (v (i + 1)) (v (i + 2))) d < 0) (l3 : cr (dl (v (i + 1)) (v (i + 2))) d' < 0) (l4 : cr (dl (v (i + 2)) (v (i + 3))) d' < 0) :
    wnd (fun k => scP N (v k)) n (pe N (v (i + 1)) d) = wnd (fun k => scP N (v k)) n (pe N (v (i + 2)) d') := by
  have p1 := (big_pos hB).1
  have al := alongR hB (hM i) (hM (i + 1)) (hM (i + 2)) (hM (i + 3)) hd hd' (sound_goes h i) (sound_goes h (i + 1)) l1 l2 l3 l4
  refine wnd_move (fun k _ => sc_next h p1 k) (by show scP N (v n) = scP N (v 0); have := h.2.1 0; rw [Nat.zero_add] at this; rw [this]) (fun k hk => ?_)
  show clr (scP N (v k)) (scP N (v (k + 1))) _ _
  rcases sound_cases h i k hk with ⟨e1, e2⟩ | ⟨-, e1, e2⟩ | ⟨e1, e2⟩ | c
  · rw [e1, e2]; exact al.1
  · rw [e1, e2]; exact al.2.1
  · rw [e1, e2]; exact al.2.2
  · exact clr_near hB (hM k) (hM (k + 1)) (hM (i + 1)) (hM (i + 2)) hd hd' (sound_next h k) (sound_next h (i + 1)) c
/-- from the left of an edge to its right the winding falls by one -/
theorem ring_across (h : sound v n) (hB : big N M D) (hM : ∀ i, bdd M (v i)) {i : Nat} {d d' : Pt} (hd : bdd D d) (hd' : bdd D d') (l1 : 0 < cr (dl (v i) (v (i + 1))) d) (l2 : 0 < cr (dl (v (i + 1)) (v (i + 2))) d) (l3 : cr (dl (v (i + 1)) (v (i + 2))) d' < 0) (l4 : cr (dl (v (i + 2)) (v (i + 3))) d' < 0) :
    wnd (fun k => scP N (v k)) n (pe N (v (i + 1)) d) = wnd (fun k => scP N (v k)) n (pe N (v (i + 2)) d') + 1 := by
  have n3 := h.1
  have p1 := (big_pos hB).1
  have ac := across hB (hM i) (hM (i + 1)) (hM (i + 2)) (hM (i + 3)) hd hd' (sound_goes h i) (sound_goes h (i + 1)) l1 l2 l3 l4
  have hj := Nat.mod_lt (i + 1) (show 0 < n by omega)
  have f1 : v ((i + 1) % n) = v (i + 1) := sound_eq h (Nat.mod_mod _ _)
  have f2 : v ((i + 1) % n + 1) = v (i + 2) := sound_eq h (by rw [Nat.add_mod, Nat.mod_mod, ← Nat.add_mod])
  refine wnd_cross (k := (i + 1) % n) hj (fun k _ => sc_next h p1 k) (by show scP N (v n) = scP N (v 0); have := h.2.1 0; rw [Nat.zero_add] at this; rw [this]) (fun k hk hne => ?_) ?_ ?_ ?_
  · show clr (scP N (v k)) (scP N (v (k + 1))) _ _
    rcases sound_cases h i k hk with ⟨e1, e2⟩ | ⟨e0, -⟩ | ⟨e1, e2⟩ | c
    · rw [e1, e2]; exact ac.1
    · exact absurd e0 hne
    · rw [e1, e2]; exact ac.2.1
    · exact clr_near hB (hM k) (hM (k + 1)) (hM (i + 1)) (hM (i + 2)) hd hd' (sound_next h k) (sound_next h (i + 1)) c
  · show 0 < orP (scP N (v ((i + 1) % n))) (scP N (v ((i + 1) % n + 1))) _
    rw [f1, f2]; exact ac.2.2.1
  · show orP (scP N (v ((i + 1) % n))) (scP N (v ((i + 1) % n + 1))) _ < 0
    rw [f1, f2]; exact ac.2.2.2.1
  · show orP _ _ (scP N (v ((i + 1) % n))) * orP _ _ (scP N (v ((i + 1) % n + 1))) < 0
    rw [f1, f2]; exact ac.2.2.2.2
end RING
