/-! ===== hull: the class gathers and sorts ===== -/
def TK (S : xS) (n : Nat) (u : Nat → Nat) : Prop := S.1 41 3 = nI n ∧ (∀ i, i < n → S.2.1 42 i = nI (u i) ∧ u i < 200) ∧ (∀ c, c < 200 → S.2.1 43 c = tI (∃ i, i < n ∧ u i = c)) ∧ (∀ i j, i < n → j < n → u i = u j → i = j) ∧ n ≤ 200

theorem push_mem {n c : Nat} {u : Nat → Nat} (x : Nat) : (∃ i, i < n + 1 ∧ (fun i => if i = n then c else u i) i = x) ↔ ((∃ i, i < n ∧ u i = x) ∨ c = x) := by
  constructor
  · rintro ⟨i, hi, e⟩
    have e : (if i = n then c else u i) = x := e
    by_cases q : i = n
    · rw [if_pos q] at e; exact Or.inr e
    · rw [if_neg q] at e; exact Or.inl ⟨i, by omega, e⟩
  · rintro (⟨i, hi, e⟩ | e)
    · exact ⟨i, by omega, by show (if i = n then c else u i) = x; rw [if_neg (by omega)]; exact e⟩
    · exact ⟨n, by omega, by show (if n = n then c else u n) = x; rw [if_pos rfl]; exact e⟩
theorem take_tk {S : xS} {n c : Nat} {u : Nat → Nat} (tk : TK S n u) (hc : c < 200) (no : ¬ ∃ i, i < n ∧ u i = c) (n199 : n + 1 ≤ 200) : TK (setF (setI (setI S 43 (upd (S.2.1 43) c (nI 1))) 42 (upd ((setI S 43 (upd (S.2.1 43) c (nI 1))).2.1 42) n (nI c))) 41 (upd ((setI (setI S 43 (upd (S.2.1 43) c (nI 1))) 42 (upd ((setI S 43 (upd (S.2.1 43) c (nI 1))).2.1 42) n (nI c))).1 41) 3 (nI (n + 1)))) (n + 1) (fun i => if i = n then c else u i) := by
  obtain ⟨t1, t2, t3, t4, t5⟩ := tk
  refine ⟨by rw [setF_at, upd_at], fun i hi => ?_, fun x hx => ?_, fun a b ha hb e => ?_, n199⟩
  · show rw1 (rw1 S.2.1 43 (upd (S.2.1 43) c (nI 1))) 42 (upd (rw1 S.2.1 43 (upd (S.2.1 43) c (nI 1)) 42) n (nI c)) 42 i = nI (if i = n then c else u i) ∧ (if i = n then c else u i) < 200
    rw [rw1_same, rw1_ne (by decide)]
    by_cases q : i = n
    · rw [q, upd_at, if_pos rfl]; exact ⟨rfl, hc⟩
    · rw [upd_ne _ _ q, if_neg q]; exact t2 i (by omega)
  · show rw1 (rw1 S.2.1 43 (upd (S.2.1 43) c (nI 1))) 42 (upd (rw1 S.2.1 43 (upd (S.2.1 43) c (nI 1)) 42) n (nI c)) 43 x = tI _
    rw [rw1_ne (by decide), rw1_same, tI_iff (push_mem x)]
    by_cases q : x = c
    · rw [q, upd_at, tI_t (Or.inr rfl)]; rfl
    · rw [upd_ne _ _ q, t3 x hx]
      exact tI_iff ⟨Or.inl, fun z => z.elim id (fun e => absurd e.symm q)⟩
  · have e : (if a = n then c else u a) = (if b = n then c else u b) := e
    by_cases y : a = n <;> by_cases z : b = n
    · omega
    · rw [if_pos y, if_neg z] at e; exact absurd ⟨b, by omega, e.symm⟩ no
    · rw [if_neg y, if_pos z] at e; exact absurd ⟨a, by omega, e⟩ no
    · rw [if_neg y, if_neg z] at e; exact t4 a b (by omega) (by omega) e
theorem sp_X0_take (S : xS) {r m n : Nat} {c u : Nat → Nat} (h : crg S r m c) (hc : ∀ i, i < m → c i < 200) (ht : TK S n u) : Sp mX0_take [.ref 41, .ref (45 + 2 * r)] S (fun x S' => x = none ∧ Fx [41] [42, 43] [] [] S S' ∧ ∃ n1 u1, TK S' n1 u1 ∧ ∀ x, (∃ i, i < n1 ∧ u1 i = x) ↔ ((∃ i, i < n ∧ u i = x) ∨ ∃ i, i < m ∧ c i = x)) := by
  have hr65 := h.1
  have m24 := h.2.1
  have loop : ∀ μ j, j + μ = m → ∀ S1, (Fx [41] [42, 43] [] [] S S1 ∧ ∃ n1 u1, TK S1 n1 u1 ∧ ∀ x, (∃ i, i < n1 ∧ u1 i = x) ↔ ((∃ i, i < n ∧ u i = x) ∨ ∃ i, i < j ∧ c i = x)) → XP mX0_take 2 [(2, .int (nI j)), (0, .ref 41), (1, .ref (45 + 2 * r))] [] (xwS S1) (sQ (fun x S' => x = none ∧ Fx [41] [42, 43] [] [] S S' ∧ ∃ n1 u1, TK S' n1 u1 ∧ ∀ x, (∃ i, i < n1 ∧ u1 i = x) ↔ ((∃ i, i < n ∧ u i = x) ∨ ∃ i, i < m ∧ c i = x))) := by
    intro μ
    induction μ with
    | zero =>
      intro j hk S1 h1
      obtain ⟨hx, n1, u1, tk, mem⟩ := h1
      have g := h.fx hx (by simp; omega) (by simp; omega)
      refine x_iload_n eX0_take_2 rfl ?_
      refine x_aload_n eX0_take_3 rfl ?_
      refine s_geti eX0_take_4 fX0_52 (kd_ring hr65) (show _ < 365 by omega) (by decide) ?_
      rw [g.2.2.1]
      refine x_icmp_geN eX0_take_7 (by omega) (by omega) (fun c_7 => ?_) (fun c_7 => ?_)
      · exact s_vret eX0_take_70 rfl ⟨rfl, hx, n1, u1, tk, fun x => by rw [mem x, show j = m by omega]⟩
      · omega
    | succ μ ih =>
      intro j hk S1 h1
      obtain ⟨hx, n1, u1, tk, mem⟩ := h1
      have g := h.fx hx (by simp; omega) (by simp; omega)
      refine x_iload_n eX0_take_2 rfl ?_
      refine x_aload_n eX0_take_3 rfl ?_
      refine s_geti eX0_take_4 fX0_52 (kd_ring hr65) (show _ < 365 by omega) (by decide) ?_
      rw [g.2.2.1]
      refine x_icmp_geN eX0_take_7 (by omega) (by omega) (fun c_7 => ?_) (fun c_7 => ?_)
      · omega
      · refine x_aload_n eX0_take_10 rfl ?_
        refine s_getR (k := (46 + 2 * r)) eX0_take_11 fX0_55 (kd_ring hr65) (show _ < 365 by omega) (by decide) (rf_ring hr65) ?_
        refine x_iload_n eX0_take_14 rfl ?_
        have cj := hc j (by omega)
        refine s_iald eX0_take_15 (kd_corner hr65) (show _ < 365 by omega) rfl (by rw [(ln_corner hr65)]; omega) ?_
        rw [(g.2.2.2 j (by omega)).1]
        refine x_istore_n (lv' := [_, _, _, _]) eX0_take_16 (by decide) rfl ?_
        refine x_iload_n eX0_take_17 rfl ?_
        refine x_if_ltN eX0_take_18 (by omega) ?_
        refine x_iload_n eX0_take_21 rfl ?_
        refine x_sipush (v := nI 200) eX0_take_22 (by decide) ?_
        refine x_icmp_geN eX0_take_25 (by omega) (by omega) (fun c_25 => ?_) (fun c_25 => ?_)
        · omega
        · refine x_aload_n eX0_take_28 rfl ?_
          refine s_getR (k := 43) eX0_take_29 fX0_15 rfl (by decide) (by decide) rfl ?_
          refine x_iload_n eX0_take_32 rfl ?_
          refine s_zald eX0_take_33 rfl (by decide) rfl (show _ < 200 by omega) ?_
          rw [tk.2.2.1 (c j) cj]
          refine x_if_neT eX0_take_34 (fun c_34 => ?_) (fun c_34 => ?_)
          · refine x_iinc (lv' := [_, _, _, _]) eX0_take_64 rfl (by first | exact nI_inc _ | exact rfl) (by decide) rfl ?_
            refine x_goto eX0_take_67 ?_
            refine x_pick [0, 2, 3] rfl ?_
            first
              | exact ih (j + 1) (by omega) S1 ⟨hx, n1, u1, tk, fun x => by
                  rw [mem x]
                  constructor
                  · rintro (a | ⟨i, hi, e⟩)
                    · exact Or.inl a
                    · exact Or.inr ⟨i, by omega, e⟩
                  · rintro (a | ⟨i, hi, e⟩)
                    · exact Or.inl a
                    · by_cases q : i = j
                      · subst q; exact (mem x).mp (e ▸ c_34)
                      · exact Or.inr ⟨i, by omega, e⟩⟩
              | exact ih (j + 1) (by omega) _ ⟨hx.tr ((Fx.sI (by simp)).tr ((Fx.sI (by simp)).tr (Fx.sF (by simp)))), n1 + 1, (fun i => if i = n1 then c j else u1 i), take_tk tk cj c_34 n199, fun x => by
                  rw [push_mem, mem x]
                  constructor
                  · rintro ((a | ⟨i, hi, e⟩) | e)
                    · exact Or.inl a
                    · exact Or.inr ⟨i, by omega, e⟩
                    · exact Or.inr ⟨j, by omega, e⟩
                  · rintro (a | ⟨i, hi, e⟩)
                    · exact Or.inl (Or.inl a)
                    · by_cases q : i = j
                      · subst q; exact Or.inr e
                      · exact Or.inl (Or.inr ⟨i, by omega, e⟩)⟩
          · refine x_aload_n eX0_take_37 rfl ?_
            refine s_getR (k := 43) eX0_take_38 fX0_15 rfl (by decide) (by decide) rfl ?_
            refine x_iload_n eX0_take_41 rfl ?_
            refine x_iconst (v := nI 1) eX0_take_42 (by decide) ?_
            refine s_zast eX0_take_43 rfl (by decide) rfl (show _ < 200 by omega) (by first | exact Or.inl rfl | exact Or.inr rfl | exact bI_01 _) ?_
            refine x_aload_n eX0_take_44 rfl ?_
            refine s_getR (k := 42) eX0_take_45 fX0_9 rfl (by decide) (by decide) rfl ?_
            refine x_aload_n eX0_take_48 rfl ?_
            have n199 : n1 + 1 ≤ 200 := pigeon 200 (n1 + 1) (fun i => if i = n1 then c j else u1 i) (fun i hi => by show (if i = n1 then c j else u1 i) < 200; by_cases q : i = n1; exact (if_pos q).symm ▸ cj; rw [if_neg q]; exact (tk.2.1 i (by omega)).2) (fun a b ha hb e => by
            have e : (if a = n1 then c j else u1 a) = (if b = n1 then c j else u1 b) := e
            by_cases y : a = n1 <;> by_cases z : b = n1
            · omega
            · rw [if_pos y, if_neg z] at e; exact absurd ⟨b, by omega, e.symm⟩ c_34
            · rw [if_neg y, if_pos z] at e; exact absurd ⟨a, by omega, e⟩ c_34
            · rw [if_neg y, if_neg z] at e; exact tk.2.2.2.1 a b (by omega) (by omega) e)
            refine s_geti eX0_take_49 fX0_22 rfl (by decide) (by decide) ?_
            rw [show (setI S1 43 (upd (S1.2.1 43) (c j) (nI 1))).1 41 3 = nI n1 from tk.1]
            refine x_iload_n eX0_take_52 rfl ?_
            refine s_iast eX0_take_53 rfl (by decide) rfl (show _ < 200 by omega) ?_
            refine x_aload_n eX0_take_54 rfl ?_
            refine x_dup eX0_take_55 rfl ?_
            refine s_geti eX0_take_56 fX0_22 rfl (by decide) (by decide) ?_
            rw [show (setI (setI S1 43 (upd (S1.2.1 43) (c j) (nI 1))) 42 (upd ((setI S1 43 (upd (S1.2.1 43) (c j) (nI 1))).2.1 42) n1 (nI (c j)))).1 41 3 = nI n1 from tk.1]
            refine x_iconst (v := nI 1) eX0_take_59 (by decide) ?_
            first | refine x_iaddN eX0_take_60 ?_ | refine x_iadd eX0_take_60 ?_
            refine s_puti eX0_take_61 fX0_22 wX0_3 rfl (by decide) (by decide) ?_
            refine x_iinc (lv' := [_, _, _, _]) eX0_take_64 rfl (by first | exact nI_inc _ | exact rfl) (by decide) rfl ?_
            refine x_goto eX0_take_67 ?_
            refine x_pick [0, 2, 3] rfl ?_
            first
              | exact ih (j + 1) (by omega) S1 ⟨hx, n1, u1, tk, fun x => by
                  rw [mem x]
                  constructor
                  · rintro (a | ⟨i, hi, e⟩)
                    · exact Or.inl a
                    · exact Or.inr ⟨i, by omega, e⟩
                  · rintro (a | ⟨i, hi, e⟩)
                    · exact Or.inl a
                    · by_cases q : i = j
                      · subst q; exact (mem x).mp (e ▸ c_34)
                      · exact Or.inr ⟨i, by omega, e⟩⟩
              | exact ih (j + 1) (by omega) _ ⟨hx.tr ((Fx.sI (by simp)).tr ((Fx.sI (by simp)).tr (Fx.sF (by simp)))), n1 + 1, (fun i => if i = n1 then c j else u1 i), take_tk tk cj c_34 n199, fun x => by
                  rw [push_mem, mem x]
                  constructor
                  · rintro ((a | ⟨i, hi, e⟩) | e)
                    · exact Or.inl a
                    · exact Or.inr ⟨i, by omega, e⟩
                    · exact Or.inr ⟨j, by omega, e⟩
                  · rintro (a | ⟨i, hi, e⟩)
                    · exact Or.inl (Or.inl a)
                    · by_cases q : i = j
                      · subst q; exact Or.inr e
                      · exact Or.inl (Or.inr ⟨i, by omega, e⟩)⟩
  show XP _ _ [_, _] _ _ _
  refine x_iconst (v := nI 0) eX0_take_0 (by decide) ?_
  refine x_istore_n (lv' := [_, _, _]) eX0_take_1 (by decide) rfl ?_
  refine x_pick [0, 1, 2] rfl ?_
  exact loop m 0 (by omega) _ ⟨Fx.rf _ _ _ _ _, n, u, ht, fun x => ⟨Or.inl, fun z => z.elim id (fun ⟨i, hi, _⟩ => by omega)⟩⟩
/-- the corners of a layer, of the first j parcels -/
def InJ (X : LM) (l : Int32) (j x : Nat) : Prop := ∃ p, p < j ∧ xTh X p = true ∧ nI (xLy X p) = l ∧ ∃ i, i < xSz X p ∧ xRg X p i = x
theorem InJ_y {X : LM} {l : Int32} {j : Nat} (t : xTh X j = true) (e : nI (xLy X j) = l) (x : Nat) : InJ X l (j + 1) x ↔ (InJ X l j x ∨ ∃ i, i < xSz X j ∧ xRg X j i = x) := by
  constructor
  · rintro ⟨p, hp, a, b, d⟩
    by_cases q : p = j
    · subst q; exact Or.inr d
    · exact Or.inl ⟨p, by omega, a, b, d⟩
  · rintro (⟨p, hp, a⟩ | d)
    · exact ⟨p, by omega, a⟩
    · exact ⟨j, by omega, t, e, d⟩
theorem InJ_n {X : LM} {l : Int32} {j : Nat} (no : ¬ (xTh X j = true ∧ nI (xLy X j) = l)) (x : Nat) : InJ X l (j + 1) x ↔ InJ X l j x := by
  constructor
  · rintro ⟨p, hp, a, b, d⟩
    by_cases q : p = j
    · subst q; exact absurd ⟨a, b⟩ no
    · exact ⟨p, by omega, a, b, d⟩
  · rintro ⟨p, hp, a⟩
    exact ⟨p, by omega, a⟩
theorem RC_H {S S' : xS} {X : LM} (h : RC S X) {ls : List Nat} (hx : Fx [41] [42, 43, 44] ls [] S S') (h3 : 33 ∉ ls) (h5 : 35 ∉ ls) {k : Nat} {r : Nat → Nat} (e4 : S'.1 41 4 = nI k) (er : ∀ i, i < k → S'.2.1 44 i = nI (r i)) : RC S' (X.1, X.2.1, X.2.2.1, X.2.2.2.1, X.2.2.2.2.1, (k, r)) := by
  obtain ⟨⟨p1, p2, T, p3⟩, d, ⟨w1, w2, w3⟩, ⟨n1, n2⟩, z, ⟨k1, k2⟩, -, -⟩ := h
  have ec : ∀ {a e : Nat} {t : TB}, a < 62 → cent S a t e → cent S' a t e := fun {a e t} ha g => ⟨by rw [hx.1 _ (by simp; omega)]; exact g.1, fun q => by have := g.2 q; rw [hx.1 _ (by simp; omega)]; exact ⟨this.1, this.2.1, this.2.2.fx hx (by simp; omega) (by simp; omega)⟩⟩
  have cp : ∀ {s : Nat} {P : Pt}, cpt S s P → cpt S' s P := fun {s P} g => by
    obtain ⟨a1, a2, a3, a4, a5, f, k, a6, a7⟩ := g
    exact ⟨a1, by rw [hx.2.2.2 _ (by simp)]; exact a2, by rw [hx.2.2.2 _ (by simp)]; exact a3, a4, a5, f, k, fun i hi => by rw [hx.2.2.1 _ h5]; exact a6 i hi, a7⟩
  refine ⟨⟨by rw [hx.1 _ (by simp)]; exact p1, fun s hs => ?_, T, cp p3⟩, d.fx hx (by simp) (by simp), ⟨by rw [hx.1 _ (by simp)]; exact w1, by rw [hx.1 _ (by simp)]; exact w2, by rw [hx.1 _ (by simp)]; exact w3⟩, ⟨by rw [hx.1 _ (by simp)]; exact n1, fun e he => ec (by omega) (n2 e he)⟩, fun a ha => by rw [hx.1 _ (by simp; omega)]; exact z a ha, ⟨by rw [hx.1 _ (by simp)]; exact k1, fun q => ?_⟩, e4, er⟩
  · have := p2 s hs
    exact ⟨by rw [hx.2.2.1 _ h3]; exact this.1, by rw [hx.2.2.1 _ h3]; exact this.2.1, cp this.2.2⟩
  · obtain ⟨p, q2, a1, a2, a3, a4, a5, a6⟩ := k2 q
    exact ⟨p, q2, a1, by rw [hx.1 _ (by simp)]; exact a2, by rw [hx.1 _ (by simp)]; exact a3, ec (by decide) a4, fun w => ec (by decide) (a5 w), fun e x y w => ec (by omega) (a6 e x y w)⟩
theorem ctab.fx {fs is ls ds : List Nat} {S S1 : xS} {np : Nat} {th : Nat → Bool} {ly : Nat → Nat} {ow : Nat → Int32} {sz : Nat → Nat} {rg : Nat → Nat → Nat} (h : ctab S np th ly ow sz rg) (hx : Fx fs is ls ds S S1) (a : 37 ∉ fs) (b : ∀ q, q < np → 175 + q ∉ fs) (d : ∀ q, q < np → 45 + 2 * q ∉ fs) (e : ∀ q, q < np → 46 + 2 * q ∉ is) : ctab S1 np th ly ow sz rg := ⟨by rw [hx.1 _ a]; exact h.1, h.2.1, fun q hq => ⟨by rw [hx.1 _ (b q hq)]; exact (h.2.2 q hq).1, fun t => by have := (h.2.2 q hq).2 t; rw [hx.1 _ (b q hq)]; exact ⟨this.1, this.2.1, this.2.2.fx hx (d q hq) (e q hq)⟩⟩⟩
theorem sp_X0_gather {S : xS} {X : LM} (w : wf X) (h : RC S X) (l : Int32) : Sp mX0_gather [.ref 41, .ref 37, .int l] S (fun x S' => x = none ∧ Fx [41] [42, 43] [] [] S S' ∧ ∃ n u, TK S' n u ∧ ∀ x, (∃ i, i < n ∧ u i = x) ↔ InJ X l (xNp X) x) := by
  have n60 : xNp X ≤ 60 := w.2.2.2.2.1.1
  have n200 := w.1
  have loop2 : ∀ μ j, j + μ = (xNp X) → ∀ S1, (Fx [41] [42, 43] [] [] S S1 ∧ ∃ n u, TK S1 n u ∧ ∀ x, (∃ i, i < n ∧ u i = x) ↔ InJ X l j x) → XP mX0_gather 29 [(3, .int (nI j)), (0, .ref 41), (1, .ref 37), (2, .int l)] [] (xwS S1) (sQ (fun x S' => x = none ∧ Fx [41] [42, 43] [] [] S S' ∧ ∃ n u, TK S' n u ∧ ∀ x, (∃ i, i < n ∧ u i = x) ↔ InJ X l (xNp X) x)) := by
    intro μ
    induction μ with
    | zero =>
      intro j hk S1 h1
      obtain ⟨hx, n, u, tk, mem⟩ := h1
      have t := (h.tab w).fx hx (by simp) (fun q hq => by simp; omega) (fun q hq => by simp; omega) (fun q hq => by simp; omega)
      refine x_iload_n eX0_gather_29 rfl ?_
      refine x_aload_n eX0_gather_30 rfl ?_
      refine s_geti eX0_gather_31 fX0_29 rfl (by decide) (by decide) ?_
      rw [t.1]
      refine x_icmp_geN eX0_gather_34 (by omega) (by omega) (fun c_34 => ?_) (fun c_34 => ?_)
      · exact s_vret eX0_gather_65 rfl ⟨rfl, hx, n, u, tk, fun x => by rw [mem x, show j = xNp X by omega]⟩
      · omega
    | succ μ ih =>
      intro j hk S1 h1
      obtain ⟨hx, n, u, tk, mem⟩ := h1
      have t := (h.tab w).fx hx (by simp) (fun q hq => by simp; omega) (fun q hq => by simp; omega) (fun q hq => by simp; omega)
      refine x_iload_n eX0_gather_29 rfl ?_
      refine x_aload_n eX0_gather_30 rfl ?_
      refine s_geti eX0_gather_31 fX0_29 rfl (by decide) (by decide) ?_
      rw [t.1]
      refine x_icmp_geN eX0_gather_34 (by omega) (by omega) (fun c_34 => ?_) (fun c_34 => ?_)
      · omega
      · refine x_aload_n eX0_gather_37 rfl ?_
        refine x_iload_n eX0_gather_38 rfl ?_
        refine x_iload_n eX0_gather_39 rfl ?_
        refine s_callV1 (As := [_, _]) eX0_gather_40 kX0_34 ⟨by decide, by decide⟩ rfl (by decide) (by decide) rfl rfl (Nat.le_of_ble_eq_true rfl) (Nat.le_of_ble_eq_true rfl) (sp_X3_isOf t (by omega) _) (fun S_40 h_40 => ?_)
        have h_40 := h_40.symm
        subst h_40
        refine x_if_eqT eX0_gather_43 (fun c_43 => ?_) (fun c_43 => ?_)
        · refine x_iinc (lv' := [_, _, _, _]) eX0_gather_59 rfl (by first | exact nI_inc _ | exact rfl) (by decide) rfl ?_
          refine x_goto eX0_gather_62 ?_
          refine x_pick [0, 1, 2, 3] rfl ?_
          first
            | exact ih (j + 1) (by omega) _ ⟨hx.tr hx2, n2, u2, tk2, fun x => by rw [mem2 x, InJ_y c_43.2.1 c_43.2.2 x, mem x]; rfl⟩
            | exact ih (j + 1) (by omega) _ ⟨hx, n, u, tk, fun x => by rw [mem x, InJ_n (fun z => c_43 ⟨by omega, z.1, z.2⟩) x]⟩
        · refine x_aload_n eX0_gather_46 rfl ?_
          refine x_aload_n eX0_gather_47 rfl ?_
          refine s_getR (k := 38) eX0_gather_48 fX0_38 rfl (by decide) (by decide) rfl ?_
          refine x_iload_n eX0_gather_51 rfl ?_
          refine s_raldR eX0_gather_52 (by first | exact Or.inl rfl | exact Or.inr rfl) (by decide) rfl (show _ < 60 by omega) (rf_parcels j) ?_
          refine s_getR (k := (45 + 2 * j)) eX0_gather_53 fX0_42 (kd_parcel (by omega)) (show _ < 365 by omega) (by decide) (rf_parcel (by omega)) ?_
          refine s_callV0 (As := [_]) eX0_gather_56 kX0_48 ⟨by decide, by decide⟩ rfl (by decide) (by decide) rfl rfl (Nat.le_of_ble_eq_true rfl) (Nat.le_of_ble_eq_true rfl) (sp_X0_take _ ((t.2.2 j (by omega)).2 c_43.2.1).2.2 (fun i hi => Nat.lt_of_lt_of_le ((good_c w c_43.2.1).2 i hi) n200) tk) (fun S_56 h_56 => ?_)
          obtain ⟨hx2, n2, u2, tk2, mem2⟩ := h_56
          refine x_iinc (lv' := [_, _, _, _]) eX0_gather_59 rfl (by first | exact nI_inc _ | exact rfl) (by decide) rfl ?_
          refine x_goto eX0_gather_62 ?_
          refine x_pick [0, 1, 2, 3] rfl ?_
          first
            | exact ih (j + 1) (by omega) _ ⟨hx.tr hx2, n2, u2, tk2, fun x => by rw [mem2 x, InJ_y c_43.2.1 c_43.2.2 x, mem x]; rfl⟩
            | exact ih (j + 1) (by omega) _ ⟨hx, n, u, tk, fun x => by rw [mem x, InJ_n (fun z => c_43 ⟨by omega, z.1, z.2⟩) x]⟩
  have loop1 : ∀ μ j, j + μ = 200 → ∀ S1, (Fx [41] [42, 43] [] [] S S1 ∧ ∀ c, c < j → S1.2.1 43 c = 0) → XP mX0_gather 2 [(3, .int (nI j)), (0, .ref 41), (1, .ref 37), (2, .int l)] [] (xwS S1) (sQ (fun x S' => x = none ∧ Fx [41] [42, 43] [] [] S S' ∧ ∃ n u, TK S' n u ∧ ∀ x, (∃ i, i < n ∧ u i = x) ↔ InJ X l (xNp X) x)) := by
    intro μ
    induction μ with
    | zero =>
      intro j hk S1 h1
      obtain ⟨hx, z0⟩ := h1
      refine x_iload_n eX0_gather_2 rfl ?_
      refine x_sipush (v := nI 200) eX0_gather_3 (by decide) ?_
      refine x_icmp_geN eX0_gather_6 (by omega) (by omega) (fun c_6 => ?_) (fun c_6 => ?_)
      · refine x_aload_n eX0_gather_22 rfl ?_
        refine x_iconst (v := nI 0) eX0_gather_23 (by decide) ?_
        refine s_puti eX0_gather_24 fX0_22 wX0_3 rfl (by decide) (by decide) ?_
        refine x_iconst (v := nI 0) eX0_gather_27 (by decide) ?_
        refine x_istore_n (lv' := [_, _, _, _]) eX0_gather_28 (by decide) rfl ?_
        refine x_pick [0, 1, 2, 3] rfl ?_
        exact loop2 (xNp X) 0 (by omega) _ ⟨hx.tr (Fx.sF (by simp)), 0, (fun _ => 0), ⟨by rw [setF_at, upd_at], fun i hi => by omega, fun c hc => by rw [show (setF S1 41 (upd (S1.1 41) 3 (nI 0))).2.1 43 c = 0 from z0 c (by omega), tI_f (fun ⟨i, hi, _⟩ => by omega)], fun i j hi => by omega, by omega⟩, fun x => ⟨fun ⟨i, hi, _⟩ => by omega, fun ⟨p, hp, _⟩ => by omega⟩⟩
      · omega
    | succ μ ih =>
      intro j hk S1 h1
      obtain ⟨hx, z0⟩ := h1
      refine x_iload_n eX0_gather_2 rfl ?_
      refine x_sipush (v := nI 200) eX0_gather_3 (by decide) ?_
      refine x_icmp_geN eX0_gather_6 (by omega) (by omega) (fun c_6 => ?_) (fun c_6 => ?_)
      · omega
      · refine x_aload_n eX0_gather_9 rfl ?_
        refine s_getR (k := 43) eX0_gather_10 fX0_15 rfl (by decide) (by decide) rfl ?_
        refine x_iload_n eX0_gather_13 rfl ?_
        refine x_iconst (v := nI 0) eX0_gather_14 (by decide) ?_
        refine s_zast eX0_gather_15 rfl (by decide) rfl (show _ < 200 by omega) (by first | exact Or.inl rfl | exact Or.inr rfl | exact bI_01 _) ?_
        refine x_iinc (lv' := [_, _, _, _]) eX0_gather_16 rfl (by first | exact nI_inc _ | exact rfl) (by decide) rfl ?_
        refine x_goto eX0_gather_19 ?_
        refine x_pick [0, 1, 2, 3] rfl ?_
        exact ih (j + 1) (by omega) _ ⟨hx.tr (Fx.sI (by simp)), fun c hc => by
          rw [setI_at]
          by_cases q : c = j
          · rw [q, upd_at]; rfl
          · rw [upd_ne _ _ q]; exact z0 c (by omega)⟩
  show XP _ _ [_, _, _] _ _ _
  refine x_iconst (v := nI 0) eX0_gather_0 (by decide) ?_
  refine x_istore_n (lv' := [_, _, _, _]) eX0_gather_1 (by decide) rfl ?_
  refine x_pick [0, 1, 2, 3] rfl ?_
  exact loop1 200 0 (by omega) _ ⟨Fx.rf _ _ _ _ _, fun c hc => by omega⟩
theorem sp_X0_sort (S : xS) {nc n : Nat} {u : Nat → Nat} {P : Nat → Pt} (hp : cps S nc P) (hi : ∀ s t, s < nc → t < nc → P s = P t → s = t) (hm : S.1 41 3 = nI n) (n200 : n ≤ 200) (n1 : 1 ≤ n) (hu : ∀ i, i < n → S.2.1 42 i = nI (u i) ∧ u i < nc) (ud : ∀ i j, i < n → j < n → u i = u j → i = j) : Sp mX0_sort [.ref 41, .ref 32] S (fun x S' => x = none ∧ Fx [] [42] [] [] S S' ∧ ∃ f : Nat → Nat, (∀ a, a < n → S'.2.1 42 a = nI (f a)) ∧ (∀ x, (∃ a, a < n ∧ f a = x) ↔ ∃ a, a < n ∧ u a = x) ∧ ∀ a b, a < b → b < n → ltP (P (f a)) (P (f b)) = true) := by
  have loop : ∀ μ j, j + μ = n → ∀ S1, (Fx [] [42] [] [] S S1 ∧ ∃ f : Nat → Nat, (∀ a, a < j → S1.2.1 42 a = nI (f a)) ∧ (∀ a, j ≤ a → a < n → S1.2.1 42 a = nI (u a)) ∧ (∀ x, (∃ a, a < j ∧ f a = x) ↔ ∃ a, a < j ∧ u a = x) ∧ ∀ a b, a < b → b < j → ltP (P (f a)) (P (f b)) = true) → XP mX0_sort 2 [(2, .int (nI j)), (0, .ref 41), (1, .ref 32)] [] (xwS S1) (sQ (fun x S' => x = none ∧ Fx [] [42] [] [] S S' ∧ ∃ f : Nat → Nat, (∀ a, a < n → S'.2.1 42 a = nI (f a)) ∧ (∀ x, (∃ a, a < n ∧ f a = x) ↔ ∃ a, a < n ∧ u a = x) ∧ ∀ a b, a < b → b < n → ltP (P (f a)) (P (f b)) = true)) := by
    intro μ
    induction μ with
    | zero =>
      intro j hk S1 h1
      obtain ⟨hx, f, r1, r2, mem, srt⟩ := h1
      refine x_iload_n eX0_sort_2 rfl ?_
      refine x_aload_n eX0_sort_3 rfl ?_
      refine s_geti eX0_sort_4 fX0_22 rfl (by decide) (by decide) ?_
      rw [hx.1 41 (by simp), hm]
      refine x_icmp_geN eX0_sort_7 (by omega) (by omega) (fun c_7 => ?_) (fun c_7 => ?_)
      · exact s_vret eX0_sort_78 rfl ⟨rfl, hx, f, fun a ha => r1 a (by omega), fun x => by rw [show n = j by omega]; exact mem x, fun a b h1 h2 => srt a b h1 (by omega)⟩
      · omega
    | succ μ ih =>
      intro j hk S1 h1
      obtain ⟨hx, f, r1, r2, mem, srt⟩ := h1
      refine x_iload_n eX0_sort_2 rfl ?_
      refine x_aload_n eX0_sort_3 rfl ?_
      refine s_geti eX0_sort_4 fX0_22 rfl (by decide) (by decide) ?_
      rw [hx.1 41 (by simp), hm]
      refine x_icmp_geN eX0_sort_7 (by omega) (by omega) (fun c_7 => ?_) (fun c_7 => ?_)
      · omega
      · have j64 : ∀ k, k ≤ j → ∀ S2, (Fx [] [42] [] [] S S2 ∧ (∀ a, a < k → S2.2.1 42 a = nI (f a)) ∧ (∀ a, k < a → a ≤ j → S2.2.1 42 a = nI (f (a - 1))) ∧ (∀ a, j < a → a < n → S2.2.1 42 a = nI (u a)) ∧ ∀ a, k ≤ a → a < j → ltP (P (u j)) (P (f a)) = true) → (∀ a, a < k → ltP (P (f a)) (P (u j)) = true) → XP mX0_sort 64 [(4, .int (nI k)), (3, .int (nI (u j))), (2, .int (nI j)), (0, .ref 41), (1, .ref 32)] [] (xwS S2) (sQ (fun x S' => x = none ∧ Fx [] [42] [] [] S S' ∧ ∃ f : Nat → Nat, (∀ a, a < n → S'.2.1 42 a = nI (f a)) ∧ (∀ x, (∃ a, a < n ∧ f a = x) ↔ ∃ a, a < n ∧ u a = x) ∧ ∀ a b, a < b → b < n → ltP (P (f a)) (P (f b)) = true)) := by
          intro k hkj S2 h2 lo
          obtain ⟨gx, q1, q2, q3, q4⟩ := h2
          refine x_aload_n eX0_sort_64 rfl ?_
          refine s_getR (k := 42) eX0_sort_65 fX0_9 rfl (by decide) (by decide) rfl ?_
          refine x_iload eX0_sort_68 rfl ?_
          refine x_iload_n eX0_sort_70 rfl ?_
          refine s_iast eX0_sort_71 rfl (by decide) rfl (show _ < 200 by omega) ?_
          refine x_iinc (lv' := [_, _, _, _, _]) eX0_sort_72 rfl (by first | exact nI_inc _ | exact rfl) (by decide) rfl ?_
          refine x_goto eX0_sort_75 ?_
          refine x_pick [0, 3, 4] rfl ?_
          refine ih (j + 1) (by omega) _ ⟨gx.tr (Fx.sI (by simp)), insR f k (u j), fun a ha => ?_, fun a h1 h2 => ?_, fun x => ?_, ins_srt srt hkj lo q4⟩
          · rw [setI_at]; unfold insR
            by_cases z : a = k
            · rw [z, upd_at, if_neg (by omega), if_pos rfl]
            · rw [upd_ne _ _ z]
              by_cases y : a < k
              · rw [if_pos y]; exact q1 a y
              · rw [if_neg y, if_neg z]; exact q2 a (by omega) (by omega)
          · rw [setI_at, upd_ne _ _ (by omega)]; exact q3 a (by omega) h2
          · rw [ins_mem hkj x, mem x]
            constructor
            · rintro (e | ⟨a, ha, e⟩)
              · exact ⟨j, by omega, e.symm⟩
              · exact ⟨a, by omega, e⟩
            · rintro ⟨a, ha, e⟩
              by_cases q : a = j
              · subst q; exact Or.inl e.symm
              · exact Or.inr ⟨a, by omega, e⟩
        have inner : ∀ k, k ≤ j → ∀ S2, (Fx [] [42] [] [] S S2 ∧ (∀ a, a < k → S2.2.1 42 a = nI (f a)) ∧ (∀ a, k < a → a ≤ j → S2.2.1 42 a = nI (f (a - 1))) ∧ (∀ a, j < a → a < n → S2.2.1 42 a = nI (u a)) ∧ ∀ a, k ≤ a → a < j → ltP (P (u j)) (P (f a)) = true) → XP mX0_sort 20 [(4, .int (nI k)), (3, .int (nI (u j))), (2, .int (nI j)), (0, .ref 41), (1, .ref 32)] [] (xwS S2) (sQ (fun x S' => x = none ∧ Fx [] [42] [] [] S S' ∧ ∃ f : Nat → Nat, (∀ a, a < n → S'.2.1 42 a = nI (f a)) ∧ (∀ x, (∃ a, a < n ∧ f a = x) ↔ ∃ a, a < n ∧ u a = x) ∧ ∀ a b, a < b → b < n → ltP (P (f a)) (P (f b)) = true)) := by
          intro k
          induction k with
          | zero =>
            intro hkj S2 h2
            refine x_iload eX0_sort_20 rfl ?_
            refine x_if_leN eX0_sort_22 (by omega) (fun c_22 => ?_) (fun c_22 => ?_)
            · exact j64 0 hkj S2 h2 (fun a ha => by omega)
            · omega
          | succ k ihk =>
            intro hkj S2 h2
            have h3 := h2
            obtain ⟨gx, q1, q2, q3, q4⟩ := h3
            have pts := hp.fx gx (by simp) (by simp)
            obtain ⟨a0, ha0, ea0⟩ := (mem (f k)).mp ⟨k, by omega, rfl⟩
            refine x_iload eX0_sort_20 rfl ?_
            refine x_if_leN eX0_sort_22 (by omega) (fun c_22 => ?_) (fun c_22 => ?_)
            · omega
            · refine x_aload_n eX0_sort_25 rfl ?_
              refine x_iload_n eX0_sort_26 rfl ?_
              refine x_aload_n eX0_sort_27 rfl ?_
              refine s_getR (k := 42) eX0_sort_28 fX0_9 rfl (by decide) (by decide) rfl ?_
              refine x_iload eX0_sort_31 rfl ?_
              refine x_iconst (v := nI 1) eX0_sort_33 (by decide) ?_
              first | refine x_isubN eX0_sort_34 (by omega) ?_ | refine x_isub eX0_sort_34 ?_
              rw [show k + 1 - 1 = k by omega]
              refine s_iald eX0_sort_35 rfl (by decide) rfl (show _ < 200 by omega) ?_
              rw [q1 k (by omega)]
              refine s_callV1 (As := [_, _]) eX0_sort_36 kX0_58 ⟨by decide, by decide⟩ rfl (by decide) (by decide) rfl rfl (Nat.le_of_ble_eq_true rfl) (Nat.le_of_ble_eq_true rfl) (sp_X2_isAhead _ (pts (u j) (Or.inl (hu j (by omega)).2)) (pts (f k) (Or.inl (by rw [← ea0]; exact (hu a0 (by omega)).2)))) (fun S_36 h_36 => ?_)
              have h_36 := h_36.symm
              subst h_36
              refine x_if_eqB eX0_sort_39 (fun c_39 => ?_) (fun c_39 => ?_)
              · refine j64 (k + 1) hkj S2 h2 (fun a ha => ?_)
                have l1 : ltP (P (f k)) (P (u j)) = true := by
                  rcases lt_tri (P (f k)) (P (u j)) with z | z | z
                  · exact z
                  · rw [← ea0] at z
                    have := ud a0 j (by omega) (by omega) (hi _ _ (hu a0 (by omega)).2 (hu j (by omega)).2 z)
                    omega
                  · rw [z] at c_39; exact absurd c_39 (by decide)
                by_cases q : a = k
                · rw [q]; exact l1
                · exact ltP_tr (srt a k (by omega) (by omega)) l1
              · refine x_aload_n eX0_sort_42 rfl ?_
                refine s_getR (k := 42) eX0_sort_43 fX0_9 rfl (by decide) (by decide) rfl ?_
                refine x_iload eX0_sort_46 rfl ?_
                refine x_aload_n eX0_sort_48 rfl ?_
                refine s_getR (k := 42) eX0_sort_49 fX0_9 rfl (by decide) (by decide) rfl ?_
                refine x_iload eX0_sort_52 rfl ?_
                refine x_iconst (v := nI 1) eX0_sort_54 (by decide) ?_
                first | refine x_isubN eX0_sort_55 (by omega) ?_ | refine x_isub eX0_sort_55 ?_
                rw [show k + 1 - 1 = k by omega]
                refine s_iald eX0_sort_56 rfl (by decide) rfl (show _ < 200 by omega) ?_
                rw [q1 k (by omega)]
                refine s_iast eX0_sort_57 rfl (by decide) rfl (show _ < 200 by omega) ?_
                refine x_iinc (lv' := [_, _, _, _, _]) eX0_sort_58 rfl (show nI (k + 1) + Int32.ofInt (-1) = nI k by rw [nI_dec, dI_s]) (by decide) rfl ?_
                refine x_goto eX0_sort_61 ?_
                refine x_pick [0, 1, 2, 3, 4] rfl ?_
                refine ihk (by omega) _ ⟨gx.tr (Fx.sI (by simp)), fun a ha => ?_, fun a h1 h2 => ?_, fun a h1 h2 => ?_, fun a h1 h2 => ?_⟩
                · rw [setI_at, upd_ne _ _ (by omega)]; exact q1 a (by omega)
                · rw [setI_at]
                  by_cases z : a = k + 1
                  · rw [z, upd_at]; rfl
                  · rw [upd_ne _ _ z]; exact q2 a (by omega) h2
                · rw [setI_at, upd_ne _ _ (by omega)]; exact q3 a h1 h2
                · by_cases z : a = k
                  · rw [z]; exact c_39
                  · exact q4 a (by omega) h2
        refine x_aload_n eX0_sort_10 rfl ?_
        refine s_getR (k := 42) eX0_sort_11 fX0_9 rfl (by decide) (by decide) rfl ?_
        refine x_iload_n eX0_sort_14 rfl ?_
        refine s_iald eX0_sort_15 rfl (by decide) rfl (show _ < 200 by omega) ?_
        rw [r2 j (by omega) (by omega)]
        refine x_istore_n (lv' := [_, _, _, _]) eX0_sort_16 (by decide) rfl ?_
        refine x_iload_n eX0_sort_17 rfl ?_
        refine x_istore (lv' := [_, _, _, _, _]) eX0_sort_18 (by decide) rfl ?_
        refine x_pick [0, 1, 2, 3, 4] rfl ?_
        exact inner j (Nat.le_refl _) S1 ⟨hx, r1, fun a h1 h2 => by omega, fun a h1 h2 => r2 a (by omega) h2, fun a h1 h2 => by omega⟩
  show XP _ _ [_, _] _ _ _
  refine x_iconst (v := nI 1) eX0_sort_0 (by decide) ?_
  refine x_istore_n (lv' := [_, _, _]) eX0_sort_1 (by decide) rfl ?_
  refine x_pick [0, 1, 2] rfl ?_
  exact loop (n - 1) 1 (by omega) _ ⟨Fx.rf _ _ _ _ _, u, fun a ha => (hu a (by omega)).1, fun a h1 h2 => (hu a h2).1, fun x => Iff.rfl, fun a b h1 h2 => by omega⟩
