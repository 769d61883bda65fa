/-! ===== undo ===== -/
theorem Sp.mono {M : xM} {av : List Value} {S : xS} {Q Q' : Option Value → xS → Prop} (h : Sp M av S Q') (hq : ∀ r S', Q' r S' → Q r S') : Sp M av S Q := XP.mono h (fun r w' ⟨S', e, q⟩ => ⟨S', e, hq r S' q⟩)
def uU (X : LM) : LM := (X.1, X.2.1, X.2.2.1, (xNp X, xSv X), (false, xSv X), X.2.2.2.2.2)
theorem wf_uU {X : LM} (w : wf X) (c : xCu X = true) : wf (uU X) := ⟨w.1, w.2.1, w.2.2.1, w.2.2.2.1, ⟨w.2.2.2.2.1.1, (w.2.2.2.2.2.1 c).1, (w.2.2.2.2.2.1 c).2⟩, fun z => absurd (show false = true from z) (by decide), w.2.2.2.2.2.2⟩
theorem RC_undo {S S' : xS} {X : LM} (h : RC S X) {p q : Nat} (hp : p < 60) (hq : q < 60) (hx : Fx [37, 175 + p, 45 + 2 * p, 175 + q, 45 + 2 * q] [46 + 2 * p, 46 + 2 * q] [] [] S S') (f5 : S'.1 37 5 = 0) (f6 : S'.1 37 6 = S.1 37 6) (ep : cent S' p (xSv X) p) (eq : cent S' q (xSv X) q) (el : ∀ e, e < 60 → e ≠ p → e ≠ q → cent S e (xSv X) e) : RC S' (uU X) := by
  obtain ⟨⟨p1, p2, T, p3⟩, d, ⟨w1, w2, w3⟩, ⟨n1, n2⟩, z, -, h1, h2⟩ := h
  have c2 : ∀ {a e : Nat} {t : TB}, a < 62 → a ≠ p → a ≠ q → cent S a t e → cent S' a t e := fun {a e t} ha n1 n2 g => cent_fx g hx (by simp; omega) (by simp; omega) (by simp; omega)
  have cp : ∀ {s : Nat} {P : Pt}, cpt S s P → cpt S' s P := fun {s P} g => cpt_fx g hx (by simp) (by simp)
  refine ⟨⟨by rw [hx.1 32 (by simp; omega)]; exact p1, fun s hs => ?_, T, cp p3⟩, d.fx hx (by simp; omega) (by simp; omega), ⟨by rw [hx.1 31 (by simp; omega)]; exact w1, by rw [hx.1 31 (by simp; omega)]; exact w2, by rw [hx.1 31 (by simp; omega)]; exact w3⟩, ⟨by rw [f6]; exact n1, fun e he => ?_⟩, fun a ha => ?_, ⟨by rw [f5]; rfl, fun z => absurd (show false = true from z) (by decide)⟩, by rw [hx.1 41 (by simp; omega)]; exact h1, fun k hk => by rw [hx.2.1 44 (by simp; omega)]; exact h2 k hk⟩
  · have := p2 s hs
    rw [hx.2.2.1 33 (by simp)]
    exact ⟨this.1, this.2.1, cp this.2.2⟩
  · by_cases e1 : e = p
    · subst e1; exact ep
    · by_cases e2 : e = q
      · subst e2; exact eq
      · exact c2 (by omega) e1 e2 (el e he e1 e2)
  · by_cases e1 : a = p
    · subst e1; rw [ep.1]; exact bI01 _
    · by_cases e2 : a = q
      · subst e2; rw [eq.1]; exact bI01 _
      · rw [hx.1 (175 + a) (by simp; omega)]; exact z a ha
theorem RM_undo {S S' : xS} {X : LM} (w : wf X) (c : xCu X = true) (h : RM S X) (hx : Fx [0] [12, 13, 14, 15, 16] [] [] S S') (f22 : S'.1 0 22 = 0) (fo : ∀ f, f ≠ 22 → S'.1 0 f = S.1 0 f) (a : ∀ j, j < 60 → S'.2.1 12 j = S.2.1 17 j ∧ S'.2.1 13 j = S.2.1 18 j ∧ S'.2.1 14 j = S.2.1 19 j ∧ S'.2.1 15 j = S.2.1 20 j) (b : ∀ j, j < 720 → S'.2.1 16 j = S.2.1 21 j) : RM S' (uU X) := by
  have n60 := w.2.2.2.2.1.1
  obtain ⟨⟨p1, p2, T, p3⟩, ⟨d1, d2⟩, ⟨w1, w2, w3⟩, ⟨n1, n2⟩, ⟨k1, k2, k3⟩, h1, h2⟩ := h
  have ep : ∀ {s : Nat} {P : Pt}, pt S s P → pt S' s P := fun {s P} g => by
    obtain ⟨a1, a2, a3, a4, a5⟩ := g
    exact ⟨fun i hi => by rw [hx.2.2.1 3 (by decide)]; exact a1 i hi, fun i hi => by rw [hx.2.2.1 4 (by decide)]; exact a2 i hi, a3, a4, a5⟩
  refine ⟨⟨by rw [fo _ (by decide)]; exact p1, fun s hs => ?_, T, ep p3⟩, ⟨by rw [fo _ (by decide)]; exact d1, fun i hi => by rw [hx.2.1 _ (by decide)]; exact d2 i hi⟩, ⟨by rw [fo _ (by decide)]; exact w1, by rw [fo _ (by decide)]; exact w2, by rw [fo _ (by decide)]; exact w3⟩, ⟨by rw [fo _ (by decide)]; exact n1, fun e he => ?_⟩, ⟨by rw [f22]; rfl, fun j hj => by rw [hx.2.1 17 (by decide)]; exact k2 j hj, fun z => absurd (show false = true from z) (by decide)⟩, by rw [fo _ (by decide)]; exact h1, fun k hk => by rw [hx.2.1 _ (by decide)]; exact h2 k hk⟩
  · have := p2 s hs
    rw [hx.2.2.1 1 (by decide), hx.2.2.1 2 (by decide)]
    exact ⟨this.1, this.2.1, ep this.2.2⟩
  · have he : e < xNp X := he
    have m := k3 c e (by omega)
    have k := a e (by omega)
    refine ⟨by rw [k.1]; exact m.1, fun q => ?_⟩
    have mm := m.2 q
    have sz := ((w.2.2.2.2.2.1 c).1 e q).2.2.1
    refine ⟨by rw [k.2.1]; exact mm.1, by rw [k.2.2.1]; exact mm.2.1, by rw [k.2.2.2]; exact mm.2.2.1, fun i hi => ?_⟩
    have hi : i < tSz (xSv X) e := hi
    rw [b _ (by omega)]
    exact mm.2.2.2 i hi
theorem b_undo {X : LM} (w : wf X) : both X mX8_undo mX9_undo [] := by
  have n60 : xNp X ≤ 60 := w.2.2.2.2.1.1
  cases c : xCu X with
  | false =>
    refine ⟨.int (-103), X, w, fun S h => ?_, fun S h => ?_⟩
    · have e5 : S.1 37 5 = bI (xCu X) := h.2.2.2.2.2.1.1
      show XP _ _ [_] _ _ _
      refine x_aload_n eX8_undo_0 rfl ?_
      refine s_getR (k := 37) eX8_undo_1 fX8_28 rfl (by decide) (by decide) rfl ?_
      refine s_geti eX8_undo_4 fX8_266 rfl (by decide) (by decide) ?_
      rw [e5, c]
      refine x_if_neB eX8_undo_7 (fun c_7 => ?_) (fun c_7 => ?_)
      · exact absurd c_7 (by decide)
      · refine x_bipush (v := -103) eX8_undo_10 (by decide) ?_
        exact s_iret eX8_undo_12 rfl rfl ⟨rfl, h, frC.rf _⟩
    · exact (sp_X9_undoNo S (by rw [h.2.2.2.2.1.1, c]; rfl)).mono (fun r S' q => ⟨q.1, by rw [q.2]; exact h, by rw [q.2]; exact frM.rf _⟩)
  | true =>
    refine ⟨.int 1, uU X, wf_uU w c, fun S h => ?_, fun S h => ?_⟩
    · have e5 : S.1 37 5 = bI (xCu X) := h.2.2.2.2.2.1.1
      obtain ⟨p, q, hp, f3, f4, kp, kq, ke⟩ := h.2.2.2.2.2.1.2 c
      have hq : q < 60 := by rcases f4 with f | f <;> omega
      show XP _ _ [_] _ _ _
      refine x_aload_n eX8_undo_0 rfl ?_
      refine s_getR (k := 37) eX8_undo_1 fX8_28 rfl (by decide) (by decide) rfl ?_
      refine s_geti eX8_undo_4 fX8_266 rfl (by decide) (by decide) ?_
      rw [e5, c]
      refine x_if_neB eX8_undo_7 (fun c_7 => ?_) (fun c_7 => ?_)
      · refine x_aload_n eX8_undo_13 rfl ?_
        refine s_getR (k := 37) eX8_undo_14 fX8_28 rfl (by decide) (by decide) rfl ?_
        refine s_callV0 (As := []) eX8_undo_17 kX8_269 ⟨by decide, by decide⟩ rfl (by decide) (by decide) rfl rfl (Nat.le_of_ble_eq_true rfl) (Nat.le_of_ble_eq_true rfl) (sp_X3_restore _ hp f3 f4 h.2.2.2.2.1) (fun S_17 h_17 => ?_)
        refine x_iconst (v := nI 1) eX8_undo_20 (by decide) ?_
        obtain ⟨hx, g5, gf, e1, e2⟩ := h_17
        have cq : cent S_17 q (xSv X) q := by
          by_cases z : q = p
          · subst z; exact entEq_cent e1 (by omega) kp
          · have f4q : S.1 37 4 = nI q := by
              rcases f4 with f | f
              · exact absurd f.2 z
              · exact f.1
            exact entEq_cent (e2 f4q) (by omega) (kq z)
        exact s_iret eX8_undo_21 rfl rfl ⟨rfl, RC_undo h hp hq hx g5 (gf 6 (by decide)) (entEq_cent e1 (by omega) kp) cq ke, hx.frC (by simp; omega) (by simp; omega) (by simp)⟩
      · exact absurd c_7 (by decide)
    · exact (sp_X9_undoYes S (by rw [h.2.2.2.2.1.1, c]; rfl) h.2.2.2.2.1.2.1).mono (fun r S' q => ⟨q.1, RM_undo w c h q.2.1 q.2.2.1 q.2.2.2.1 q.2.2.2.2.1 q.2.2.2.2.2, q.2.1.frM (by simp) (by simp) (by simp) (by simp)⟩)

