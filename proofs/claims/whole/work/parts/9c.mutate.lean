/-! ===== changes of the table, both sides ===== -/
def tAg (t t' : TB) (e : Nat) : Prop := tTh t' e = tTh t e ∧ tLy t' e = tLy t e ∧ tOw t' e = tOw t e ∧ tSz t' e = tSz t e ∧ tRg t' e = tRg t e
theorem cent_ag {S : xS} {a e : Nat} {t t' : TB} (h : tAg t t' e) (g : cent S a t e) : cent S a t' e := by
  unfold cent at g ⊢
  rw [h.1, h.2.1, h.2.2.1, h.2.2.2.1, h.2.2.2.2]
  exact g
theorem ment_ag {S : xS} {r e : Nat} {t t' : TB} (h : tAg t t' e) (g : ment S r t e) : ment S r t' e := by
  unfold ment at g ⊢
  rw [h.1, h.2.1, h.2.2.1, h.2.2.2.1, h.2.2.2.2]
  exact g
/-- a new table; the old one is saved -/
def uT (X : LM) (np : Nat) (t : TB) : LM := (X.1, X.2.1, X.2.2.1, (np, t), (true, xTb X), X.2.2.2.2.2)
theorem wf_uT {X : LM} (w : wf X) {np : Nat} {t : TB} (hn : np ≤ 60) (hle : xNp X ≤ np) (ht : tabOk (xNc X) (PX X) t) (hp : ∀ q, tTh t q = true → q < np) : wf (uT X np t) := ⟨w.1, w.2.1, w.2.2.1, w.2.2.2.1, ⟨hn, ht, hp⟩, fun _ => ⟨w.2.2.2.2.1.2.1, fun q hq => by have := w.2.2.2.2.1.2.2 q hq; show q < np; omega⟩, w.2.2.2.2.2.2⟩
/-- what keep leaves -/
def kpost (S : xS) (p : Nat) (qv : Int32) (S' : xS) : Prop := Fx [37, 235, 236, 165, 167] [166, 168] [] [] S S' ∧ S'.1 37 3 = nI p ∧ S'.1 37 4 = qv ∧ S'.1 37 5 = 1 ∧ S'.1 37 6 = S.1 37 6 ∧ entEq S p S' 60 ∧ (∀ q, q < 60 → qv = nI q → entEq S q S' 61) ∧ zst S'
theorem entEq_cent {S S' : xS} {a b e : Nat} {t : TB} (h : entEq S a S' b) (hb : b < 65) (g : cent S a t e) : cent S' b t e := by
  obtain ⟨h1, h2, h3⟩ := h
  refine ⟨by rw [h1 1 (Or.inl rfl)]; exact g.1, fun q => ?_⟩
  have := g.2 q
  refine ⟨by rw [h1 2 (Or.inr (Or.inl rfl))]; exact this.1, by rw [h1 3 (Or.inr (Or.inr rfl))]; exact this.2.1, hb, this.2.2.2.1, by rw [h2]; exact this.2.2.2.2.1, fun i hi => ?_⟩
  have l := this.2.2.2.1
  rw [h3 i (by omega)]
  exact this.2.2.2.2.2 i hi
theorem cent_fx {fs is ls ds : List Nat} {S S' : xS} {a e : Nat} {t : TB} (g : cent S a t e) (hx : Fx fs is ls ds S S') (h1 : 175 + a ∉ fs) (h2 : 45 + 2 * a ∉ fs) (h3 : 46 + 2 * a ∉ is) : cent S' a t e := ⟨by rw [hx.1 _ h1]; exact g.1, fun q => by have := g.2 q; rw [hx.1 _ h1]; exact ⟨this.1, this.2.1, this.2.2.fx hx h2 h3⟩⟩
theorem cpt_fx {fs is ls ds : List Nat} {S S' : xS} {s : Nat} {P : Pt} (g : cpt S s P) (hx : Fx fs is ls ds S S') (h1 : 35 ∉ ls) (h2 : 34 ∉ ds) : cpt S' s P := by
  obtain ⟨a1, a2, a3, a4, a5, f, k, a6, a7⟩ := g
  exact ⟨a1, by rw [hx.2.2.2 _ h2]; exact a2, by rw [hx.2.2.2 _ h2]; exact a3, a4, a5, f, k, fun i hi => by rw [hx.2.2.1 _ h1]; exact a6 i hi, a7⟩
theorem bI01 (b : Bool) : bI b = 0 ∨ bI b = 1 := bI_01 b
theorem RC_mut {S S1 S2 : xS} {X : LM} (h : RC S X) {p q : Nat} (hp : p < 60) (hq : q < 60) {qv : Int32} (hqv : (qv = -1 ∧ q = p) ∨ (qv = nI q ∧ q ≠ p)) (k : kpost S p qv S1) (x2 : Fx [37, 36, 175 + p, 45 + 2 * p, 175 + q, 45 + 2 * q, 171, 173] [46 + 2 * p, 46 + 2 * q, 172, 174] [364] [] S1 S2) (ff : ∀ f, f ≠ 6 → S2.1 37 f = S1.1 37 f) {np : Nat} (n6 : S2.1 37 6 = nI np) {t : TB} (ag : ∀ e, e ≠ p → e ≠ q → tAg (xTb X) t e) (ep : cent S2 p t p) (eq : cent S2 q t q) : RC S2 (uT X np t) := by
  obtain ⟨x1, k3, k4, k5, k6, k7, k8, kz⟩ := k
  obtain ⟨⟨p1, p2, T, p3⟩, d, ⟨w1, w2, w3⟩, ⟨n1, n2⟩, z, -, h1, h2⟩ := h
  have c1 : ∀ {a e : Nat} {t : TB}, a < 60 → cent S a t e → cent S1 a t e := fun {a e t} ha g => cent_fx g x1 (by simp; omega) (by simp; omega) (by simp; omega)
  have c2 : ∀ {a e : Nat} {t : TB}, a < 62 → a ≠ p → a ≠ q → cent S1 a t e → cent S2 a t e := fun {a e t} ha n1 n2 g => cent_fx g x2 (by simp; omega) (by simp; omega) (by simp; omega)
  have f1 : ∀ r, r ∉ [37, 235, 236, 165, 167] → r ∉ [37, 36, 175 + p, 45 + 2 * p, 175 + q, 45 + 2 * q, 171, 173] → S2.1 r = S.1 r := fun r a b => by rw [x2.1 r b, x1.1 r a]
  have cp : ∀ {s : Nat} {P : Pt}, cpt S s P → cpt S2 s P := fun {s P} g => cpt_fx (cpt_fx g x1 (by simp) (by simp)) x2 (by simp) (by simp)
  have keptP : cent S2 60 (xTb X) p := c2 (by decide) (by omega) (by omega) (entEq_cent k7 (by decide) (n2 p hp))
  refine ⟨⟨by rw [f1 32 (by simp) (by simp; omega)]; exact p1, fun s hs => ?_, T, cp p3⟩, (d.fx x1 (by simp) (by simp)).fx x2 (by simp; omega) (by simp; omega), ⟨by rw [f1 31 (by simp) (by simp; omega)]; exact w1, by rw [f1 31 (by simp) (by simp; omega)]; exact w2, by rw [f1 31 (by simp) (by simp; omega)]; exact w3⟩, ⟨n6, fun e he => ?_⟩, fun a ha => ?_, ⟨by rw [ff 5 (by decide), k5]; rfl, fun _ => ⟨p, q, hp, by rw [ff 3 (by decide), k3], ?_, keptP, fun hne => ?_, fun e he e1 e2 => c2 (by omega) e1 e2 (c1 he (n2 e he))⟩⟩, by rw [f1 41 (by simp) (by simp; omega)]; exact h1, fun k hk => by rw [x2.2.1 44 (by simp; omega), x1.2.1 44 (by simp)]; exact h2 k hk⟩
  · have := p2 s hs
    rw [x2.2.2.1 33 (by simp), x1.2.2.1 33 (by simp)]
    exact ⟨this.1, this.2.1, cp this.2.2⟩
  · by_cases e1 : e = p
    · subst e1; exact ep
    · by_cases e2 : e = q
      · subst e2; exact eq
      · exact cent_ag (ag e e1 e2) (c2 (by omega) e1 e2 (c1 he (n2 e he)))
  · by_cases e1 : a = p
    · subst e1; rw [ep.1]; exact bI01 _
    · by_cases e2 : a = q
      · subst e2; rw [eq.1]; exact bI01 _
      · rw [x2.1 (175 + a) (by simp; omega)]; exact kz a ha
  · rw [ff 4 (by decide), k4]
    rcases hqv with ⟨a, b⟩ | ⟨a, b⟩
    · exact Or.inl ⟨a, b⟩
    · exact Or.inr ⟨a, hq, b⟩
  · rcases hqv with ⟨a, b⟩ | ⟨a, b⟩
    · exact absurd b hne
    · exact c2 (by decide) (by omega) (by omega) (entEq_cent (k8 q hq a) (by decide) (n2 q hq))
