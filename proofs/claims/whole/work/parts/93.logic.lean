/-! ===== the logical state of both sides ===== -/
abbrev TB : Type := (Nat → Bool) × (Nat → Nat) × (Nat → Int32) × (Nat → Nat) × (Nat → Nat → Nat)
def tTh (t : TB) : Nat → Bool := t.1
def tLy (t : TB) : Nat → Nat := t.2.1
def tOw (t : TB) : Nat → Int32 := t.2.2.1
def tSz (t : TB) : Nat → Nat := t.2.2.2.1
def tRg (t : TB) : Nat → Nat → Nat := t.2.2.2.2
/-- corners (how many, bits of x, of y); drawn; where, sure, edge; parcels made, table; may undo, saved table; hull -/
abbrev LM : Type := (Nat × (Nat → Int64) × (Nat → Int64)) × (Nat × (Nat → Nat)) × (Int32 × Int32 × Int32) × (Nat × TB) × (Bool × TB) × (Nat × (Nat → Nat))
def xNc (X : LM) : Nat := X.1.1
def xBx (X : LM) : Nat → Int64 := X.1.2.1
def xBy (X : LM) : Nat → Int64 := X.1.2.2
def xNd (X : LM) : Nat := X.2.1.1
def xDr (X : LM) : Nat → Nat := X.2.1.2
def xWh (X : LM) : Int32 := X.2.2.1.1
def xSu (X : LM) : Int32 := X.2.2.1.2.1
def xEd (X : LM) : Int32 := X.2.2.1.2.2
def xNp (X : LM) : Nat := X.2.2.2.1.1
def xTb (X : LM) : TB := X.2.2.2.1.2
def xCu (X : LM) : Bool := X.2.2.2.2.1.1
def xSv (X : LM) : TB := X.2.2.2.2.1.2
def xHn (X : LM) : Nat := X.2.2.2.2.2.1
def xHr (X : LM) : Nat → Nat := X.2.2.2.2.2.2
def PX (X : LM) : Nat → Pt := fun s => (zc (xBx X s), zc (xBy X s))
/-- a number as it is kept -/
def num (b : Int64) : Prop := isNum b = true ∧ plainB b = b
def tabOk (nc : Nat) (P : Nat → Pt) (t : TB) : Prop := ∀ q, tTh t q = true → tLy t q < 4 ∧ good nc P (tSz t q) (tRg t q)
def wf (X : LM) : Prop := xNc X ≤ 200 ∧ (∀ s, s < xNc X → num (xBx X s) ∧ num (xBy X s)) ∧ (∀ s t, s < xNc X → t < xNc X → xBx X s = xBx X t → xBy X s = xBy X t → s = t) ∧ (xNd X ≤ 20 ∧ ∀ i, i < xNd X → xDr X i < xNc X) ∧ (xNp X ≤ 60 ∧ tabOk (xNc X) (PX X) (xTb X) ∧ ∀ q, tTh (xTb X) q = true → q < xNp X) ∧ (xCu X = true → tabOk (xNc X) (PX X) (xSv X) ∧ ∀ q, tTh (xSv X) q = true → q < xNp X) ∧ xHn X ≤ 200 ∧ ∀ k, k < xHn X → xHr X k < xNc X
/-- entry a of the class -/
def cent (S : xS) (a : Nat) (t : TB) (e : Nat) : Prop := S.1 (175 + a) 1 = bI (tTh t e) ∧ (tTh t e = true → S.1 (175 + a) 2 = nI (tLy t e) ∧ S.1 (175 + a) 3 = tOw t e ∧ crg S a (tSz t e) (tRg t e))
def RCk (S : xS) (X : LM) : Prop := S.1 37 5 = bI (xCu X) ∧ (xCu X = true → ∃ p q, p < 60 ∧ S.1 37 3 = nI p ∧ ((S.1 37 4 = -1 ∧ q = p) ∨ (S.1 37 4 = nI q ∧ q < 60 ∧ q ≠ p)) ∧ cent S 60 (xSv X) p ∧ (q ≠ p → cent S 61 (xSv X) q) ∧ ∀ e, e < 60 → e ≠ p → e ≠ q → cent S e (xSv X) e)
def RCp (S : xS) (X : LM) : Prop := S.1 32 4 = nI (xNc X) ∧ (∀ s, s < xNc X → S.2.2.1 33 (2 * s) = xBx X s ∧ S.2.2.1 33 (2 * s + 1) = xBy X s ∧ cpt S s (PX X s)) ∧ ∃ T, cpt S 200 T
def RC (S : xS) (X : LM) : Prop := RCp S X ∧ crg S 62 (xNd X) (xDr X) ∧ (S.1 31 8 = xWh X ∧ S.1 31 9 = xSu X ∧ S.1 31 10 = xEd X) ∧ (S.1 37 6 = nI (xNp X) ∧ ∀ e, e < 60 → cent S e (xTb X) e) ∧ zst S ∧ RCk S X ∧ S.1 41 4 = nI (xHn X) ∧ ∀ k, k < xHn X → S.2.1 44 k = nI (xHr X k)
/-- entry e of the reference, in the rows r (there), and those behind it -/
def ment (S : xS) (r : Nat) (t : TB) (e : Nat) : Prop := S.2.1 r e = bI (tTh t e) ∧ (tTh t e = true → S.2.1 (r + 1) e = nI (tLy t e) ∧ S.2.1 (r + 2) e = tOw t e ∧ S.2.1 (r + 3) e = nI (tSz t e) ∧ ∀ i, i < tSz t e → S.2.1 (r + 4) (12 * e + i) = nI (tRg t e i))
def RMp (S : xS) (X : LM) : Prop := S.1 0 4 = nI (xNc X) ∧ (∀ s, s < xNc X → S.2.2.1 1 s = xBx X s ∧ S.2.2.1 2 s = xBy X s ∧ pt S s (scP 2 (PX X s))) ∧ ∃ T, pt S 200 (scP 2 T)
def RM (S : xS) (X : LM) : Prop := RMp S X ∧ (S.1 0 11 = nI (xNd X) ∧ ∀ i, i < xNd X → S.2.1 9 i = nI (xDr X i)) ∧ (S.1 0 12 = xWh X ∧ S.1 0 8 = xSu X ∧ S.1 0 34 = xEd X) ∧ (S.1 0 16 = nI (xNp X) ∧ ∀ e, e < xNp X → ment S 12 (xTb X) e) ∧ (S.1 0 22 = bI (xCu X) ∧ (∀ j, j < 60 → S.2.1 17 j = 0 ∨ S.2.1 17 j = 1) ∧ (xCu X = true → ∀ e, e < 60 → ment S 17 (xSv X) e)) ∧ S.1 0 35 = nI (xHn X) ∧ ∀ k, k < xHn X → S.2.1 24 k = nI (xHr X k)
/-- only the class's places change; only the reference's -/
def frC (S S' : xS) : Prop := ∀ p, p < 31 → S'.1 p = S.1 p ∧ S'.2.1 p = S.2.1 p ∧ S'.2.2.1 p = S.2.2.1 p
def frM (S S' : xS) : Prop := (∀ p, 31 ≤ p → S'.1 p = S.1 p ∧ S'.2.1 p = S.2.1 p ∧ S'.2.2.1 p = S.2.2.1 p) ∧ S'.2.2.2 34 = S.2.2.2 34
theorem frC.rf (S : xS) : frC S S := fun _ _ => ⟨rfl, rfl, rfl⟩
theorem frM.rf (S : xS) : frM S S := ⟨fun _ _ => ⟨rfl, rfl, rfl⟩, rfl⟩
theorem frC.tr {S S1 S2 : xS} (h : frC S S1) (g : frC S1 S2) : frC S S2 := fun p hp => ⟨(g p hp).1.trans (h p hp).1, (g p hp).2.1.trans (h p hp).2.1, (g p hp).2.2.trans (h p hp).2.2⟩
theorem frM.tr {S S1 S2 : xS} (h : frM S S1) (g : frM S1 S2) : frM S S2 := ⟨fun p hp => ⟨(g.1 p hp).1.trans (h.1 p hp).1, (g.1 p hp).2.1.trans (h.1 p hp).2.1, (g.1 p hp).2.2.trans (h.1 p hp).2.2⟩, g.2.trans h.2⟩
theorem Fx.frC {fs is ls ds : List Nat} {S S' : xS} (h : Fx fs is ls ds S S') (a : ∀ p, p ∈ fs → 31 ≤ p) (b : ∀ p, p ∈ is → 31 ≤ p) (c : ∀ p, p ∈ ls → 31 ≤ p) : frC S S' := fun p hp => ⟨h.1 p (fun q => by have := a p q; omega), h.2.1 p (fun q => by have := b p q; omega), h.2.2.1 p (fun q => by have := c p q; omega)⟩
theorem Fx.frM {fs is ls ds : List Nat} {S S' : xS} (h : Fx fs is ls ds S S') (a : ∀ p, p ∈ fs → p < 31) (b : ∀ p, p ∈ is → p < 31) (c : ∀ p, p ∈ ls → p < 31) (d : 34 ∉ ds) : frM S S' := ⟨fun p hp => ⟨h.1 p (fun q => by have := a p q; omega), h.2.1 p (fun q => by have := b p q; omega), h.2.2.1 p (fun q => by have := c p q; omega)⟩, h.2.2.2 34 d⟩
theorem Lx.frC {ps : List Nat} {S S' : xS} (h : Lx ps S S') (c : ∀ p, p ∈ ps → 31 ≤ p) : frC S S' := fun p hp => ⟨by rw [h.1], by rw [h.2.1], h.2.2.2 p (fun q => by have := c p q; omega)⟩
theorem Lx.frM {ps : List Nat} {S S' : xS} (h : Lx ps S S') (c : ∀ p, p ∈ ps → p < 31) : frM S S' := ⟨fun p hp => ⟨by rw [h.1], by rw [h.2.1], h.2.2.2 p (fun q => by have := c p q; omega)⟩, by rw [h.2.2.1]⟩
theorem Gx.frM {S S' : xS} (h : Gx S S') : frM S S' := ⟨fun p hp => ⟨h.1 p (by omega), h.2.2.1 p (by omega), h.2.2.2.2.1 p (by simp; omega)⟩, by rw [h.2.2.2.1]⟩
theorem pt.fr {S S' : xS} (h : frC S S') {s : Nat} {P : Pt} (g : pt S s P) : pt S' s P := by
  obtain ⟨a, b, c, d, e⟩ := g
  exact ⟨fun i hi => by rw [(h 3 (by decide)).2.2]; exact a i hi, fun i hi => by rw [(h 4 (by decide)).2.2]; exact b i hi, c, d, e⟩
theorem cpt.fr {S S' : xS} (h : frM S S') {s : Nat} {P : Pt} (g : cpt S s P) : cpt S' s P := by
  obtain ⟨a1, a2, a3, a4, a5, f, k, a6, a7⟩ := g
  refine ⟨a1, by rw [h.2]; exact a2, by rw [h.2]; exact a3, a4, a5, f, k, fun i hi => ?_, a7⟩
  rw [(h.1 35 (by decide)).2.2]
  exact a6 i hi
theorem crg.fr {S S' : xS} (h : frM S S') {r n : Nat} {c : Nat → Nat} (g : crg S r n c) : crg S' r n c := ⟨g.1, g.2.1, by rw [(h.1 _ (by omega)).1]; exact g.2.2.1, fun i hi => by rw [(h.1 _ (by omega)).2.1]; exact g.2.2.2 i hi⟩
theorem cent.fr {S S' : xS} (h : frM S S') {a e : Nat} {t : TB} (g : cent S a t e) : cent S' a t e := ⟨by rw [(h.1 _ (by omega)).1]; exact g.1, fun q => by have := g.2 q; exact ⟨by rw [(h.1 _ (by omega)).1]; exact this.1, by rw [(h.1 _ (by omega)).1]; exact this.2.1, this.2.2.fr h⟩⟩
theorem ment.fr {S S' : xS} (h : frC S S') {r e : Nat} {t : TB} (hr : r + 4 < 31) (g : ment S r t e) : ment S' r t e := ⟨by rw [(h _ (by omega)).2.1]; exact g.1, fun q => by have := g.2 q; exact ⟨by rw [(h _ (by omega)).2.1]; exact this.1, by rw [(h _ (by omega)).2.1]; exact this.2.1, by rw [(h _ (by omega)).2.1]; exact this.2.2.1, fun i hi => by rw [(h _ (by omega)).2.1]; exact this.2.2.2 i hi⟩⟩
/-- what the reference does leaves the class's part as it was, and the other way round -/
theorem RC.fr {S S' : xS} {X : LM} (h : frM S S') (g : RC S X) : RC S' X := by
  obtain ⟨⟨p1, p2, T, p3⟩, d, ⟨w1, w2, w3⟩, ⟨n1, n2⟩, z, ⟨k1, k2⟩, h1, h2⟩ := g
  refine ⟨⟨by rw [(h.1 _ (by decide)).1]; exact p1, fun s hs => ?_, T, p3.fr h⟩, d.fr h, ⟨by rw [(h.1 _ (by decide)).1]; exact w1, by rw [(h.1 _ (by decide)).1]; exact w2, by rw [(h.1 _ (by decide)).1]; exact w3⟩, ⟨by rw [(h.1 _ (by decide)).1]; exact n1, fun e he => (n2 e he).fr h⟩, fun a ha => by rw [(h.1 _ (by omega)).1]; exact z a ha, ⟨by rw [(h.1 _ (by decide)).1]; exact k1, fun q => ?_⟩, by rw [(h.1 _ (by decide)).1]; exact h1, fun k hk => by rw [(h.1 _ (by decide)).2.1]; exact h2 k hk⟩
  · have := p2 s hs
    exact ⟨by rw [(h.1 _ (by decide)).2.2]; exact this.1, by rw [(h.1 _ (by decide)).2.2]; exact this.2.1, this.2.2.fr h⟩
  · obtain ⟨p, q2, a1, a2, a3, a4, a5, a6⟩ := k2 q
    exact ⟨p, q2, a1, by rw [(h.1 _ (by decide)).1]; exact a2, by rw [(h.1 _ (by decide)).1]; exact a3, a4.fr h, fun w => (a5 w).fr h, fun e x y w => (a6 e x y w).fr h⟩
theorem RM.fr {S S' : xS} {X : LM} (h : frC S S') (g : RM S X) : RM S' X := by
  obtain ⟨⟨p1, p2, T, p3⟩, ⟨d1, d2⟩, ⟨w1, w2, w3⟩, ⟨n1, n2⟩, ⟨k1, k2, k3⟩, h1, h2⟩ := g
  refine ⟨⟨by rw [(h _ (by decide)).1]; exact p1, fun s hs => ?_, T, p3.fr h⟩, ⟨by rw [(h _ (by decide)).1]; exact d1, fun i hi => by rw [(h _ (by decide)).2.1]; exact d2 i hi⟩, ⟨by rw [(h _ (by decide)).1]; exact w1, by rw [(h _ (by decide)).1]; exact w2, by rw [(h _ (by decide)).1]; exact w3⟩, ⟨by rw [(h _ (by decide)).1]; exact n1, fun e he => (n2 e he).fr h (by decide)⟩, ⟨by rw [(h _ (by decide)).1]; exact k1, fun j hj => by rw [(h _ (by decide)).2.1]; exact k2 j hj, fun q e he => (k3 q e he).fr h (by decide)⟩, by rw [(h _ (by decide)).1]; exact h1, fun k hk => by rw [(h _ (by decide)).2.1]; exact h2 k hk⟩
  have := p2 s hs
  exact ⟨by rw [(h _ (by decide)).2.2]; exact this.1, by rw [(h _ (by decide)).2.2]; exact this.2.1, this.2.2.fr h⟩
