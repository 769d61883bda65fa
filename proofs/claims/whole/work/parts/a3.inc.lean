/-! ===== growing worlds: an object under construction ===== -/
/-- the state behind both constructors -/
def S00 : xS := (fun p f => if (p = 31 ∧ (f = 9 ∨ f = 10)) ∨ (p = 37 ∧ (f = 3 ∨ f = 4)) ∨ (p = 0 ∧ (f = 8 ∨ f = 34)) then -1 else 0, fun _ _ => 0, fun _ _ => 0, fun _ _ => 0)
def w00 : xW := xwS S00
theorem pi_inj {p q : Nat} (hp : p < 365) (hq : q < 365) (h : piN p = piN q) : p = q := by
  have a := (ro_pi p hp).1
  have b := (ro_pi q hq).1
  rw [← a, ← b, h]
def fil (G : xW) (a b : Nat) (w0 w : xW) : Prop := ∀ q, q < 365 → w q = if a ≤ piN q ∧ piN q < b then G q else w0 q
def inc (G : xW) (x ci : Nat) (fs : List Value) (N : Nat) (w0 w : xW) : Prop := w x = .inr (ci, fs) ∧ ∀ q, q < 365 → q ≠ x → w q = if piN x < piN q ∧ piN q < N then G q else w0 q
theorem inc_start {G : xW} {n ci : Nat} {fs : List Value} {w : xW} (hn : n < 365) (h : w (roN n) = .inr (ci, fs)) : inc G (roN n) ci fs (n + 1) w w := by
  refine ⟨h, fun q _ _ => ?_⟩
  rw [(pi_ro n hn).1, if_neg (by omega)]
theorem inc_fil {G : xW} {x ci N : Nat} {fs : List Value} {w0 w : xW} (hx : x < 365) (hN : piN x < N) (h : inc G x ci fs N w0 w) (e : G x = .inr (ci, fs)) : fil G (piN x) N w0 w := by
  intro q hq
  by_cases z : q = x
  · subst z
    rw [if_pos ⟨Nat.le_refl _, hN⟩, h.1, e]
  · rw [h.2 q hq z]
    have : piN q ≠ piN x := fun e => z (pi_inj hq hx e)
    by_cases y : piN x < piN q ∧ piN q < N
    · rw [if_pos y, if_pos ⟨by omega, y.2⟩]
    · rw [if_neg y, if_neg (by omega)]
theorem inc_put {G : xW} {x ci N : Nat} {fs : List Value} {w0 w : xW} (fs' : List Value) (h : inc G x ci fs N w0 w) : inc G x ci fs' N w0 (xup w x (.inr (ci, fs'))) := by
  refine ⟨xup_same, fun q hq z => ?_⟩
  rw [xup_ne z]
  exact h.2 q hq z
theorem inc_cell {G : xW} {x ci N : Nat} {fs : List Value} {w0 w : xW} {c : va_E} (h : inc G x ci fs N w0 w) (hx : x < 365) (hxN : piN x < N) (hN : N < 365) (e : G (roN N) = c) : inc G x ci fs (N + 1) w0 (xup w (roN N) c) := by
  have r := pi_ro N hN
  have hne : x ≠ roN N := fun z => by rw [z, r.1] at hxN; omega
  refine ⟨by rw [xup_ne hne]; exact h.1, fun q hq z => ?_⟩
  by_cases y : q = roN N
  · subst y
    rw [xup_same, r.1, if_pos ⟨hxN, by omega⟩, e]
  · rw [xup_ne y, h.2 q hq z]
    have : piN q ≠ N := fun e => y (by rw [← (ro_pi q hq).1, e])
    by_cases t : piN x < piN q ∧ piN q < N
    · rw [if_pos t, if_pos ⟨t.1, by omega⟩]
    · rw [if_neg t, if_neg (by omega)]
theorem inc_call {G : xW} {x ci N N1 : Nat} {fs : List Value} {w0 w w' : xW} {c : va_E} (h : inc G x ci fs N w0 w) (hx : x < 365) (hxN : piN x < N) (hN : N < 365) (h1 : N < N1) (hG : ∀ q, q < 365 → N ≤ piN q → G q = w00 q) (hf : fil w00 N N1 (xup w (roN N) c) w') : inc G x ci fs N1 w0 w' := by
  have r := pi_ro N hN
  have hne : x ≠ roN N := fun z => by rw [z, r.1] at hxN; omega
  refine ⟨?_, fun q hq z => ?_⟩
  · rw [hf x hx, if_neg (by omega), xup_ne hne]
    exact h.1
  · rw [hf q hq]
    by_cases y : N ≤ piN q ∧ piN q < N1
    · rw [if_pos y, if_pos ⟨by omega, y.2⟩, hG q hq y.1]
    · have : q ≠ roN N := fun e => y (by rw [e, r.1]; omega)
      rw [if_neg y, xup_ne this, h.2 q hq z]
      by_cases t : piN x < piN q ∧ piN q < N
      · rw [if_pos t, if_pos ⟨t.1, by omega⟩]
      · rw [if_neg t, if_neg (by omega)]
/-- a row of references that is filled later -/
theorem inc_row {G : xW} {x ci N a : Nat} {fs : List Value} {w0 w : xW} (r : va_E) (h : inc G x ci fs N w0 w) (ha : a < 365) (hxa : piN x < piN a) (haN : piN a < N) : inc (xup G a r) x ci fs N w0 (xup w a r) := by
  have hne : x ≠ a := fun z => by rw [z] at hxa; omega
  refine ⟨by rw [xup_ne hne]; exact h.1, fun q hq z => ?_⟩
  by_cases y : q = a
  · subst y
    rw [xup_same, xup_same, if_pos ⟨hxa, haN⟩]
  · rw [xup_ne y, xup_ne y]
    exact h.2 q hq z
theorem inc_at {G : xW} {x ci N q : Nat} {fs : List Value} {w0 w : xW} (h : inc G x ci fs N w0 w) (hq : q < 365) (h1 : piN x < piN q) (h2 : piN q < N) : w q = G q := by
  rw [h.2 q hq (fun z => by rw [z] at h1; omega), if_pos ⟨h1, h2⟩]
theorem inc_G {G G' : xW} {x ci N : Nat} {fs : List Value} {w0 w : xW} (h : inc G x ci fs N w0 w) (e : ∀ q, q < 365 → G q = G' q) : inc G' x ci fs N w0 w := ⟨h.1, fun q hq z => by rw [h.2 q hq z, e q hq]⟩
section YI
variable {M : xM} {K : Nat × Nat × Nat × Nat} {pc pc' : Nat} {lv : List (Nat × Value)} {st : List Value} {N sl : Nat} {w w0 G : xW} {x ci : Nat} {fs : List Value} {E : Nat → List (Nat × Value) → List Value → Nat → Nat → xW → Prop}
theorem y_putI {i f : Nat} {v : Value} {ty : FieldType} {fin : Bool} (hd : xAt M pc (.putfield i) 3 pc') (hF : yFld M i ci f ty fin) (hI : inc G x ci fs N w0 w) (hx : x < 365) (hN : piN x < N) (hn : ∀ ad, narrow ty (xv ad v) = xv ad v) (hf : ∀ ad, fits ty (xv ad v) = true) (hfl : f < fs.length) (kk : ∀ w, inc G x ci (fs.set f v) N w0 w → YP M K pc' lv st N sl w E) : YP M K pc lv (v :: .ref x :: st) N sl w E :=
  y_put hd hF hx hN hI.1 hn hf hfl (kk _ (inc_put _ hI))
theorem y_newaI {at' : ArrayType} {t n : Nat} {a0 : vp_A} {ty : FieldType} {k : Int32} (hd : xAt M pc (.newarray at') 2 pc') (hF : yArr at' t n a0 ty) (hk : k = nI n) (hn : n < 2 ^ 31) (hI : inc G x ci fs N w0 w) (hx : x < 365) (hxN : piN x < N) (hN : N < 365) (h1 : N + 1 ≤ K.2.2.1) (h2 : sl + n ≤ K.2.2.2) (e : G (roN N) = .inl (t, a0)) (kk : ∀ w, inc G x ci fs (N + 1) w0 w → YP M K pc' lv (.ref (roN N) :: st) (N + 1) (sl + n) w E) : YP M K pc lv (.int k :: st) N sl w E :=
  y_newa hd hF hk hn hN h1 h2 (kk _ (inc_cell hI hx hxN hN e))
theorem y_newqI {i t n : Nat} {C9 : String} {k : Int32} (hd : xAt M pc (.anewarray i) 3 pc') (hlk : Cond.classLink M.1.cls i C9 ∈ xTs) (ht : (t = 4 ∧ C9 = cPar) ∨ (t = 5 ∧ C9 = cWid)) (hk : k = nI n) (hn : n < 1000) (hI : inc G x ci fs N w0 w) (hx : x < 365) (hxN : piN x < N) (hN : N < 365) (h1 : N + 1 ≤ K.2.2.1) (h2 : sl + n ≤ K.2.2.2) (e : G (roN N) = .inl (t, n, .inr (.inr (.inr (.inr (fun _ => none)))))) (kk : ∀ w, inc G x ci fs (N + 1) w0 w → YP M K pc' lv (.ref (roN N) :: st) (N + 1) (sl + n) w E) : YP M K pc lv (.int k :: st) N sl w E :=
  y_newq hd hlk ht hk hn hN h1 h2 (kk _ (inc_cell hI hx hxN hN e))
/-- new, dup, a constructor without arguments -/
theorem y_makeI {M' : xM} {pc1 pc2 i j c2 n2 N1 sl1 : Nat} {fs2 : List Value} (hd1 : xAt M pc (.new i) 3 pc1) (hd2 : xAt M pc1 .dup 1 pc2) (hd3 : xAt M pc2 (.invokespecial j) 3 pc') (hW : yNew M i c2 fs2 n2) (hL : yLnk M.1.cls j M' 0) (hin : Cond.instanceMethod M'.1 ∈ xTs) (hnm : M'.1.name = "<init>") (hret : M'.2.2.2.1 = none) (hF : xFit M M') (hr : (((.ref (roN N) : Value) :: st).map fun v => v.category).sum ≤ 8) (hav : 1 ≤ M'.2.2.1) (hI : inc G x ci fs N w0 w) (hx : x < 365) (hxN : piN x < N) (hN : N < 365) (h1 : N + 1 ≤ N1 ∧ sl + n2 ≤ sl1) (h2 : N1 ≤ K.2.2.1 ∧ sl1 ≤ K.2.2.2) (h3 : N1 ≤ 365) (hG : ∀ q, q < 365 → N ≤ piN q → G q = w00 q)
    (hS : ∀ w1, w1 (roN N) = .inr (c2, fs2) → ySp M' [.ref (roN N)] (N + 1) (sl + n2) N1 sl1 w1 (fil w00 N N1 w1)) (kk : ∀ w, inc G x ci fs N1 w0 w → YP M K pc' lv (.ref (roN N) :: st) N1 sl1 w E) : YP M K pc lv st N sl w E := by
  refine y_new hd1 hW hN (by omega) (by omega) ?_
  refine y_dup hd2 rfl ?_
  refine y_callI (As := []) (b := roN N) (rest := .ref (roN N) :: st) hd3 hL hin hnm hret hF rfl rfl hr hav h1 h2 h3 (by omega) (hS _ xup_same) (fun w' hw' => ?_)
  exact kk _ (inc_call hI hx hxN hN (by omega) hG hw')
end YI
/-- ring's row of references: what lies beyond its end doesn't matter -/
theorem y_row {M : xM} {K : Nat × Nat × Nat × Nat} {pc : Nat} {lv : List (Nat × Value)} {st : List Value} {N sl : Nat} {w : xW} {E : Nat → List (Nat × Value) → List Value → Nat → Nat → xW → Prop} {a t n : Nat} {f g : Nat → Option Nat} (ha : a < 365) (hw : w a = .inl (t, n, .inr (.inr (.inr (.inr f))))) (hfg : ∀ j, j < n → f j = g j) (kk : YP M K pc lv st N sl (xup w a (.inl (t, n, .inr (.inr (.inr (.inr g)))))) E) : YP M K pc lv st N sl w E := by
  intro p l e R s m args below meth c D tc base scr H locs Z ls C hw0 hS hl hE
  refine kk p l e R s m args below meth c D tc base scr H locs Z ls C ⟨hw0.1, fun k q hq => ?_⟩ hS hl hE
  obtain ⟨hk, rfl⟩ := yws_lt hq
  have h1 := hw0.2 k _ (yws_at hk)
  by_cases z : roN k = a
  · rw [z, hw] at h1
    rw [z, xup_same]
    have e2 : vp_cell (tc t) (xA (yad base scr) (n, .inr (.inr (.inr (.inr g))))) = vp_cell (tc t) (xA (yad base scr) (n, .inr (.inr (.inr (.inr f))))) := by
      show vp_cell (tc t) (n, .inr (.inr (.inr (.inr (fun j => (g j).map (yad base scr)))))) = vp_cell (tc t) (n, .inr (.inr (.inr (.inr (fun j => (f j).map (yad base scr))))))
      unfold vp_cell
      simp only [arrV]
      congr 1
      apply congrArg
      funext j
      simp only [hfg j.val j.isLt]
    have h1 : va_at D vwCl (yad base scr a, .inl (tc t, xA (yad base scr) (n, .inr (.inr (.inr (.inr f)))))) H := h1
    show va_at D vwCl (yad base scr a, .inl (tc t, xA (yad base scr) (n, .inr (.inr (.inr (.inr g)))))) H
    unfold va_at at h1 ⊢
    simp only at h1 ⊢
    rw [e2]
    exact h1
  · rw [xup_ne z]
    exact h1
