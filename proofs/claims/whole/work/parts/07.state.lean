/-! ===== the shape: which kind stands at each place (below 10 the objects' kinds, 10 int rows, 11 long, 12 double, 13 boolean, 14 and 15 rows of references) ===== -/
def kdL : List Nat := [9, 11, 11, 11, 11, 11, 11, 11, 11, 10, 10, 10, 13, 10, 10, 10, 10, 13, 10, 10, 10, 10, 10, 10, 10, 10, 13, 11, 11, 11, 11, 8, 2, 11, 12, 11, 5, 3, 14, 6, 15, 0, 10, 13, 10]
def lnL : List Nat := [0, 202, 202, 1010, 1010, 5, 5, 10, 10, 20, 24, 24, 60, 60, 60, 60, 720, 60, 60, 60, 60, 720, 16, 12, 402, 200, 200, 600, 10, 10, 600, 0, 0, 402, 402, 1608, 0, 0, 60, 0, 60, 0, 200, 200, 201]
def rfM : List Nat := [1, 2, 3, 4, 0, 5, 6, 7, 0, 8, 9, 0, 0, 10, 0, 11, 0, 12, 13, 14, 15, 16, 0, 0, 17, 18, 19, 20, 21, 0, 0, 22, 0, 23, 0, 0, 24, 25, 26, 27, 28, 29, 30]
def kd (p : Nat) : Nat := if p < 45 then kdL.getD p 0 else if p < 175 then (if (p - 45) % 2 = 0 then 4 else 10) else if p < 237 then 1 else (if (p - 237) % 2 = 0 then 7 else 11)
def ln (p : Nat) : Nat := if p < 45 then lnL.getD p 0 else if p < 175 then 24 else 8
def rf (p f : Nat) : Nat :=
  if p = 0 then rfM.getD f 0
  else if p = 31 then [32, 36, 37, 39, 41, 169, 171, 173].getD f 0
  else if p = 32 then [33, 34, 35, 363].getD f 0
  else if p = 36 then 32
  else if p = 37 then [38, 235, 236].getD f 0
  else if p = 38 then 175 + f
  else if p = 39 then [40, 357, 359, 361].getD f 0
  else if p = 40 then 237 + 2 * f
  else if p = 41 then [42, 43, 44].getD f 0
  else if 175 ≤ p ∧ p < 237 then 45 + 2 * (p - 175)
  else p + 1
def fdL : List (List Bool) := [[true, true, true, false, false], [true, false, false, false], [true, true, true, true, false], [true, true, true, false, false, false, false], [true, false], [true, false], [true, true, true, true], [true], [true, true, true, true, true, true, true, true, false, false, false], [true, true, true, true, false, true, true, true, false, true, true, false, false, true, false, true, false, true, true, true, true, true, false, false, true, true, true, true, true, false, false, true, false, true, false, false, true, true, true, true, true, true, true]]
def nf (c : Nat) : Nat := (fdL.getD c []).length
def isR (c f : Nat) : Bool := (fdL.getD c []).getD f false
abbrev xS : Type := (Nat → Nat → Int32) × (Nat → Nat → Int32) × (Nat → Nat → Int64) × (Nat → Nat → UInt64)
abbrev sF (S : xS) : Nat → Nat → Int32 := S.1
abbrev sI (S : xS) : Nat → Nat → Int32 := S.2.1
abbrev sL (S : xS) : Nat → Nat → Int64 := S.2.2.1
abbrev sD (S : xS) : Nat → Nat → UInt64 := S.2.2.2
def rw1 {α : Type} (f : Nat → α) (p : Nat) (r : α) : Nat → α := fun q => if q = p then r else f q
theorem rw1_same {α : Type} {f : Nat → α} {p : Nat} {r : α} : rw1 f p r p = r := by simp [rw1]
theorem rw1_ne {α : Type} {f : Nat → α} {p q : Nat} {r : α} (h : q ≠ p) : rw1 f p r q = f q := by simp [rw1, h]
def setF (S : xS) (p : Nat) (r : Nat → Int32) : xS := (rw1 S.1 p r, S.2)
def setI (S : xS) (p : Nat) (r : Nat → Int32) : xS := (S.1, rw1 S.2.1 p r, S.2.2)
def setL (S : xS) (p : Nat) (r : Nat → Int64) : xS := (S.1, S.2.1, rw1 S.2.2.1 p r, S.2.2.2)
def setD (S : xS) (p : Nat) (r : Nat → UInt64) : xS := (S.1, S.2.1, S.2.2.1, rw1 S.2.2.2 p r)
def sFs (c p : Nat) (S : xS) : List Value := (List.range (nf c)).map (fun f => if isR c f then .ref (rf p f) else .int (S.1 p f))
def xwS (S : xS) : xW := fun p =>
  if kd p < 10 then .inr (kd p, sFs (kd p) p S)
  else if kd p = 10 then .inl (0, ln p, .inl (S.2.1 p))
  else if kd p = 13 then .inl (3, ln p, .inl (S.2.1 p))
  else if kd p = 11 then .inl (1, ln p, .inr (.inl (S.2.2.1 p)))
  else if kd p = 12 then .inl (2, ln p, .inr (.inr (.inr (.inl (S.2.2.2 p)))))
  else .inl (kd p - 10, ln p, .inr (.inr (.inr (.inr (fun j => some (rf p j))))))
def sQ (Q : Option Value → xS → Prop) : Option Value → xW → Prop := fun r w' => ∃ S', w' = xwS S' ∧ Q r S'
theorem xwS_obj {S : xS} {p c : Nat} (h : kd p = c) (hc : c < 10) : xwS S p = .inr (c, sFs c p S) := by subst h; simp [xwS, hc]
theorem xwS_i {S : xS} {p : Nat} (h : kd p = 10) : xwS S p = .inl (0, ln p, .inl (S.2.1 p)) := by simp [xwS, h]
theorem xwS_z {S : xS} {p : Nat} (h : kd p = 13) : xwS S p = .inl (3, ln p, .inl (S.2.1 p)) := by simp [xwS, h]
theorem xwS_l {S : xS} {p : Nat} (h : kd p = 11) : xwS S p = .inl (1, ln p, .inr (.inl (S.2.2.1 p))) := by simp [xwS, h]
theorem xwS_d {S : xS} {p : Nat} (h : kd p = 12) : xwS S p = .inl (2, ln p, .inr (.inr (.inr (.inl (S.2.2.2 p))))) := by simp [xwS, h]
theorem xwS_r {S : xS} {p t : Nat} (h : kd p = t) (ht : t = 14 ∨ t = 15) : xwS S p = .inl (t - 10, ln p, .inr (.inr (.inr (.inr (fun j => some (rf p j)))))) := by rcases ht with rfl | rfl <;> simp [xwS, h]
theorem sFs_at {c p f : Nat} {S : xS} (h : f < nf c) : (sFs c p S)[f]? = some (if isR c f then .ref (rf p f) else .int (S.1 p f)) := by
  unfold sFs
  rw [List.getElem?_map, List.getElem?_range h]
  rfl
theorem sFs_set {c p f : Nat} {S : xS} {x : Int32} (_ : f < nf c) (hr : isR c f = false) : (sFs c p S).set f (.int x) = sFs c p (setF S p (upd (S.1 p) f x)) := by
  apply List.ext_getElem?
  intro j
  rw [List.getElem?_set]
  have hlen : (sFs c p S).length = nf c := by simp [sFs]
  by_cases hj : j < nf c
  · rw [sFs_at hj, sFs_at hj, hlen]
    by_cases hk : f = j
    · subst hk; simp [hj, hr, setF, rw1, upd]
    · have hk' : ¬ j = f := fun h => hk h.symm
      simp [hk, hk', setF, rw1, upd]
  · have h1 : (sFs c p S)[j]? = none := List.getElem?_eq_none (by rw [hlen]; omega)
    have h2 : (sFs c p (setF S p (upd (S.1 p) f x)))[j]? = none := List.getElem?_eq_none (by simp [sFs]; omega)
    rw [h1, h2, hlen]
    by_cases hk : f = j
    · subst hk; simp [hj]
    · simp [hk]
theorem xup_F {S : xS} {p c f : Nat} {x : Int32} (h : kd p = c) (hc : c < 10) (hf : f < nf c) (hr : isR c f = false) : xup (xwS S) p (.inr (c, (sFs c p S).set f (.int x))) = xwS (setF S p (upd (S.1 p) f x)) := by
  funext q
  by_cases hq : q = p
  · subst hq
    rw [xup_same, xwS_obj h hc, sFs_set hf hr]
  · rw [xup_ne hq]
    have : ∀ c, sFs c q (setF S p (upd (S.1 p) f x)) = sFs c q S := by intro c; simp [sFs, setF, rw1, hq]
    simp only [xwS, this]
    rfl
theorem xup_i {S : xS} {p : Nat} {g : Nat → Int32} (h : kd p = 10) : xup (xwS S) p (.inl (0, ln p, .inl g)) = xwS (setI S p g) := by
  funext q
  by_cases hq : q = p
  · subst hq
    rw [xup_same]
    simp [xwS, h, setI, rw1]
  · rw [xup_ne hq]
    have h1 : ∀ c, sFs c q (setI S p g) = sFs c q S := by intro c; rfl
    simp only [xwS, setI, rw1, hq, if_false]
    rfl
theorem xup_z {S : xS} {p : Nat} {g : Nat → Int32} (h : kd p = 13) : xup (xwS S) p (.inl (3, ln p, .inl g)) = xwS (setI S p g) := by
  funext q
  by_cases hq : q = p
  · subst hq
    rw [xup_same]
    simp [xwS, h, setI, rw1]
  · rw [xup_ne hq]
    have h1 : ∀ c, sFs c q (setI S p g) = sFs c q S := by intro c; rfl
    simp only [xwS, setI, rw1, hq, if_false]
    rfl
theorem xup_l {S : xS} {p : Nat} {g : Nat → Int64} (h : kd p = 11) : xup (xwS S) p (.inl (1, ln p, .inr (.inl g))) = xwS (setL S p g) := by
  funext q
  by_cases hq : q = p
  · subst hq
    rw [xup_same]
    simp [xwS, h, setL, rw1]
  · rw [xup_ne hq]
    have h1 : ∀ c, sFs c q (setL S p g) = sFs c q S := by intro c; rfl
    simp only [xwS, setL, rw1, hq, if_false]
    rfl
theorem xup_d {S : xS} {p : Nat} {g : Nat → UInt64} (h : kd p = 12) : xup (xwS S) p (.inl (2, ln p, .inr (.inr (.inr (.inl g))))) = xwS (setD S p g) := by
  funext q
  by_cases hq : q = p
  · subst hq
    rw [xup_same]
    simp [xwS, h, setD, rw1]
  · rw [xup_ne hq]
    have h1 : ∀ c, sFs c q (setD S p g) = sFs c q S := by intro c; rfl
    simp only [xwS, setD, rw1, hq, if_false]
    rfl
section SR
variable {M : xM} {pc pc' : Nat} {lv : List (Nat × Value)} {st : List Value} {S : xS} {Q : Option Value → xW → Prop}
theorem s_getr {p ci i f : Nat} (hd : xAt M pc (.getfield i) 3 pc') (hF : xFld M.1.cls i ci f) (hk : kd p = ci) (hp : p < xN) (hs : (ci < 10 ∧ f < nf ci) ∧ isR ci f = true) (kk : XP M pc' lv (.ref (rf p f) :: st) (xwS S) Q) : XP M pc lv (.ref p :: st) (xwS S) Q :=
  x_getf hd hF (xwS_obj hk hs.1.1) hp (by rw [sFs_at hs.1.2, hs.2]; rfl) kk
theorem s_geti {p ci i f : Nat} (hd : xAt M pc (.getfield i) 3 pc') (hF : xFld M.1.cls i ci f) (hk : kd p = ci) (hp : p < xN) (hs : (ci < 10 ∧ f < nf ci) ∧ isR ci f = false) (kk : XP M pc' lv (.int (S.1 p f) :: st) (xwS S) Q) : XP M pc lv (.ref p :: st) (xwS S) Q :=
  x_getf hd hF (xwS_obj hk hs.1.1) hp (by rw [sFs_at hs.1.2, hs.2]; rfl) kk
theorem s_puti {p ci i f : Nat} {x : Int32} (hd : xAt M pc (.putfield i) 3 pc') (hF : xFld M.1.cls i ci f) (hFW : xFldW ci f .int) (hk : kd p = ci) (hp : p < xN) (hs : (ci < 10 ∧ f < nf ci) ∧ isR ci f = false) (kk : XP M pc' lv st (xwS (setF S p (upd (S.1 p) f x))) Q) : XP M pc lv (.int x :: .ref p :: st) (xwS S) Q :=
  x_putf hd hF hFW (xwS_obj hk hs.1.1) hp rfl rfl (by simpa [sFs] using hs.1.2) (by rw [xup_F hk hs.1.1 hs.1.2 hs.2]; exact kk)
theorem s_putz {p ci i f : Nat} {x : Int32} (hd : xAt M pc (.putfield i) 3 pc') (hF : xFld M.1.cls i ci f) (hFW : xFldW ci f .boolean) (hk : kd p = ci) (hp : p < xN) (hs : (ci < 10 ∧ f < nf ci) ∧ isR ci f = false) (hx : x = 0 ∨ x = 1) (kk : XP M pc' lv st (xwS (setF S p (upd (S.1 p) f x))) Q) : XP M pc lv (.int x :: .ref p :: st) (xwS S) Q :=
  x_putf hd hF hFW (xwS_obj hk hs.1.1) hp (by rcases hx with rfl | rfl <;> rfl) (by rcases hx with rfl | rfl <;> rfl) (by simpa [sFs] using hs.1.2) (by rw [xup_F hk hs.1.1 hs.1.2 hs.2]; exact kk)
theorem ln_small (p : Nat) : ln p < 2 ^ 31 := by
  unfold ln
  split
  · rename_i h
    have : ∀ p, p < 45 → lnL.getD p 0 < 2 ^ 31 := by decide
    exact this p h
  · split <;> decide
theorem s_iald {a j : Nat} {i : Int32} (hd : xAt M pc .iaload 1 pc') (hk : kd a = 10) (ha : a < xN) (hi : i = nI j) (hj : j < ln a) (kk : XP M pc' lv (.int (S.2.1 a j) :: st) (xwS S) Q) : XP M pc lv (.int i :: .ref a :: st) (xwS S) Q :=
  x_iald hd (xwS_i hk) ha hi hj (ln_small a) kk
theorem s_zald {a j : Nat} {i : Int32} (hd : xAt M pc .baload 1 pc') (hk : kd a = 13) (ha : a < xN) (hi : i = nI j) (hj : j < ln a) (kk : XP M pc' lv (.int (S.2.1 a j) :: st) (xwS S) Q) : XP M pc lv (.int i :: .ref a :: st) (xwS S) Q :=
  x_zald hd (xwS_z hk) ha hi hj (ln_small a) kk
theorem s_lald {a j : Nat} {i : Int32} (hd : xAt M pc .laload 1 pc') (hk : kd a = 11) (ha : a < xN) (hi : i = nI j) (hj : j < ln a) (kk : XP M pc' lv (.long (S.2.2.1 a j) :: st) (xwS S) Q) : XP M pc lv (.int i :: .ref a :: st) (xwS S) Q :=
  x_lald hd (xwS_l hk) ha hi hj (ln_small a) kk
theorem s_dald {a j : Nat} {i : Int32} (hd : xAt M pc .daload 1 pc') (hk : kd a = 12) (ha : a < xN) (hi : i = nI j) (hj : j < ln a) (kk : XP M pc' lv (.double (S.2.2.2 a j) :: st) (xwS S) Q) : XP M pc lv (.int i :: .ref a :: st) (xwS S) Q :=
  x_dald hd (xwS_d hk) ha hi hj (ln_small a) kk
theorem s_rald {a j : Nat} {i : Int32} (hd : xAt M pc .aaload 1 pc') (hk : kd a = 14 ∨ kd a = 15) (ha : a < xN) (hi : i = nI j) (hj : j < ln a) (kk : XP M pc' lv (.ref (rf a j) :: st) (xwS S) Q) : XP M pc lv (.int i :: .ref a :: st) (xwS S) Q := by
  rcases hk with hk | hk
  · exact x_rald hd (xwS_r hk (Or.inl rfl)) (Or.inl ⟨rfl, rfl⟩) ha hi hj (ln_small a) rfl kk
  · exact x_rald hd (xwS_r hk (Or.inr rfl)) (Or.inr ⟨rfl, rfl⟩) ha hi hj (ln_small a) rfl kk
theorem s_iast {a j : Nat} {i x : Int32} (hd : xAt M pc .iastore 1 pc') (hk : kd a = 10) (ha : a < xN) (hi : i = nI j) (hj : j < ln a) (kk : XP M pc' lv st (xwS (setI S a (upd (S.2.1 a) j x))) Q) : XP M pc lv (.int x :: .int i :: .ref a :: st) (xwS S) Q :=
  x_iast hd (xwS_i hk) ha hi hj (ln_small a) (by rw [xup_i hk]; exact kk)
theorem s_zast {a j : Nat} {i x : Int32} (hd : xAt M pc .bastore 1 pc') (hk : kd a = 13) (ha : a < xN) (hi : i = nI j) (hj : j < ln a) (hx : x = 0 ∨ x = 1) (kk : XP M pc' lv st (xwS (setI S a (upd (S.2.1 a) j x))) Q) : XP M pc lv (.int x :: .int i :: .ref a :: st) (xwS S) Q :=
  x_zast hd (xwS_z hk) ha hi hj (ln_small a) (by rw [xup_z hk, show vp_nar .boolean x = x from by rcases hx with rfl | rfl <;> rfl]; exact kk)
theorem s_last {a j : Nat} {i : Int32} {x : Int64} (hd : xAt M pc .lastore 1 pc') (hk : kd a = 11) (ha : a < xN) (hi : i = nI j) (hj : j < ln a) (kk : XP M pc' lv st (xwS (setL S a (vp_updL (S.2.2.1 a) j x))) Q) : XP M pc lv (.long x :: .int i :: .ref a :: st) (xwS S) Q :=
  x_last hd (xwS_l hk) ha hi hj (ln_small a) (by rw [xup_l hk]; exact kk)
theorem s_dast {a j : Nat} {i : Int32} {x : UInt64} (hd : xAt M pc .dastore 1 pc') (hk : kd a = 12) (ha : a < xN) (hi : i = nI j) (hj : j < ln a) (kk : XP M pc' lv st (xwS (setD S a (vf_upd (S.2.2.2 a) j x))) Q) : XP M pc lv (.double x :: .int i :: .ref a :: st) (xwS S) Q :=
  x_dast hd (xwS_d hk) ha hi hj (ln_small a) (by rw [xup_d hk]; exact kk)
theorem s_callV {M' : xM} {index n b ci : Nat} {rest As : List Value} {Q' : Option Value → xS → Prop} (hd : xAt M pc (.invokevirtual index) 3 pc') (hL : xLnkV M.1.cls index M' ci n) (hF : xFit M M') (hk : kd b = ci) (hci : ci < 10) (hb : b < xN) (hn : As.length = n) (hst : st = As.reverse ++ .ref b :: rest) (hr : (rest.map fun v => v.category).sum ≤ 8) (hav : (lg_sl (.ref b :: As)).length ≤ M'.2.2.1)
    (hS' : XP M' 0 (lv_args 0 (.ref b :: As)) [] (xwS S) (sQ Q')) (kk : ∀ r S', Q' r S' → XP M pc' lv (r.toList ++ rest) (xwS S') Q) : XP M pc lv st (xwS S) Q :=
  x_callV hd hL hF (xwS_obj hk hci) hb hn hst hr hav hS' (fun r w' h => by obtain ⟨S', rfl, h⟩ := h; exact kk r S' h)
theorem s_callS {M' : xM} {index n : Nat} {rest As : List Value} {Q' : Option Value → xS → Prop} (hd : xAt M pc (.invokestatic index) 3 pc') (hL : xLnkS M.1.cls index M' n) (hF : xFit M M') (hn : As.length = n) (hst : st = As.reverse ++ rest) (hr : (rest.map fun v => v.category).sum ≤ 8) (hav : (lg_sl As).length ≤ M'.2.2.1)
    (hS' : XP M' 0 (lv_args 0 As) [] (xwS S) (sQ Q')) (kk : ∀ r S', Q' r S' → XP M pc' lv (r.toList ++ rest) (xwS S') Q) : XP M pc lv st (xwS S) Q :=
  x_callS hd hL hF hn hst hr hav hS' (fun r w' h => by obtain ⟨S', rfl, h⟩ := h; exact kk r S' h)
end SR
/-- a method's contract: called with av in S it answers R and leaves S' -/
def Sp (M : xM) (av : List Value) (S : xS) (Q : Option Value → xS → Prop) : Prop := XP M 0 (lv_args 0 av) [] (xwS S) (sQ Q)
theorem kd_ring {r : Nat} (h : r < 65) : kd (45 + 2 * r) = 4 := by
  unfold kd
  rw [if_neg (by omega), if_pos (by omega), if_pos (by omega)]
theorem kd_corner {r : Nat} (h : r < 65) : kd (46 + 2 * r) = 10 := by
  unfold kd
  rw [if_neg (by omega), if_pos (by omega), if_neg (by omega)]
theorem ln_corner {r : Nat} (h : r < 65) : ln (46 + 2 * r) = 24 := by
  unfold ln
  rw [if_neg (by omega), if_pos (by omega)]
theorem rf_ring {r : Nat} (h : r < 65) : rf (45 + 2 * r) 0 = 46 + 2 * r := by
  unfold rf
  rw [if_neg (by omega), if_neg (by omega), if_neg (by omega), if_neg (by omega), if_neg (by omega), if_neg (by omega), if_neg (by omega), if_neg (by omega), if_neg (by omega), if_neg (by omega)]
  omega
theorem kd_parcel {p : Nat} (h : p < 62) : kd (175 + p) = 1 := by
  unfold kd
  rw [if_neg (by omega), if_neg (by omega), if_pos (by omega)]
theorem rf_parcel {p : Nat} (h : p < 62) : rf (175 + p) 0 = 45 + 2 * p := by
  unfold rf
  rw [if_neg (by omega), if_neg (by omega), if_neg (by omega), if_neg (by omega), if_neg (by omega), if_neg (by omega), if_neg (by omega), if_neg (by omega), if_neg (by omega), if_pos (by omega)]
  omega
theorem kd_wide {v : Nat} (h : v < 64) : kd (237 + 2 * v) = 7 := by
  unfold kd
  rw [if_neg (by omega), if_neg (by omega), if_neg (by omega), if_pos (by omega)]
theorem kd_col {v : Nat} (h : v < 64) : kd (238 + 2 * v) = 11 := by
  unfold kd
  rw [if_neg (by omega), if_neg (by omega), if_neg (by omega), if_neg (by omega)]
theorem ln_col {v : Nat} (h : v < 64) : ln (238 + 2 * v) = 8 := by
  unfold ln
  rw [if_neg (by omega), if_neg (by omega)]
theorem rf_wide {v : Nat} (h : v < 64) : rf (237 + 2 * v) 0 = 238 + 2 * v := by
  unfold rf
  rw [if_neg (by omega), if_neg (by omega), if_neg (by omega), if_neg (by omega), if_neg (by omega), if_neg (by omega), if_neg (by omega), if_neg (by omega), if_neg (by omega), if_neg (by omega)]
  omega
theorem rf_parcels (p : Nat) : rf 38 p = 175 + p := rfl
theorem rf_rest (p : Nat) : rf 40 p = 237 + 2 * p := rfl
