/-! ===== close, the class's side ===== -/
/-- the class's scratch: tried, settled, place, the row of sums; and where -/
theorem RC_scr {S S' : xS} {X : LM} (h : RC S X) (hx : Fx [31, 36, 171, 173] [172, 174] [364] [] S S') {wh : Int32} (f9 : S'.1 31 9 = S.1 31 9) (f10 : S'.1 31 10 = S.1 31 10) (f8 : S'.1 31 8 = wh) : RC S' (uS X wh (xSu X) (xEd X)) := by
  obtain ⟨⟨p1, p2, T, p3⟩, d, ⟨w1, w2, w3⟩, ⟨n1, n2⟩, z, ⟨k1, k2⟩, h1, h2⟩ := h
  have c2 : ∀ {a e : Nat} {t : TB}, a < 62 → cent S a t e → cent S' a t e := fun {a e t} ha g => cent_fx g hx (by simp; omega) (by simp; omega) (by simp; omega)
  have cp : ∀ {s : Nat} {P : Pt}, cpt S s P → cpt S' s P := fun {s P} g => cpt_fx g hx (by simp) (by simp)
  refine ⟨⟨by rw [hx.1 32 (by simp)]; exact p1, fun s hs => ?_, T, cp p3⟩, d.fx hx (by simp) (by simp), ⟨f8, by rw [f9]; exact w2, by rw [f10]; exact w3⟩, ⟨by rw [hx.1 37 (by simp)]; exact n1, fun e he => c2 (by omega) (n2 e he)⟩, fun a ha => by rw [hx.1 (175 + a) (by simp; omega)]; exact z a ha, ⟨by rw [hx.1 37 (by simp)]; exact k1, fun q => ?_⟩, by rw [hx.1 41 (by simp)]; exact h1, fun k hk => by rw [hx.2.1 44 (by simp)]; exact h2 k hk⟩
  · have := p2 s hs
    rw [hx.2.2.1 33 (by simp)]
    exact ⟨this.1, this.2.1, cp this.2.2⟩
  · obtain ⟨p, q2, a1, a2, a3, a4, a5, a6⟩ := k2 q
    exact ⟨p, q2, a1, by rw [hx.1 37 (by simp)]; exact a2, by rw [hx.1 37 (by simp)]; exact a3, c2 (by decide) a4, fun w => c2 (by decide) (a5 w), fun e x y w => c2 (by omega) (a6 e x y w)⟩
/-- the table with one more parcel -/
def addT (t : TB) (a l : Nat) (o : Int32) (n : Nat) (c : Nat → Nat) : TB := ((fun e => if e = a then true else t.1 e), (fun e => if e = a then l else t.2.1 e), (fun e => if e = a then o else t.2.2.1 e), (fun e => if e = a then n else t.2.2.2.1 e), fun e => if e = a then c else t.2.2.2.2 e)
theorem add_ag {t : TB} {a l : Nat} {o : Int32} {n : Nat} {c : Nat → Nat} {e : Nat} (h : e ≠ a) : tAg t (addT t a l o n c) e := ⟨if_neg h, if_neg h, if_neg h, if_neg h, if_neg h⟩
theorem add_own (t : TB) (a l : Nat) (o : Int32) (n : Nat) (c : Nat → Nat) : tTh (addT t a l o n c) a = true ∧ tLy (addT t a l o n c) a = l ∧ tOw (addT t a l o n c) a = o ∧ tSz (addT t a l o n c) a = n ∧ tRg (addT t a l o n c) a = c := ⟨if_pos rfl, if_pos rfl, if_pos rfl, if_pos rfl, if_pos rfl⟩
theorem wf_add {X : LM} (w : wf X) (h60 : xNp X < 60) {l : Nat} (hl : l < 4) {o : Int32} {n : Nat} {c : Nat → Nat} (g : good (xNc X) (PX X) n c) : wf (uT X (xNp X + 1) (addT (xTb X) (xNp X) l o n c)) := by
  have own := add_own (xTb X) (xNp X) l o n c
  refine wf_uT w (by omega) (by omega) (fun q hq => ?_) (fun q hq => ?_)
  · by_cases e : q = xNp X
    · subst e; rw [own.2.1, own.2.2.2.1, own.2.2.2.2]; exact ⟨hl, g⟩
    · have a := add_ag (t := xTb X) (l := l) (o := o) (n := n) (c := c) e
      rw [a.1] at hq
      rw [a.2.1, a.2.2.2.1, a.2.2.2.2]; exact w.2.2.2.2.1.2.1 q hq
  · by_cases e : q = xNp X
    · omega
    · have a := add_ag (t := xTb X) (l := l) (o := o) (n := n) (c := c) e
      rw [a.1] at hq
      have := w.2.2.2.2.1.2.2 q hq
      omega
theorem ctab_k {S S' : xS} {X : LM} (w : wf X) (h : RC S X) {p : Nat} {qv : Int32} (k : kpost S p qv S') : ctab S' (xNp X) (xTh X) (xLy X) (tOw (xTb X)) (xSz X) (xRg X) := by
  have t := h.tab w
  refine ⟨by rw [k.2.2.2.2.1]; exact t.1, t.2.1, fun q hq => ?_⟩
  have n60 := t.2.1
  have a := t.2.2 q hq
  refine ⟨by rw [k.1.1 _ (by simp; omega)]; exact a.1, fun z => ?_⟩
  have d := a.2 z
  rw [k.1.1 _ (by simp; omega)]
  exact ⟨d.1, d.2.1, d.2.2.fx k.1 (by simp; omega) (by simp; omega)⟩
def FI (X : LM) (l : Int32) : Prop := (xFi X (xNd X) (xDr X) l (-1)).1 ≠ 0
theorem FI_ft {X : LM} {n : Nat} {c : Nat → Nat} {l b : Int32} (h : (xFi X n c l b).1 = 0) : (xFt X n c).1 = 0 := by
  unfold xFi at h
  by_cases z : (xFt X n c).1 ≠ 0
  · rw [if_pos z] at h; exact absurd h z
  · exact Classical.not_not.mp z
theorem FI_wh {X : LM} {n : Nat} {c : Nat → Nat} {l b : Int32} (h : (xFi X n c l b).1 = 0) : (xFi X n c l b).2 = xWh X := by
  have f0 := FI_ft h
  unfold xFi at h ⊢
  rw [if_neg (fun z => z f0)] at h ⊢
  rcases fst1_cases (xOv X n (xSt X n c) l b) (xNp X) with ⟨k, -, -, -, e⟩ | ⟨-, e⟩
  · simp only [e] at h; exact absurd h (by decide)
  · simp only [e]

theorem c_close_no {S : xS} {X : LM} (w : wf X) (h : RC S X) {kl : Nat} (hl : kl < 4) (o : Int32) (h60 : xNp X < 60) (hf : (xFi X (xNd X) (xDr X) (nI kl) (-1)).1 ≠ 0) : Sp mX8_close [.ref 31, .int (nI kl), .int o] S (fun r S' => r = some (.int (xFi X (xNd X) (xDr X) (nI kl) (-1)).1) ∧ RC S' (uS X (xFi X (xNd X) (xDr X) (nI kl) (-1)).2 (xSu X) (xEd X)) ∧ frC S S') := by
  show XP _ _ [_, _, _] _ _ _
  refine x_iload_n eX8_close_0 rfl ?_
  refine s_callS1 (As := [_]) eX8_close_1 kX8_125 ⟨by decide, by decide⟩ rfl rfl (Nat.le_of_ble_eq_true rfl) (Nat.le_of_ble_eq_true rfl) (sp_X8_isLayer _ _) (fun S_1 h_1 => ?_)
  have h_1 := h_1.symm
  subst h_1
  refine x_if_neT eX8_close_4 (fun c_4 => ?_) (fun c_4 => ?_)
  · refine x_aload_n eX8_close_10 rfl ?_
    refine s_getR (k := 37) eX8_close_11 fX8_28 rfl (by decide) (by decide) rfl ?_
    refine s_callV1 (As := []) eX8_close_14 kX8_128 ⟨by decide, by decide⟩ rfl (by decide) (by decide) rfl rfl (Nat.le_of_ble_eq_true rfl) (Nat.le_of_ble_eq_true rfl) (sp_X3_hasRoom (h.tab w)) (fun S_14 h_14 => ?_)
    have h_14 := h_14.symm
    subst h_14
    refine x_if_neT eX8_close_17 (fun c_17 => ?_) (fun c_17 => ?_)
    · refine x_aload_n eX8_close_23 rfl ?_
      refine x_aload_n eX8_close_24 rfl ?_
      refine s_getR (k := 169) eX8_close_25 fX8_49 rfl (by decide) (by decide) rfl ?_
      refine x_iload_n eX8_close_28 rfl ?_
      refine x_iconst (v := -1) eX8_close_29 (by decide) ?_
      refine s_callV1 (As := [_, _, _]) eX8_close_30 kX8_132 ⟨by decide, by decide⟩ rfl (by decide) (by decide) rfl rfl (Nat.le_of_ble_eq_true rfl) (Nat.le_of_ble_eq_true rfl) (sp_X8_faultIn w h h.2.1 (Or.inl rfl) w.2.2.2.1.2 (nI kl) (-1)) (fun S_30 h_30 => ?_)
      obtain ⟨x1, ef, e8, es⟩ := h_30
      have x1 : Fx [31, 36, 171, 173] [172, 174] [364] [] S S_30 := x1.mono (by simp) (by simp) (by simp) (by simp)
      have g := RC_scr h x1 (ef 9 (by decide)) (ef 10 (by decide)) e8
      have fr1 := x1.frC (by simp) (by simp) (by simp)
      refine x_istore_n (lv' := [_, _, _, _]) eX8_close_33 (by decide) rfl ?_
      refine x_iload_n eX8_close_34 rfl ?_
      refine x_if_eq eX8_close_35 (fun c_35 => ?_) (fun c_35 => ?_)
      · exact absurd c_35 hf
      · refine x_iload_n eX8_close_38 rfl ?_
        exact s_iret eX8_close_39 rfl rfl ⟨rfl, g, fr1⟩
    · exact absurd h60 c_17
  · exact absurd ⟨kl, hl, rfl⟩ c_4
theorem c_close_yes {S : xS} {X : LM} (w : wf X) (h : RC S X) {kl : Nat} (hl : kl < 4) (o : Int32) (h60 : xNp X < 60) (hf : (xFi X (xNd X) (xDr X) (nI kl) (-1)).1 = 0) : Sp mX8_close [.ref 31, .int (nI kl), .int o] S (fun r S' => r = some (.int (nI (xNp X))) ∧ RC S' (uDr (uT X (xNp X + 1) (addT (xTb X) (xNp X) kl o (xNd X) (xSt X (xNd X) (xDr X)))) 0 (fun _ => 0)) ∧ frC S S') := by
  have own := add_own (xTb X) (xNp X) kl o (xNd X) (xSt X (xNd X) (xDr X))
  show XP _ _ [_, _, _] _ _ _
  refine x_iload_n eX8_close_0 rfl ?_
  refine s_callS1 (As := [_]) eX8_close_1 kX8_125 ⟨by decide, by decide⟩ rfl rfl (Nat.le_of_ble_eq_true rfl) (Nat.le_of_ble_eq_true rfl) (sp_X8_isLayer _ _) (fun S_1 h_1 => ?_)
  have h_1 := h_1.symm
  subst h_1
  refine x_if_neT eX8_close_4 (fun c_4 => ?_) (fun c_4 => ?_)
  · refine x_aload_n eX8_close_10 rfl ?_
    refine s_getR (k := 37) eX8_close_11 fX8_28 rfl (by decide) (by decide) rfl ?_
    refine s_callV1 (As := []) eX8_close_14 kX8_128 ⟨by decide, by decide⟩ rfl (by decide) (by decide) rfl rfl (Nat.le_of_ble_eq_true rfl) (Nat.le_of_ble_eq_true rfl) (sp_X3_hasRoom (h.tab w)) (fun S_14 h_14 => ?_)
    have h_14 := h_14.symm
    subst h_14
    refine x_if_neT eX8_close_17 (fun c_17 => ?_) (fun c_17 => ?_)
    · refine x_aload_n eX8_close_23 rfl ?_
      refine x_aload_n eX8_close_24 rfl ?_
      refine s_getR (k := 169) eX8_close_25 fX8_49 rfl (by decide) (by decide) rfl ?_
      refine x_iload_n eX8_close_28 rfl ?_
      refine x_iconst (v := -1) eX8_close_29 (by decide) ?_
      refine s_callV1 (As := [_, _, _]) eX8_close_30 kX8_132 ⟨by decide, by decide⟩ rfl (by decide) (by decide) rfl rfl (Nat.le_of_ble_eq_true rfl) (Nat.le_of_ble_eq_true rfl) (sp_X8_faultIn w h h.2.1 (Or.inl rfl) w.2.2.2.1.2 (nI kl) (-1)) (fun S_30 h_30 => ?_)
      obtain ⟨x1, ef, e8, es⟩ := h_30
      have x1 : Fx [31, 36, 171, 173] [172, 174] [364] [] S S_30 := x1.mono (by simp) (by simp) (by simp) (by simp)
      have g := RC_scr h x1 (ef 9 (by decide)) (ef 10 (by decide)) e8
      have fr1 := x1.frC (by simp) (by simp) (by simp)
      have g1 : RC S_30 X := by
        rw [FI_wh hf] at g; exact g
      refine x_istore_n (lv' := [_, _, _, _]) eX8_close_33 (by decide) rfl ?_
      refine x_iload_n eX8_close_34 rfl ?_
      refine x_if_eq eX8_close_35 (fun c_35 => ?_) (fun c_35 => ?_)
      · refine x_aload_n eX8_close_40 rfl ?_
        refine s_getR (k := 37) eX8_close_41 fX8_28 rfl (by decide) (by decide) rfl ?_
        refine s_geti eX8_close_44 fX8_136 rfl (by decide) (by decide) ?_
        rw [show S_30.1 37 6 = nI (xNp X) from g1.2.2.2.1.1]
        refine x_istore (lv' := [_, _, _, _, _]) eX8_close_47 (by decide) rfl ?_
        refine x_aload_n eX8_close_49 rfl ?_
        refine s_getR (k := 37) eX8_close_50 fX8_28 rfl (by decide) (by decide) rfl ?_
        refine x_iload eX8_close_53 rfl ?_
        refine x_iconst (v := -1) eX8_close_55 (by decide) ?_
        refine s_callV0 (As := [_, _]) eX8_close_56 kX8_137 ⟨by decide, by decide⟩ rfl (by decide) (by decide) rfl rfl (Nat.le_of_ble_eq_true rfl) (Nat.le_of_ble_eq_true rfl) (sp_kpost g1 h60 _ (Or.inl rfl)) (fun S_56 h_56 => ?_)
        have k1 := h_56
        have s64 : crg S_56 64 (xNd X) (xSt X (xNd X) (xDr X)) := (es hf).fx k1.1 (by simp) (by simp)
        refine x_aload_n eX8_close_59 rfl ?_
        refine s_getR (k := 37) eX8_close_60 fX8_28 rfl (by decide) (by decide) rfl ?_
        refine x_iload_n eX8_close_63 rfl ?_
        refine x_iload_n eX8_close_64 rfl ?_
        refine x_aload_n eX8_close_65 rfl ?_
        refine s_getR (k := 173) eX8_close_66 fX8_56 rfl (by decide) (by decide) rfl ?_
        refine s_callV0 (As := [_, _, _]) eX8_close_69 kX8_141 ⟨by decide, by decide⟩ rfl (by decide) (by decide) rfl rfl (Nat.le_of_ble_eq_true rfl) (Nat.le_of_ble_eq_true rfl) (sp_X3_make (ctab_k w g1 k1) h60 s64 (by omega) (nI kl) o) (fun S_69 h_69 => ?_)
        obtain ⟨y, y6, yf, y1, y2, y3, yc⟩ := h_69
        have x2 : Fx [37, 36, 175 + xNp X, 45 + 2 * xNp X, 175 + xNp X, 45 + 2 * xNp X, 171, 173] [46 + 2 * xNp X, 46 + 2 * xNp X, 172, 174] [364] [] S_56 S_69 := y.mono (by simp) (by simp) (by simp) (by simp)
        have ec : cent S_69 (xNp X) (addT (xTb X) (xNp X) kl o (xNd X) (xSt X (xNd X) (xDr X))) (xNp X) := ⟨by rw [own.1, y1]; rfl, fun _ => by rw [own.2.1, own.2.2.1, own.2.2.2.1, own.2.2.2.2]; exact ⟨y2, y3, yc⟩⟩
        have rc := RC_mut g1 (p := xNp X) (q := xNp X) h60 h60 (Or.inl ⟨rfl, rfl⟩) k1 x2 yf y6 (fun e e1 _ => add_ag e1) ec ec
        have fr2 := (fr1.tr (k1.1.frC (by simp) (by simp) (by simp))).tr (x2.frC (by simp; omega) (by simp; omega) (by simp))
        refine x_aload_n eX8_close_72 rfl ?_
        refine s_getR (k := 169) eX8_close_73 fX8_49 rfl (by decide) (by decide) rfl ?_
        refine s_callV0 (As := []) eX8_close_76 kX8_118 ⟨by decide, by decide⟩ rfl (by decide) (by decide) rfl rfl (Nat.le_of_ble_eq_true rfl) (Nat.le_of_ble_eq_true rfl) (sp_X4_empty _ (r := 62) (by decide)) (fun S_76 h_76 => ?_)
        subst h_76
        refine x_iload eX8_close_79 rfl ?_
        exact s_iret eX8_close_81 rfl rfl ⟨rfl, RC_dr rc (Fx.sF (by simp)) (emp_crg (r := 62) (by decide)), fr2.tr ((Fx.sF (fs := [169]) (is := []) (ls := []) (ds := []) (by simp)).frC (by simp) (by simp) (by simp))⟩
      · exact absurd hf c_35
    · exact absurd h60 c_17
  · exact absurd ⟨kl, hl, rfl⟩ c_4
