/-! ===== close, the reference's side ===== -/
/-- what the reference changes before it keeps -/
def Zx (X : LM) (S S' : xS) : Prop := (∀ f, f ∉ [12, 14, 29, 30, 32] → S'.1 0 f = S.1 0 f) ∧ (∀ r, r ∉ [10, 11, 15, 16, 22, 23] → S'.2.1 r = S.2.1 r) ∧ (∀ j, j < xNp X → S'.2.1 15 j = S.2.1 15 j) ∧ (∀ j, j < 12 * xNp X → S'.2.1 16 j = S.2.1 16 j) ∧ (∀ p, p = 1 ∨ p = 2 → S'.2.2.1 p = S.2.2.1 p) ∧ (∀ s P, s < 201 → pt S s P → pt S' s P) ∧ frM S S'
theorem Zx.tr {X : LM} {S S1 S2 : xS} (a : Zx X S S1) (b : Zx X S1 S2) : Zx X S S2 := ⟨fun f h => (b.1 f h).trans (a.1 f h), fun r h => (b.2.1 r h).trans (a.2.1 r h), fun j h => (b.2.2.1 j h).trans (a.2.2.1 j h), fun j h => (b.2.2.2.1 j h).trans (a.2.2.2.1 j h), fun p h => (b.2.2.2.2.1 p h).trans (a.2.2.2.2.1 p h), fun s P h g => b.2.2.2.2.2.1 s P h (a.2.2.2.2.2.1 s P h g), a.2.2.2.2.2.2.tr b.2.2.2.2.2.2⟩
theorem Gx.zx {X : LM} {S S' : xS} (h : Gx S S') : Zx X S S' := ⟨fun f hf => h.2.1 f (by simp at hf; omega) (by simp at hf; omega) (by simp at hf; omega), fun r hr => h.2.2.1 r (by simp at hr; omega), fun j _ => by rw [h.2.2.1 15 (by decide)], fun j _ => by rw [h.2.2.1 16 (by decide)], fun p hp => h.2.2.2.2.1 p (by simp; omega), fun s P hs g => g.gx h hs, h.frM⟩
theorem Wx.zx {X : LM} {S S' : xS} (h : Wx S S') : Zx X S S' := ⟨fun f hf => h.2.1 f (by simp at hf; omega), fun r _ => by rw [h.2.2.1], fun j _ => by rw [h.2.2.1], fun j _ => by rw [h.2.2.1], fun p hp => h.2.2.2.2 p (by simp; omega), fun s P hs g => by
  obtain ⟨a, b, c, d, e⟩ := g
  exact ⟨fun i hi => by rw [h.2.2.2.2 3 (by decide)]; exact a i hi, fun i hi => by rw [h.2.2.2.2 4 (by decide)]; exact b i hi, c, d, e⟩, ⟨fun p hp => ⟨h.1 p (by omega), by rw [h.2.2.1], h.2.2.2.2 p (by simp; omega)⟩, by rw [h.2.2.2.1]⟩⟩
theorem Fx.zx {X : LM} {S S' : xS} (h : Fx [0] [10, 11, 15, 16, 23] [5, 6, 7] [] S S') (hf : ∀ f, f ≠ 14 → f ≠ 12 → S'.1 0 f = S.1 0 f) (h15 : ∀ j, j < xNp X → S'.2.1 15 j = S.2.1 15 j) (h16 : ∀ j, j < 12 * xNp X → S'.2.1 16 j = S.2.1 16 j) : Zx X S S' := ⟨fun f z => hf f (by simp at z; omega) (by simp at z; omega), fun r hr => h.2.1 r (by simp at hr ⊢; omega), h15, h16, fun p hp => h.2.2.1 p (by simp; omega), fun s P hs g => by
  obtain ⟨a, b, c, d, e⟩ := g
  exact ⟨fun i hi => by rw [h.2.2.1 3 (by decide)]; exact a i hi, fun i hi => by rw [h.2.2.1 4 (by decide)]; exact b i hi, c, d, e⟩, h.frM (by simp) (by simp) (by simp) (by simp)⟩
theorem RM_Z {X : LM} {S S' : xS} (w : wf X) (h : RM S X) (z : Zx X S S') {wh : Int32} (e12 : S'.1 0 12 = wh) : RM S' (uS X wh (xSu X) (xEd X)) := by
  have n200 := w.1
  have n60 := w.2.2.2.2.1.1
  obtain ⟨f, r, r15, r16, l, ps, -⟩ := z
  obtain ⟨⟨p1, p2, T, p3⟩, ⟨d1, d2⟩, ⟨w1, w2, w3⟩, ⟨n1, n2⟩, ⟨k1, k2, k3⟩, h1, h2⟩ := h
  refine ⟨⟨by rw [f _ (by decide)]; exact p1, fun s hs => ?_, T, ps 200 _ (by decide) p3⟩, ⟨by rw [f _ (by decide)]; exact d1, fun i hi => by rw [r _ (by decide)]; exact d2 i hi⟩, ⟨e12, by rw [f _ (by decide)]; exact w2, by rw [f _ (by decide)]; exact w3⟩, ⟨by rw [f _ (by decide)]; exact n1, fun e he => ?_⟩, ⟨by rw [f _ (by decide)]; exact k1, fun j hj => by rw [r _ (by decide)]; exact k2 j hj, fun c e he => ?_⟩, by rw [f _ (by decide)]; exact h1, fun k hk => by rw [r _ (by decide)]; exact h2 k hk⟩
  · have hs : s < xNc X := hs
    have := p2 s hs
    rw [l 1 (Or.inl rfl), l 2 (Or.inr rfl)]
    exact ⟨this.1, this.2.1, ps s _ (by omega) this.2.2⟩
  · have he : e < xNp X := he
    have m := n2 e he
    refine ⟨by rw [r 12 (by decide)]; exact m.1, fun q => ?_⟩
    have b := m.2 q
    have sz := (wf_good w q).2.1
    refine ⟨by rw [r 13 (by decide)]; exact b.1, by rw [r 14 (by decide)]; exact b.2.1, by rw [r15 e he]; exact b.2.2.1, fun i hi => ?_⟩
    have hi : i < tSz (xTb X) e := hi
    rw [r16 _ (by omega)]
    exact b.2.2.2 i hi
  · have m := k3 c e he
    refine ⟨by rw [r 17 (by decide)]; exact m.1, fun q => ?_⟩
    have b := m.2 q
    exact ⟨by rw [r 18 (by decide)]; exact b.1, by rw [r 19 (by decide)]; exact b.2.1, by rw [r 20 (by decide)]; exact b.2.2.1, fun i hi => by rw [r 21 (by decide)]; exact b.2.2.2 i hi⟩
theorem mrg.zx {S S' : xS} {n : Nat} {c : Nat → Nat} (h : mrg S n c) (a : S'.1 0 14 = S.1 0 14) (b : S'.2.1 10 = S.2.1 10) : mrg S' n c := ⟨by rw [a]; exact h.1, h.2.1, fun i hi => by rw [b]; exact h.2.2 i hi⟩

theorem sp_X9_made (S : xS) {np n : Nat} {c : Nat → Nat} (e16 : S.1 0 16 = nI np) (hp : np < 60) (h : mrg S n c) (n12 : n ≤ 12) (l o : Int32) : Sp mX9_made [.ref 0, .int l, .int o] S (fun r S' => r = some (.int (nI np)) ∧ Fx [0] [12, 13, 14, 15, 16] [] [] S S' ∧ S'.1 0 16 = nI (np + 1) ∧ (∀ f, f ≠ 16 → S'.1 0 f = S.1 0 f) ∧ (∀ j, S'.2.1 12 j = if j = np then 1 else S.2.1 12 j) ∧ (∀ j, S'.2.1 13 j = if j = np then l else S.2.1 13 j) ∧ (∀ j, S'.2.1 14 j = if j = np then o else S.2.1 14 j) ∧ (∀ j, S'.2.1 15 j = if j = np then nI n else S.2.1 15 j) ∧ ∀ j, S'.2.1 16 j = if 12 * np ≤ j ∧ j < 12 * np + n then nI (c (j - 12 * np)) else S.2.1 16 j) := by
  show XP _ _ [_, _, _] _ _ _
  refine x_aload_n eX9_made_0 rfl ?_
  refine s_geti eX9_made_1 fX9_224 rfl (by decide) (by decide) ?_
  rw [e16]
  refine x_istore_n (lv' := [_, _, _, _]) eX9_made_4 (by decide) rfl ?_
  refine x_aload_n eX9_made_5 rfl ?_
  refine x_dup eX9_made_6 rfl ?_
  refine s_geti eX9_made_7 fX9_224 rfl (by decide) (by decide) ?_
  rw [e16]
  refine x_iconst (v := nI 1) eX9_made_10 (by decide) ?_
  first | refine x_iaddN eX9_made_11 ?_ | refine x_iadd eX9_made_11 ?_
  refine s_puti eX9_made_12 fX9_224 wX9_16 rfl (by decide) (by decide) ?_
  refine x_aload_n eX9_made_15 rfl ?_
  refine s_getR (k := 12) eX9_made_16 fX9_48 rfl (by decide) (by decide) rfl ?_
  refine x_iload_n eX9_made_19 rfl ?_
  refine x_iconst (v := nI 1) eX9_made_20 (by decide) ?_
  refine s_zast eX9_made_21 rfl (by decide) rfl (show _ < 60 by omega) (by first | exact Or.inl rfl | exact Or.inr rfl | exact bI_01 _) ?_
  refine x_aload_n eX9_made_22 rfl ?_
  refine s_getR (k := 13) eX9_made_23 fX9_52 rfl (by decide) (by decide) rfl ?_
  refine x_iload_n eX9_made_26 rfl ?_
  refine x_iload_n eX9_made_27 rfl ?_
  refine s_iast eX9_made_28 rfl (by decide) rfl (show _ < 60 by omega) ?_
  refine x_aload_n eX9_made_29 rfl ?_
  refine s_getR (k := 14) eX9_made_30 fX9_55 rfl (by decide) (by decide) rfl ?_
  refine x_iload_n eX9_made_33 rfl ?_
  refine x_iload_n eX9_made_34 rfl ?_
  refine s_iast eX9_made_35 rfl (by decide) rfl (show _ < 60 by omega) ?_
  refine x_aload_n eX9_made_36 rfl ?_
  refine x_iload_n eX9_made_37 rfl ?_
  refine s_callV0 (As := [_]) eX9_made_38 kX9_234 ⟨by decide, by decide⟩ rfl (by decide) (by decide) rfl rfl (Nat.le_of_ble_eq_true rfl) (Nat.le_of_ble_eq_true rfl) (sp_X9_store _ hp (h.zx (by show upd (S.1 0) 16 (nI (np + 1)) 14 = _; rw [upd_ne _ _ (by decide)]) rfl) n12) (fun S_38 h_38 => ?_)
  refine x_iload_n eX9_made_41 rfl ?_
  obtain ⟨x, r15, r16⟩ := h_38
  have u : ∀ (g : Nat → Int32) (v : Int32) (j : Nat), upd g np v j = if j = np then v else g j := fun g v j => by
    by_cases z : j = np
    · subst z; rw [upd_at, if_pos rfl]
    · rw [upd_ne _ _ z, if_neg z]
  refine s_iret eX9_made_42 rfl rfl ⟨rfl, ((((Fx.sF (by simp)).tr (Fx.sI (by simp))).tr (Fx.sI (by simp))).tr (Fx.sI (by simp))).tr (x.mono (by simp) (by simp) (by simp) (by simp)), ?_, fun f hf => ?_, fun j => ?_, fun j => ?_, fun j => ?_, fun j => ?_, fun j => ?_⟩
  · rw [x.1 0 (by simp)]; show upd (S.1 0) 16 (nI (np + 1)) 16 = _; rw [upd_at]
  · rw [x.1 0 (by simp)]; show upd (S.1 0) 16 (nI (np + 1)) f = _; rw [upd_ne _ _ hf]
  · rw [x.2.1 12 (by simp), setI_ne _ _ (by decide), setI_ne _ _ (by decide), setI_at, u]; rfl
  · rw [x.2.1 13 (by simp), setI_ne _ _ (by decide), setI_at, u, setI_ne _ _ (by decide)]; rfl
  · rw [x.2.1 14 (by simp), setI_at, u, setI_ne _ _ (by decide), setI_ne _ _ (by decide)]; rfl
  · rw [r15]; rfl
  · rw [r16]; rfl
