/-! ===== what changes: fields fs, int rows is, long rows ls, double rows ds ===== -/
def Fx (fs is ls ds : List Nat) (S S' : xS) : Prop := (∀ p, p ∉ fs → S'.1 p = S.1 p) ∧ (∀ p, p ∉ is → S'.2.1 p = S.2.1 p) ∧ (∀ p, p ∉ ls → S'.2.2.1 p = S.2.2.1 p) ∧ ∀ p, p ∉ ds → S'.2.2.2 p = S.2.2.2 p
section FX
variable {fs is ls ds fs' is' ls' ds' : List Nat} {S S1 S2 : xS}
theorem Fx.rf (fs is ls ds : List Nat) (S : xS) : Fx fs is ls ds S S := ⟨fun _ _ => rfl, fun _ _ => rfl, fun _ _ => rfl, fun _ _ => rfl⟩
theorem Fx.tr (h1 : Fx fs is ls ds S S1) (h2 : Fx fs is ls ds S1 S2) : Fx fs is ls ds S S2 := ⟨fun p hp => (h2.1 p hp).trans (h1.1 p hp), fun p hp => (h2.2.1 p hp).trans (h1.2.1 p hp), fun p hp => (h2.2.2.1 p hp).trans (h1.2.2.1 p hp), fun p hp => (h2.2.2.2 p hp).trans (h1.2.2.2 p hp)⟩
theorem Fx.mono (h : Fx fs is ls ds S S1) (a : ∀ p, p ∈ fs → p ∈ fs') (b : ∀ p, p ∈ is → p ∈ is') (c : ∀ p, p ∈ ls → p ∈ ls') (d : ∀ p, p ∈ ds → p ∈ ds') : Fx fs' is' ls' ds' S S1 := ⟨fun p hp => h.1 p (fun q => hp (a p q)), fun p hp => h.2.1 p (fun q => hp (b p q)), fun p hp => h.2.2.1 p (fun q => hp (c p q)), fun p hp => h.2.2.2 p (fun q => hp (d p q))⟩
theorem Lx.fx {ps : List Nat} (h : Lx ps S S1) (hs : ∀ p, p ∈ ps → p ∈ ls) : Fx fs is ls ds S S1 := ⟨fun p _ => by rw [h.1], fun p _ => by rw [h.2.1], fun p hp => h.2.2.2 p (fun q => hp (hs p q)), fun p _ => by rw [h.2.2.1]⟩
theorem Fx.sF {p : Nat} {g : Nat → Int32} (h : p ∈ fs) : Fx fs is ls ds S (setF S p g) := ⟨fun q hq => setF_ne S g (fun e => hq (e ▸ h)), fun _ _ => rfl, fun _ _ => rfl, fun _ _ => rfl⟩
theorem Fx.sI {p : Nat} {g : Nat → Int32} (h : p ∈ is) : Fx fs is ls ds S (setI S p g) := ⟨fun _ _ => rfl, fun q hq => setI_ne S g (fun e => hq (e ▸ h)), fun _ _ => rfl, fun _ _ => rfl⟩
theorem crg.fx {r n : Nat} {c : Nat → Nat} (h : crg S r n c) (hx : Fx fs is ls ds S S1) (a : 45 + 2 * r ∉ fs) (b : 46 + 2 * r ∉ is) : crg S1 r n c := ⟨h.1, h.2.1, by rw [hx.1 _ a]; exact h.2.2.1, fun i hi => by rw [hx.2.1 _ b]; exact h.2.2.2 i hi⟩
theorem CR.fx {nc r n : Nat} {c : Nat → Nat} (h : CR S nc r n c) (hx : Fx fs is ls ds S S1) (a : 45 + 2 * r ∉ fs) (b : 46 + 2 * r ∉ is) : CR S1 nc r n c := ⟨h.1.fx hx a b, h.2⟩
theorem cps.fx {nc : Nat} {P : Nat → Pt} (h : cps S nc P) (hx : Fx fs is ls ds S S1) (a : 35 ∉ ls) (b : 34 ∉ ds) : cps S1 nc P := by
  intro s hs
  obtain ⟨x1, x2, x3, x4, x5, f, g, x6, x7⟩ := h s hs
  refine ⟨x1, by rw [hx.2.2.2 _ b]; exact x2, by rw [hx.2.2.2 _ b]; exact x3, x4, x5, f, g, fun k hk => ?_, x7⟩
  rw [hx.2.2.1 _ a]
  exact x6 k hk
end FX
/-- the first pair, by its first and then its second place -/
def fp (R : Nat → Nat → Prop) (n i k : Nat) : Prop := i < k ∧ k < n ∧ R i k ∧ ∀ i' k', i' < k' → k' < n → (i' < i ∨ (i' = i ∧ k' < k)) → ¬ R i' k'
noncomputable def fstP (R : Nat → Nat → Prop) (n : Nat) : Option (Nat × Nat) := @dite _ (∃ x : Nat × Nat, fp R n x.1 x.2) (Classical.propDecidable _) (fun h => some (Classical.choose h)) (fun _ => none)
theorem fp_uniq {R : Nat → Nat → Prop} {n i k i' k' : Nat} (h : fp R n i k) (h' : fp R n i' k') : i = i' ∧ k = k' := by
  obtain ⟨a1, a2, a3, a4⟩ := h
  obtain ⟨b1, b2, b3, b4⟩ := h'
  have n1 : ¬ (i' < i ∨ (i' = i ∧ k' < k)) := fun z => a4 i' k' b1 b2 z b3
  have n2 : ¬ (i < i' ∨ (i = i' ∧ k < k')) := fun z => b4 i k a1 a2 z a3
  omega
theorem fstP_some {R : Nat → Nat → Prop} {n i k : Nat} (h : fp R n i k) : fstP R n = some (i, k) := by
  have e : ∃ x : Nat × Nat, fp R n x.1 x.2 := ⟨(i, k), h⟩
  unfold fstP
  rw [dif_pos e]
  have := fp_uniq (Classical.choose_spec e) h
  congr 1
  exact Prod.ext this.1 this.2
theorem fstP_none {R : Nat → Nat → Prop} {n : Nat} (h : ∀ i k, i < k → k < n → ¬ R i k) : fstP R n = none := by
  unfold fstP
  rw [dif_neg]
  rintro ⟨x, hx⟩
  exact h _ _ hx.1 hx.2.1 hx.2.2.1
theorem fstP_cases (R : Nat → Nat → Prop) (n : Nat) : (∃ i k, fp R n i k ∧ fstP R n = some (i, k)) ∨ ((∀ i k, i < k → k < n → ¬ R i k) ∧ fstP R n = none) := by
  rcases Classical.em (∃ i k, i < k ∧ k < n ∧ R i k) with e | e
  · left
    obtain ⟨i, ⟨k0, h0⟩, hi⟩ := pk_least (fun i => ∃ k, i < k ∧ k < n ∧ R i k) e
    obtain ⟨k, hk, hm⟩ := pk_least (fun k => i < k ∧ k < n ∧ R i k) ⟨k0, h0⟩
    have f : fp R n i k := by
      refine ⟨hk.1, hk.2.1, hk.2.2, fun i' k' a b c r => ?_⟩
      rcases c with c | ⟨c, d⟩
      · exact hi i' c ⟨k', a, b, r⟩
      · subst c; exact hm k' d ⟨a, b, r⟩
    exact ⟨i, k, f, fstP_some f⟩
  · exact Or.inr ⟨fun i k a b r => e ⟨i, k, a, b, r⟩, fstP_none (fun i k a b r => e ⟨i, k, a, b, r⟩)⟩
theorem fstP_congr {R R' : Nat → Nat → Prop} {n : Nat} (h : ∀ i k, i < k → k < n → (R i k ↔ R' i k)) : fstP R n = fstP R' n := by
  rcases fstP_cases R n with ⟨i, k, f, e⟩ | ⟨no, e⟩
  · rw [e, fstP_some ⟨f.1, f.2.1, (h i k f.1 f.2.1).mp f.2.2.1, fun i' k' a b c r => f.2.2.2 i' k' a b c ((h i' k' a b).mpr r)⟩]
  · rw [e, fstP_none (fun i k a b r => no i k a b ((h i k a b).mpr r))]
def twR (c : Nat → Nat) (i k : Nat) : Prop := c i = c k
def crR (M : Pt → Pt → Pt → Pt → Int32) (v : Nat → Pt) (n i k : Nat) : Prop := M (v i) (v (i + 1)) (v k) (v (k + 1)) ≠ if k = i + 1 ∨ (i = 0 ∧ k = n - 1) then 2 else 0
/-- fault and place -/
noncomputable def ft (M : Pt → Pt → Pt → Pt → Int32) (v : Nat → Pt) (n : Nat) (c : Nat → Nat) : Int32 × Int32 := if n < 3 ∨ 12 < n then (-201, nI n) else match fstP (twR c) n with
  | some x => (-202, nI x.2)
  | none => match fstP (crR M v n) n with
    | some x => (-203, nI (100 * x.1 + x.2))
    | none => (0, 0)

theorem sp_X5_findsTwins (S : xS) {r n : Nat} {c : Nat → Nat} (h0 : crg S r n c ∧ 0 < n) : Sp mX5_findsTwins [.ref 36, .ref (45 + 2 * r)] S (fun x S' => x = some (.int (tI (fstP (twR c) n ≠ none))) ∧ Fx [36] [] [364] [] S S' ∧ ∀ x, fstP (twR c) n = some x → S'.1 36 1 = nI x.2) := by
  have hr := h0.1.1
  have hn := h0.1.2.1
  have lc : ∀ k, k < n → c k < 201 := fun k hk => (h0.1.2.2.2 k hk).2
  have loop : ∀ μ a, a + μ = n → ∀ S1, (S1 = S ∧ ∀ i k, i < a → i < k → k < n → c i ≠ c k) → XP mX5_findsTwins 2 [(2, .int (nI a)), (0, .ref 36), (1, .ref (45 + 2 * r))] [] (xwS S1) (sQ (fun x S' => x = some (.int (tI (fstP (twR c) n ≠ none))) ∧ Fx [36] [] [364] [] S S' ∧ ∀ x, fstP (twR c) n = some x → S'.1 36 1 = nI x.2)) := by
    intro μ
    induction μ with
    | zero =>
      intro a hk S1 h1
      obtain ⟨e1, hno⟩ := h1
      have e1 := e1.symm
      subst e1
      refine x_iload_n eX5_findsTwins_2 rfl ?_
      refine x_aload_n eX5_findsTwins_3 rfl ?_
      refine s_geti eX5_findsTwins_4 fX5_19 (kd_ring h0.1.1) (show _ < 365 by omega) (by decide) ?_
      rw [h0.1.2.2.1]
      refine x_icmp_geN eX5_findsTwins_7 (by omega) (by omega) (fun c_7 => ?_) (fun c_7 => ?_)
      · refine x_iconst (v := nI 0) eX5_findsTwins_56 (by decide) ?_
        have e := fstP_none (R := twR c) (n := n) (fun i k h1 h2 => hno i k (by omega) h1 h2)
        refine s_iret eX5_findsTwins_57 rfl rfl ⟨tI_fs (by rw [e]; exact fun z => z rfl), Fx.rf _ _ _ _ _, fun x hx => ?_⟩
        rw [e] at hx; cases hx
      · omega
    | succ μ ih =>
      intro a hk S1 h1
      obtain ⟨e1, hno⟩ := h1
      have e1 := e1.symm
      subst e1
      have oh := ih
      have inner : ∀ μ b, b + μ = n → ∀ S2, (S2 = S ∧ a < b ∧ ∀ k, a < k → k < b → c a ≠ c k) → XP mX5_findsTwins 14 [(3, .int (nI b)), (2, .int (nI a)), (0, .ref 36), (1, .ref (45 + 2 * r))] [] (xwS S2) (sQ (fun x S' => x = some (.int (tI (fstP (twR c) n ≠ none))) ∧ Fx [36] [] [364] [] S S' ∧ ∀ x, fstP (twR c) n = some x → S'.1 36 1 = nI x.2)) := by
        intro μ
        induction μ with
        | zero =>
          intro b hk S2 h1
          obtain ⟨e1, ab, hno2⟩ := h1
          have e1 := e1.symm
          subst e1
          refine x_iload_n eX5_findsTwins_14 rfl ?_
          refine x_aload_n eX5_findsTwins_15 rfl ?_
          refine s_geti eX5_findsTwins_16 fX5_19 (kd_ring h0.1.1) (show _ < 365 by omega) (by decide) ?_
          rw [h0.1.2.2.1]
          refine x_icmp_geN eX5_findsTwins_19 (by omega) (by omega) (fun c_19 => ?_) (fun c_19 => ?_)
          · refine x_iinc (lv' := [_, _, _, _]) eX5_findsTwins_50 rfl (by first | exact nI_inc _ | exact rfl) (by decide) rfl ?_
            refine x_goto eX5_findsTwins_53 ?_
            refine x_pick [0, 2, 3] rfl ?_
            refine oh (a + 1) (by omega) _ ⟨rfl, fun i k h1 h2 h3 => ?_⟩
            by_cases q : i < a
            · exact hno i k q h2 h3
            · obtain rfl : i = a := by omega
              exact hno2 k h2 (by omega)
          · omega
        | succ μ ih =>
          intro b hk S2 h1
          obtain ⟨e1, ab, hno2⟩ := h1
          have e1 := e1.symm
          subst e1
          refine x_iload_n eX5_findsTwins_14 rfl ?_
          refine x_aload_n eX5_findsTwins_15 rfl ?_
          refine s_geti eX5_findsTwins_16 fX5_19 (kd_ring h0.1.1) (show _ < 365 by omega) (by decide) ?_
          rw [h0.1.2.2.1]
          refine x_icmp_geN eX5_findsTwins_19 (by omega) (by omega) (fun c_19 => ?_) (fun c_19 => ?_)
          · omega
          · refine x_aload_n eX5_findsTwins_22 rfl ?_
            refine s_getR (k := (46 + 2 * r)) eX5_findsTwins_23 fX5_31 (kd_ring h0.1.1) (show _ < 365 by omega) (by decide) (rf_ring h0.1.1) ?_
            refine x_iload_n eX5_findsTwins_26 rfl ?_
            refine s_iald eX5_findsTwins_27 (kd_corner h0.1.1) (show _ < 365 by omega) rfl (by rw [(ln_corner h0.1.1)]; omega) ?_
            rw [(h0.1.2.2.2 a (by omega)).1]
            have la := lc a (by omega)
            refine x_aload_n eX5_findsTwins_28 rfl ?_
            refine s_getR (k := (46 + 2 * r)) eX5_findsTwins_29 fX5_31 (kd_ring h0.1.1) (show _ < 365 by omega) (by decide) (rf_ring h0.1.1) ?_
            refine x_iload_n eX5_findsTwins_32 rfl ?_
            refine s_iald eX5_findsTwins_33 (kd_corner h0.1.1) (show _ < 365 by omega) rfl (by rw [(ln_corner h0.1.1)]; omega) ?_
            rw [(h0.1.2.2.2 b (by omega)).1]
            have lb := lc b (by omega)
            refine x_icmp_neN eX5_findsTwins_34 (by omega) (by omega) (fun c_34 => ?_) (fun c_34 => ?_)
            · refine x_iinc (lv' := [_, _, _, _]) eX5_findsTwins_44 rfl (by first | exact nI_inc _ | exact rfl) (by decide) rfl ?_
              refine x_goto eX5_findsTwins_47 ?_
              refine x_pick [0, 1, 2, 3] rfl ?_
              refine ih (b + 1) (by omega) _ ⟨rfl, by omega, fun k h1 h2 => ?_⟩
              by_cases q : k < b
              · exact hno2 k h1 q
              · obtain rfl : k = b := by omega
                exact c_34
            · refine x_aload_n eX5_findsTwins_37 rfl ?_
              refine x_iload_n eX5_findsTwins_38 rfl ?_
              refine s_puti eX5_findsTwins_39 fX5_9 wX5_1 rfl (by decide) (by decide) ?_
              refine x_iconst (v := nI 1) eX5_findsTwins_42 (by decide) ?_
              have f : fp (twR c) n a b := ⟨ab, by omega, c_34, fun i k h1 h2 h3 r => by
                rcases h3 with h3 | ⟨h3, h4⟩
                · exact hno i k h3 h1 h2 r
                · subst h3; exact hno2 k h1 h4 r⟩
              refine s_iret eX5_findsTwins_43 rfl rfl ⟨tI_ts (by rw [fstP_some f]; exact fun z => by cases z), Fx.sF (by simp), fun x hx => ?_⟩
              rw [fstP_some f] at hx; cases hx
              rw [setF_at, upd_at]
      refine x_iload_n eX5_findsTwins_2 rfl ?_
      refine x_aload_n eX5_findsTwins_3 rfl ?_
      refine s_geti eX5_findsTwins_4 fX5_19 (kd_ring h0.1.1) (show _ < 365 by omega) (by decide) ?_
      rw [h0.1.2.2.1]
      refine x_icmp_geN eX5_findsTwins_7 (by omega) (by omega) (fun c_7 => ?_) (fun c_7 => ?_)
      · omega
      · refine x_iload_n eX5_findsTwins_10 rfl ?_
        refine x_iconst (v := nI 1) eX5_findsTwins_11 (by decide) ?_
        first | refine x_iaddN eX5_findsTwins_12 ?_ | refine x_iadd eX5_findsTwins_12 ?_
        refine x_istore_n (lv' := [_, _, _, _]) eX5_findsTwins_13 (by decide) rfl ?_
        refine x_pick [0, 1, 2, 3] rfl ?_
        exact inner (n - (a + 1)) (a + 1) (by omega) _ ⟨rfl, by omega, fun k h1 h2 => by omega⟩
  show XP _ _ [_, _] _ _ _
  refine x_iconst (v := nI 0) eX5_findsTwins_0 (by decide) ?_
  refine x_istore_n (lv' := [_, _, _]) eX5_findsTwins_1 (by decide) rfl ?_
  refine x_pick [0, 1, 2] rfl ?_
  exact loop n 0 (by omega) _ ⟨rfl, fun i k h => by omega⟩
theorem sp_X5_findsCrossing (S : xS) {nc r n : Nat} {c : Nat → Nat} {P : Nat → Pt} (hp0 : cps S nc P) (h0 : CR S nc r n c) : Sp mX5_findsCrossing [.ref 36, .ref (45 + 2 * r)] S (fun x S' => x = some (.int (tI (fstP (crR metP (vr P c n) n) n ≠ none))) ∧ Fx [36] [] [364] [] S S' ∧ ∀ x, fstP (crR metP (vr P c n) n) n = some x → S'.1 36 1 = nI (100 * x.1 + x.2)) := by
  have hr := h0.1.1
  have hn := h0.1.2.1
  have loop : ∀ μ a, a + μ = n → ∀ S1, (Lx [364] S S1 ∧ ∀ i k, i < a → i < k → k < n → ¬ crR metP (vr P c n) n i k) → XP mX5_findsCrossing 2 [(2, .int (nI a)), (0, .ref 36), (1, .ref (45 + 2 * r))] [] (xwS S1) (sQ (fun x S' => x = some (.int (tI (fstP (crR metP (vr P c n) n) n ≠ none))) ∧ Fx [36] [] [364] [] S S' ∧ ∀ x, fstP (crR metP (vr P c n) n) n = some x → S'.1 36 1 = nI (100 * x.1 + x.2))) := by
    intro μ
    induction μ with
    | zero =>
      intro a hk S1 h1
      obtain ⟨hx, hno⟩ := h1
      have h := h0.m hx
      refine x_iload_n eX5_findsCrossing_2 rfl ?_
      refine x_aload_n eX5_findsCrossing_3 rfl ?_
      refine s_geti eX5_findsCrossing_4 fX5_19 (kd_ring h0.1.1) (show _ < 365 by omega) (by decide) ?_
      rw [h.1.2.2.1]
      refine x_icmp_geN eX5_findsCrossing_7 (by omega) (by omega) (fun c_7 => ?_) (fun c_7 => ?_)
      · refine x_iconst (v := nI 0) eX5_findsCrossing_122 (by decide) ?_
        have e := fstP_none (R := crR metP (vr P c n) n) (n := n) (fun i k h1 h2 => hno i k (by omega) h1 h2)
        refine s_iret eX5_findsCrossing_123 rfl rfl ⟨tI_fs (by rw [e]; exact fun z => z rfl), hx.fx (by simp), fun x hx => ?_⟩
        rw [e] at hx; cases hx
      · omega
    | succ μ ih =>
      intro a hk S1 h1
      obtain ⟨hx, hno⟩ := h1
      have h := h0.m hx
      have oh := ih
      have inner : ∀ μ b, b + μ = n → ∀ S2, (Lx [364] S S2 ∧ a < b ∧ ∀ k, a < k → k < b → ¬ crR metP (vr P c n) n a k) → XP mX5_findsCrossing 14 [(3, .int (nI b)), (2, .int (nI a)), (0, .ref 36), (1, .ref (45 + 2 * r))] [] (xwS S2) (sQ (fun x S' => x = some (.int (tI (fstP (crR metP (vr P c n) n) n ≠ none))) ∧ Fx [36] [] [364] [] S S' ∧ ∀ x, fstP (crR metP (vr P c n) n) n = some x → S'.1 36 1 = nI (100 * x.1 + x.2))) := by
        intro μ
        induction μ with
        | zero =>
          intro b hk S2 h1
          obtain ⟨hx, ab, hno2⟩ := h1
          have h := h0.m hx
          have hp := hp0.m hx
          refine x_iload_n eX5_findsCrossing_14 rfl ?_
          refine x_aload_n eX5_findsCrossing_15 rfl ?_
          refine s_geti eX5_findsCrossing_16 fX5_19 (kd_ring h0.1.1) (show _ < 365 by omega) (by decide) ?_
          rw [h.1.2.2.1]
          refine x_icmp_geN eX5_findsCrossing_19 (by omega) (by omega) (fun c_19 => ?_) (fun c_19 => ?_)
          · refine x_iinc (lv' := [_, _, _, _]) eX5_findsCrossing_116 rfl (by first | exact nI_inc _ | exact rfl) (by decide) rfl ?_
            refine x_goto eX5_findsCrossing_119 ?_
            refine x_pick [0, 2, 3] rfl ?_
            refine oh (a + 1) (by omega) _ ⟨hx, fun i k h1 h2 h3 => ?_⟩
            by_cases q : i < a
            · exact hno i k q h2 h3
            · obtain rfl : i = a := by omega
              exact hno2 k h2 (by omega)
          · omega
        | succ μ ih =>
          intro b hk S2 h1
          obtain ⟨hx, ab, hno2⟩ := h1
          have h := h0.m hx
          have hp := hp0.m hx
          refine x_iload_n eX5_findsCrossing_14 rfl ?_
          refine x_aload_n eX5_findsCrossing_15 rfl ?_
          refine s_geti eX5_findsCrossing_16 fX5_19 (kd_ring h0.1.1) (show _ < 365 by omega) (by decide) ?_
          rw [h.1.2.2.1]
          refine x_icmp_geN eX5_findsCrossing_19 (by omega) (by omega) (fun c_19 => ?_) (fun c_19 => ?_)
          · omega
          · refine x_iload_n eX5_findsCrossing_22 rfl ?_
            refine x_iload_n eX5_findsCrossing_23 rfl ?_
            refine x_iconst (v := nI 1) eX5_findsCrossing_24 (by decide) ?_
            first | refine x_iaddN eX5_findsCrossing_25 ?_ | refine x_iadd eX5_findsCrossing_25 ?_
            refine x_icmp_eqN eX5_findsCrossing_26 (by omega) (by omega) (fun c_26 => ?_) (fun c_26 => ?_)
            · refine x_iconst (v := nI 1) eX5_findsCrossing_43 (by decide) ?_
              refine x_goto eX5_findsCrossing_44 ?_
              refine x_istore (lv' := [_, _, _, _, _]) eX5_findsCrossing_48 (by decide) rfl ?_
              refine x_aload_n eX5_findsCrossing_50 rfl ?_
              refine s_getR (k := 32) eX5_findsCrossing_51 fX5_15 rfl (by decide) (by decide) rfl ?_
              refine x_aload_n eX5_findsCrossing_54 rfl ?_
              refine x_iload_n eX5_findsCrossing_55 rfl ?_
              refine s_callV1 (As := [_]) eX5_findsCrossing_56 kX5_35 ⟨by decide, by decide⟩ (kd_ring h0.1.1) (by decide) (show _ < 365 by omega) rfl rfl (Nat.le_of_ble_eq_true rfl) (Nat.le_of_ble_eq_true rfl) (sp_X4_around _ h.1 h.2.1 (by omega)) (fun S_56 h_56 => ?_)
              subst h_56
              refine x_aload_n eX5_findsCrossing_59 rfl ?_
              refine x_iload_n eX5_findsCrossing_60 rfl ?_
              refine x_iconst (v := nI 1) eX5_findsCrossing_61 (by decide) ?_
              first | refine x_iaddN eX5_findsCrossing_62 ?_ | refine x_iadd eX5_findsCrossing_62 ?_
              refine s_callV1 (As := [_]) eX5_findsCrossing_63 kX5_35 ⟨by decide, by decide⟩ (kd_ring h0.1.1) (by decide) (show _ < 365 by omega) rfl rfl (Nat.le_of_ble_eq_true rfl) (Nat.le_of_ble_eq_true rfl) (sp_X4_around _ h.1 h.2.1 (by omega)) (fun S_63 h_63 => ?_)
              subst h_63
              refine x_aload_n eX5_findsCrossing_66 rfl ?_
              refine x_iload_n eX5_findsCrossing_67 rfl ?_
              refine s_callV1 (As := [_]) eX5_findsCrossing_68 kX5_35 ⟨by decide, by decide⟩ (kd_ring h0.1.1) (by decide) (show _ < 365 by omega) rfl rfl (Nat.le_of_ble_eq_true rfl) (Nat.le_of_ble_eq_true rfl) (sp_X4_around _ h.1 h.2.1 (by omega)) (fun S_68 h_68 => ?_)
              subst h_68
              refine x_aload_n eX5_findsCrossing_71 rfl ?_
              refine x_iload_n eX5_findsCrossing_72 rfl ?_
              refine x_iconst (v := nI 1) eX5_findsCrossing_73 (by decide) ?_
              first | refine x_iaddN eX5_findsCrossing_74 ?_ | refine x_iadd eX5_findsCrossing_74 ?_
              refine s_callV1 (As := [_]) eX5_findsCrossing_75 kX5_35 ⟨by decide, by decide⟩ (kd_ring h0.1.1) (by decide) (show _ < 365 by omega) rfl rfl (Nat.le_of_ble_eq_true rfl) (Nat.le_of_ble_eq_true rfl) (sp_X4_around _ h.1 h.2.1 (by omega)) (fun S_75 h_75 => ?_)
              subst h_75
              refine s_callV1 (As := [_, _, _, _]) eX5_findsCrossing_78 kX5_39 ⟨by decide, by decide⟩ rfl (by decide) (by decide) rfl rfl (Nat.le_of_ble_eq_true rfl) (Nat.le_of_ble_eq_true rfl) (sp_X2_meeting _ (h.pt hp a) (h.pt hp (a + 1)) (h.pt hp b) (h.pt hp (b + 1))) (fun S_78 h_78 => ?_)
              have hx := hx.tr h_78
              refine x_istore (lv' := [_, _, _, _, _, _]) eX5_findsCrossing_81 (by decide) rfl ?_
              refine x_iload eX5_findsCrossing_83 rfl ?_
              refine x_iload eX5_findsCrossing_85 rfl ?_
              refine x_if_eqN eX5_findsCrossing_87 (by omega) (fun c_87 => ?_) (fun c_87 => ?_)
              · refine x_iconst (v := nI 0) eX5_findsCrossing_94 (by decide) ?_
                refine x_icmp_eq eX5_findsCrossing_95 (fun c_95 => ?_) (fun c_95 => ?_)
                · refine x_iinc (lv' := [_, _, _, _, _, _]) eX5_findsCrossing_110 rfl (by first | exact nI_inc _ | exact rfl) (by decide) rfl ?_
                  refine x_goto eX5_findsCrossing_113 ?_
                  refine x_pick [0, 3, 4, 5] rfl ?_
                  first
                    | omega
                    | (refine ih (b + 1) (by omega) _ ⟨hx, by omega, fun k h1 h2 => ?_⟩
                       by_cases q : k < b
                       · exact hno2 k h1 q
                       · obtain rfl : k = b := by omega
                         unfold crR
                         first
                           | (rw [if_pos (by omega)]; exact fun z => z c_95)
                           | (rw [if_neg (by omega)]; exact fun z => z c_95))
                · refine x_aload_n eX5_findsCrossing_98 rfl ?_
                  refine x_bipush (v := nI 100) eX5_findsCrossing_99 (by decide) ?_
                  refine x_iload_n eX5_findsCrossing_101 rfl ?_
                  first | refine x_imulN eX5_findsCrossing_102 ?_ | refine x_imul eX5_findsCrossing_102 ?_
                  refine x_iload_n eX5_findsCrossing_103 rfl ?_
                  first | refine x_iaddN eX5_findsCrossing_104 ?_ | refine x_iadd eX5_findsCrossing_104 ?_
                  refine s_puti eX5_findsCrossing_105 fX5_9 wX5_1 rfl (by decide) (by decide) ?_
                  refine x_iconst (v := nI 1) eX5_findsCrossing_108 (by decide) ?_
                  first
                    | omega
                    | (have bad : crR metP (vr P c n) n a b := by
                         unfold crR
                         first
                           | (rw [if_pos (by omega)]; exact c_95)
                           | (rw [if_neg (by omega)]; exact c_95)
                       have f : fp (crR metP (vr P c n) n) n a b := ⟨ab, by omega, bad, fun i k h1 h2 h3 r => by
                         rcases h3 with h3 | ⟨h3, h4⟩
                         · exact hno i k h3 h1 h2 r
                         · subst h3; exact hno2 k h1 h4 r⟩
                       refine s_iret eX5_findsCrossing_109 rfl rfl ⟨tI_ts (by rw [fstP_some f]; exact fun z => by cases z), (hx.fx (by simp)).tr (Fx.sF (by simp)), fun x hx => ?_⟩
                       rw [fstP_some f] at hx; cases hx
                       rw [setF_at, upd_at])
              · refine x_iconst (v := nI 2) eX5_findsCrossing_90 (by decide) ?_
                refine x_goto eX5_findsCrossing_91 ?_
                refine x_icmp_eq eX5_findsCrossing_95 (fun c_95 => ?_) (fun c_95 => ?_)
                · refine x_iinc (lv' := [_, _, _, _, _, _]) eX5_findsCrossing_110 rfl (by first | exact nI_inc _ | exact rfl) (by decide) rfl ?_
                  refine x_goto eX5_findsCrossing_113 ?_
                  refine x_pick [0, 3, 4, 5] rfl ?_
                  first
                    | omega
                    | (refine ih (b + 1) (by omega) _ ⟨hx, by omega, fun k h1 h2 => ?_⟩
                       by_cases q : k < b
                       · exact hno2 k h1 q
                       · obtain rfl : k = b := by omega
                         unfold crR
                         first
                           | (rw [if_pos (by omega)]; exact fun z => z c_95)
                           | (rw [if_neg (by omega)]; exact fun z => z c_95))
                · refine x_aload_n eX5_findsCrossing_98 rfl ?_
                  refine x_bipush (v := nI 100) eX5_findsCrossing_99 (by decide) ?_
                  refine x_iload_n eX5_findsCrossing_101 rfl ?_
                  first | refine x_imulN eX5_findsCrossing_102 ?_ | refine x_imul eX5_findsCrossing_102 ?_
                  refine x_iload_n eX5_findsCrossing_103 rfl ?_
                  first | refine x_iaddN eX5_findsCrossing_104 ?_ | refine x_iadd eX5_findsCrossing_104 ?_
                  refine s_puti eX5_findsCrossing_105 fX5_9 wX5_1 rfl (by decide) (by decide) ?_
                  refine x_iconst (v := nI 1) eX5_findsCrossing_108 (by decide) ?_
                  first
                    | omega
                    | (have bad : crR metP (vr P c n) n a b := by
                         unfold crR
                         first
                           | (rw [if_pos (by omega)]; exact c_95)
                           | (rw [if_neg (by omega)]; exact c_95)
                       have f : fp (crR metP (vr P c n) n) n a b := ⟨ab, by omega, bad, fun i k h1 h2 h3 r => by
                         rcases h3 with h3 | ⟨h3, h4⟩
                         · exact hno i k h3 h1 h2 r
                         · subst h3; exact hno2 k h1 h4 r⟩
                       refine s_iret eX5_findsCrossing_109 rfl rfl ⟨tI_ts (by rw [fstP_some f]; exact fun z => by cases z), (hx.fx (by simp)).tr (Fx.sF (by simp)), fun x hx => ?_⟩
                       rw [fstP_some f] at hx; cases hx
                       rw [setF_at, upd_at])
            · refine x_iload_n eX5_findsCrossing_29 rfl ?_
              refine x_if_neN eX5_findsCrossing_30 (by omega) (fun c_30 => ?_) (fun c_30 => ?_)
              · refine x_iconst (v := nI 0) eX5_findsCrossing_47 (by decide) ?_
                refine x_istore (lv' := [_, _, _, _, _]) eX5_findsCrossing_48 (by decide) rfl ?_
                refine x_aload_n eX5_findsCrossing_50 rfl ?_
                refine s_getR (k := 32) eX5_findsCrossing_51 fX5_15 rfl (by decide) (by decide) rfl ?_
                refine x_aload_n eX5_findsCrossing_54 rfl ?_
                refine x_iload_n eX5_findsCrossing_55 rfl ?_
                refine s_callV1 (As := [_]) eX5_findsCrossing_56 kX5_35 ⟨by decide, by decide⟩ (kd_ring h0.1.1) (by decide) (show _ < 365 by omega) rfl rfl (Nat.le_of_ble_eq_true rfl) (Nat.le_of_ble_eq_true rfl) (sp_X4_around _ h.1 h.2.1 (by omega)) (fun S_56 h_56 => ?_)
                subst h_56
                refine x_aload_n eX5_findsCrossing_59 rfl ?_
                refine x_iload_n eX5_findsCrossing_60 rfl ?_
                refine x_iconst (v := nI 1) eX5_findsCrossing_61 (by decide) ?_
                first | refine x_iaddN eX5_findsCrossing_62 ?_ | refine x_iadd eX5_findsCrossing_62 ?_
                refine s_callV1 (As := [_]) eX5_findsCrossing_63 kX5_35 ⟨by decide, by decide⟩ (kd_ring h0.1.1) (by decide) (show _ < 365 by omega) rfl rfl (Nat.le_of_ble_eq_true rfl) (Nat.le_of_ble_eq_true rfl) (sp_X4_around _ h.1 h.2.1 (by omega)) (fun S_63 h_63 => ?_)
                subst h_63
                refine x_aload_n eX5_findsCrossing_66 rfl ?_
                refine x_iload_n eX5_findsCrossing_67 rfl ?_
                refine s_callV1 (As := [_]) eX5_findsCrossing_68 kX5_35 ⟨by decide, by decide⟩ (kd_ring h0.1.1) (by decide) (show _ < 365 by omega) rfl rfl (Nat.le_of_ble_eq_true rfl) (Nat.le_of_ble_eq_true rfl) (sp_X4_around _ h.1 h.2.1 (by omega)) (fun S_68 h_68 => ?_)
                subst h_68
                refine x_aload_n eX5_findsCrossing_71 rfl ?_
                refine x_iload_n eX5_findsCrossing_72 rfl ?_
                refine x_iconst (v := nI 1) eX5_findsCrossing_73 (by decide) ?_
                first | refine x_iaddN eX5_findsCrossing_74 ?_ | refine x_iadd eX5_findsCrossing_74 ?_
                refine s_callV1 (As := [_]) eX5_findsCrossing_75 kX5_35 ⟨by decide, by decide⟩ (kd_ring h0.1.1) (by decide) (show _ < 365 by omega) rfl rfl (Nat.le_of_ble_eq_true rfl) (Nat.le_of_ble_eq_true rfl) (sp_X4_around _ h.1 h.2.1 (by omega)) (fun S_75 h_75 => ?_)
                subst h_75
                refine s_callV1 (As := [_, _, _, _]) eX5_findsCrossing_78 kX5_39 ⟨by decide, by decide⟩ rfl (by decide) (by decide) rfl rfl (Nat.le_of_ble_eq_true rfl) (Nat.le_of_ble_eq_true rfl) (sp_X2_meeting _ (h.pt hp a) (h.pt hp (a + 1)) (h.pt hp b) (h.pt hp (b + 1))) (fun S_78 h_78 => ?_)
                have hx := hx.tr h_78
                refine x_istore (lv' := [_, _, _, _, _, _]) eX5_findsCrossing_81 (by decide) rfl ?_
                refine x_iload eX5_findsCrossing_83 rfl ?_
                refine x_iload eX5_findsCrossing_85 rfl ?_
                refine x_if_eqN eX5_findsCrossing_87 (by omega) (fun c_87 => ?_) (fun c_87 => ?_)
                · refine x_iconst (v := nI 0) eX5_findsCrossing_94 (by decide) ?_
                  refine x_icmp_eq eX5_findsCrossing_95 (fun c_95 => ?_) (fun c_95 => ?_)
                  · refine x_iinc (lv' := [_, _, _, _, _, _]) eX5_findsCrossing_110 rfl (by first | exact nI_inc _ | exact rfl) (by decide) rfl ?_
                    refine x_goto eX5_findsCrossing_113 ?_
                    refine x_pick [0, 3, 4, 5] rfl ?_
                    first
                      | omega
                      | (refine ih (b + 1) (by omega) _ ⟨hx, by omega, fun k h1 h2 => ?_⟩
                         by_cases q : k < b
                         · exact hno2 k h1 q
                         · obtain rfl : k = b := by omega
                           unfold crR
                           first
                             | (rw [if_pos (by omega)]; exact fun z => z c_95)
                             | (rw [if_neg (by omega)]; exact fun z => z c_95))
                  · refine x_aload_n eX5_findsCrossing_98 rfl ?_
                    refine x_bipush (v := nI 100) eX5_findsCrossing_99 (by decide) ?_
                    refine x_iload_n eX5_findsCrossing_101 rfl ?_
                    first | refine x_imulN eX5_findsCrossing_102 ?_ | refine x_imul eX5_findsCrossing_102 ?_
                    refine x_iload_n eX5_findsCrossing_103 rfl ?_
                    first | refine x_iaddN eX5_findsCrossing_104 ?_ | refine x_iadd eX5_findsCrossing_104 ?_
                    refine s_puti eX5_findsCrossing_105 fX5_9 wX5_1 rfl (by decide) (by decide) ?_
                    refine x_iconst (v := nI 1) eX5_findsCrossing_108 (by decide) ?_
                    first
                      | omega
                      | (have bad : crR metP (vr P c n) n a b := by
                           unfold crR
                           first
                             | (rw [if_pos (by omega)]; exact c_95)
                             | (rw [if_neg (by omega)]; exact c_95)
                         have f : fp (crR metP (vr P c n) n) n a b := ⟨ab, by omega, bad, fun i k h1 h2 h3 r => by
                           rcases h3 with h3 | ⟨h3, h4⟩
                           · exact hno i k h3 h1 h2 r
                           · subst h3; exact hno2 k h1 h4 r⟩
                         refine s_iret eX5_findsCrossing_109 rfl rfl ⟨tI_ts (by rw [fstP_some f]; exact fun z => by cases z), (hx.fx (by simp)).tr (Fx.sF (by simp)), fun x hx => ?_⟩
                         rw [fstP_some f] at hx; cases hx
                         rw [setF_at, upd_at])
                · refine x_iconst (v := nI 2) eX5_findsCrossing_90 (by decide) ?_
                  refine x_goto eX5_findsCrossing_91 ?_
                  refine x_icmp_eq eX5_findsCrossing_95 (fun c_95 => ?_) (fun c_95 => ?_)
                  · refine x_iinc (lv' := [_, _, _, _, _, _]) eX5_findsCrossing_110 rfl (by first | exact nI_inc _ | exact rfl) (by decide) rfl ?_
                    refine x_goto eX5_findsCrossing_113 ?_
                    refine x_pick [0, 3, 4, 5] rfl ?_
                    first
                      | omega
                      | (refine ih (b + 1) (by omega) _ ⟨hx, by omega, fun k h1 h2 => ?_⟩
                         by_cases q : k < b
                         · exact hno2 k h1 q
                         · obtain rfl : k = b := by omega
                           unfold crR
                           first
                             | (rw [if_pos (by omega)]; exact fun z => z c_95)
                             | (rw [if_neg (by omega)]; exact fun z => z c_95))
                  · refine x_aload_n eX5_findsCrossing_98 rfl ?_
                    refine x_bipush (v := nI 100) eX5_findsCrossing_99 (by decide) ?_
                    refine x_iload_n eX5_findsCrossing_101 rfl ?_
                    first | refine x_imulN eX5_findsCrossing_102 ?_ | refine x_imul eX5_findsCrossing_102 ?_
                    refine x_iload_n eX5_findsCrossing_103 rfl ?_
                    first | refine x_iaddN eX5_findsCrossing_104 ?_ | refine x_iadd eX5_findsCrossing_104 ?_
                    refine s_puti eX5_findsCrossing_105 fX5_9 wX5_1 rfl (by decide) (by decide) ?_
                    refine x_iconst (v := nI 1) eX5_findsCrossing_108 (by decide) ?_
                    first
                      | omega
                      | (have bad : crR metP (vr P c n) n a b := by
                           unfold crR
                           first
                             | (rw [if_pos (by omega)]; exact c_95)
                             | (rw [if_neg (by omega)]; exact c_95)
                         have f : fp (crR metP (vr P c n) n) n a b := ⟨ab, by omega, bad, fun i k h1 h2 h3 r => by
                           rcases h3 with h3 | ⟨h3, h4⟩
                           · exact hno i k h3 h1 h2 r
                           · subst h3; exact hno2 k h1 h4 r⟩
                         refine s_iret eX5_findsCrossing_109 rfl rfl ⟨tI_ts (by rw [fstP_some f]; exact fun z => by cases z), (hx.fx (by simp)).tr (Fx.sF (by simp)), fun x hx => ?_⟩
                         rw [fstP_some f] at hx; cases hx
                         rw [setF_at, upd_at])
              · refine x_iload_n eX5_findsCrossing_33 rfl ?_
                refine x_aload_n eX5_findsCrossing_34 rfl ?_
                refine s_geti eX5_findsCrossing_35 fX5_19 (kd_ring h0.1.1) (show _ < 365 by omega) (by decide) ?_
                rw [h.1.2.2.1]
                refine x_iconst (v := nI 1) eX5_findsCrossing_38 (by decide) ?_
                first | refine x_isubN eX5_findsCrossing_39 (by omega) ?_ | refine x_isub eX5_findsCrossing_39 ?_
                refine x_icmp_neN eX5_findsCrossing_40 (by omega) (by omega) (fun c_40 => ?_) (fun c_40 => ?_)
                · refine x_iconst (v := nI 0) eX5_findsCrossing_47 (by decide) ?_
                  refine x_istore (lv' := [_, _, _, _, _]) eX5_findsCrossing_48 (by decide) rfl ?_
                  refine x_aload_n eX5_findsCrossing_50 rfl ?_
                  refine s_getR (k := 32) eX5_findsCrossing_51 fX5_15 rfl (by decide) (by decide) rfl ?_
                  refine x_aload_n eX5_findsCrossing_54 rfl ?_
                  refine x_iload_n eX5_findsCrossing_55 rfl ?_
                  refine s_callV1 (As := [_]) eX5_findsCrossing_56 kX5_35 ⟨by decide, by decide⟩ (kd_ring h0.1.1) (by decide) (show _ < 365 by omega) rfl rfl (Nat.le_of_ble_eq_true rfl) (Nat.le_of_ble_eq_true rfl) (sp_X4_around _ h.1 h.2.1 (by omega)) (fun S_56 h_56 => ?_)
                  subst h_56
                  refine x_aload_n eX5_findsCrossing_59 rfl ?_
                  refine x_iload_n eX5_findsCrossing_60 rfl ?_
                  refine x_iconst (v := nI 1) eX5_findsCrossing_61 (by decide) ?_
                  first | refine x_iaddN eX5_findsCrossing_62 ?_ | refine x_iadd eX5_findsCrossing_62 ?_
                  refine s_callV1 (As := [_]) eX5_findsCrossing_63 kX5_35 ⟨by decide, by decide⟩ (kd_ring h0.1.1) (by decide) (show _ < 365 by omega) rfl rfl (Nat.le_of_ble_eq_true rfl) (Nat.le_of_ble_eq_true rfl) (sp_X4_around _ h.1 h.2.1 (by omega)) (fun S_63 h_63 => ?_)
                  subst h_63
                  refine x_aload_n eX5_findsCrossing_66 rfl ?_
                  refine x_iload_n eX5_findsCrossing_67 rfl ?_
                  refine s_callV1 (As := [_]) eX5_findsCrossing_68 kX5_35 ⟨by decide, by decide⟩ (kd_ring h0.1.1) (by decide) (show _ < 365 by omega) rfl rfl (Nat.le_of_ble_eq_true rfl) (Nat.le_of_ble_eq_true rfl) (sp_X4_around _ h.1 h.2.1 (by omega)) (fun S_68 h_68 => ?_)
                  subst h_68
                  refine x_aload_n eX5_findsCrossing_71 rfl ?_
                  refine x_iload_n eX5_findsCrossing_72 rfl ?_
                  refine x_iconst (v := nI 1) eX5_findsCrossing_73 (by decide) ?_
                  first | refine x_iaddN eX5_findsCrossing_74 ?_ | refine x_iadd eX5_findsCrossing_74 ?_
                  refine s_callV1 (As := [_]) eX5_findsCrossing_75 kX5_35 ⟨by decide, by decide⟩ (kd_ring h0.1.1) (by decide) (show _ < 365 by omega) rfl rfl (Nat.le_of_ble_eq_true rfl) (Nat.le_of_ble_eq_true rfl) (sp_X4_around _ h.1 h.2.1 (by omega)) (fun S_75 h_75 => ?_)
                  subst h_75
                  refine s_callV1 (As := [_, _, _, _]) eX5_findsCrossing_78 kX5_39 ⟨by decide, by decide⟩ rfl (by decide) (by decide) rfl rfl (Nat.le_of_ble_eq_true rfl) (Nat.le_of_ble_eq_true rfl) (sp_X2_meeting _ (h.pt hp a) (h.pt hp (a + 1)) (h.pt hp b) (h.pt hp (b + 1))) (fun S_78 h_78 => ?_)
                  have hx := hx.tr h_78
                  refine x_istore (lv' := [_, _, _, _, _, _]) eX5_findsCrossing_81 (by decide) rfl ?_
                  refine x_iload eX5_findsCrossing_83 rfl ?_
                  refine x_iload eX5_findsCrossing_85 rfl ?_
                  refine x_if_eqN eX5_findsCrossing_87 (by omega) (fun c_87 => ?_) (fun c_87 => ?_)
                  · refine x_iconst (v := nI 0) eX5_findsCrossing_94 (by decide) ?_
                    refine x_icmp_eq eX5_findsCrossing_95 (fun c_95 => ?_) (fun c_95 => ?_)
                    · refine x_iinc (lv' := [_, _, _, _, _, _]) eX5_findsCrossing_110 rfl (by first | exact nI_inc _ | exact rfl) (by decide) rfl ?_
                      refine x_goto eX5_findsCrossing_113 ?_
                      refine x_pick [0, 3, 4, 5] rfl ?_
                      first
                        | omega
                        | (refine ih (b + 1) (by omega) _ ⟨hx, by omega, fun k h1 h2 => ?_⟩
                           by_cases q : k < b
                           · exact hno2 k h1 q
                           · obtain rfl : k = b := by omega
                             unfold crR
                             first
                               | (rw [if_pos (by omega)]; exact fun z => z c_95)
                               | (rw [if_neg (by omega)]; exact fun z => z c_95))
                    · refine x_aload_n eX5_findsCrossing_98 rfl ?_
                      refine x_bipush (v := nI 100) eX5_findsCrossing_99 (by decide) ?_
                      refine x_iload_n eX5_findsCrossing_101 rfl ?_
                      first | refine x_imulN eX5_findsCrossing_102 ?_ | refine x_imul eX5_findsCrossing_102 ?_
                      refine x_iload_n eX5_findsCrossing_103 rfl ?_
                      first | refine x_iaddN eX5_findsCrossing_104 ?_ | refine x_iadd eX5_findsCrossing_104 ?_
                      refine s_puti eX5_findsCrossing_105 fX5_9 wX5_1 rfl (by decide) (by decide) ?_
                      refine x_iconst (v := nI 1) eX5_findsCrossing_108 (by decide) ?_
                      first
                        | omega
                        | (have bad : crR metP (vr P c n) n a b := by
                             unfold crR
                             first
                               | (rw [if_pos (by omega)]; exact c_95)
                               | (rw [if_neg (by omega)]; exact c_95)
                           have f : fp (crR metP (vr P c n) n) n a b := ⟨ab, by omega, bad, fun i k h1 h2 h3 r => by
                             rcases h3 with h3 | ⟨h3, h4⟩
                             · exact hno i k h3 h1 h2 r
                             · subst h3; exact hno2 k h1 h4 r⟩
                           refine s_iret eX5_findsCrossing_109 rfl rfl ⟨tI_ts (by rw [fstP_some f]; exact fun z => by cases z), (hx.fx (by simp)).tr (Fx.sF (by simp)), fun x hx => ?_⟩
                           rw [fstP_some f] at hx; cases hx
                           rw [setF_at, upd_at])
                  · refine x_iconst (v := nI 2) eX5_findsCrossing_90 (by decide) ?_
                    refine x_goto eX5_findsCrossing_91 ?_
                    refine x_icmp_eq eX5_findsCrossing_95 (fun c_95 => ?_) (fun c_95 => ?_)
                    · refine x_iinc (lv' := [_, _, _, _, _, _]) eX5_findsCrossing_110 rfl (by first | exact nI_inc _ | exact rfl) (by decide) rfl ?_
                      refine x_goto eX5_findsCrossing_113 ?_
                      refine x_pick [0, 3, 4, 5] rfl ?_
                      first
                        | omega
                        | (refine ih (b + 1) (by omega) _ ⟨hx, by omega, fun k h1 h2 => ?_⟩
                           by_cases q : k < b
                           · exact hno2 k h1 q
                           · obtain rfl : k = b := by omega
                             unfold crR
                             first
                               | (rw [if_pos (by omega)]; exact fun z => z c_95)
                               | (rw [if_neg (by omega)]; exact fun z => z c_95))
                    · refine x_aload_n eX5_findsCrossing_98 rfl ?_
                      refine x_bipush (v := nI 100) eX5_findsCrossing_99 (by decide) ?_
                      refine x_iload_n eX5_findsCrossing_101 rfl ?_
                      first | refine x_imulN eX5_findsCrossing_102 ?_ | refine x_imul eX5_findsCrossing_102 ?_
                      refine x_iload_n eX5_findsCrossing_103 rfl ?_
                      first | refine x_iaddN eX5_findsCrossing_104 ?_ | refine x_iadd eX5_findsCrossing_104 ?_
                      refine s_puti eX5_findsCrossing_105 fX5_9 wX5_1 rfl (by decide) (by decide) ?_
                      refine x_iconst (v := nI 1) eX5_findsCrossing_108 (by decide) ?_
                      first
                        | omega
                        | (have bad : crR metP (vr P c n) n a b := by
                             unfold crR
                             first
                               | (rw [if_pos (by omega)]; exact c_95)
                               | (rw [if_neg (by omega)]; exact c_95)
                           have f : fp (crR metP (vr P c n) n) n a b := ⟨ab, by omega, bad, fun i k h1 h2 h3 r => by
                             rcases h3 with h3 | ⟨h3, h4⟩
                             · exact hno i k h3 h1 h2 r
                             · subst h3; exact hno2 k h1 h4 r⟩
                           refine s_iret eX5_findsCrossing_109 rfl rfl ⟨tI_ts (by rw [fstP_some f]; exact fun z => by cases z), (hx.fx (by simp)).tr (Fx.sF (by simp)), fun x hx => ?_⟩
                           rw [fstP_some f] at hx; cases hx
                           rw [setF_at, upd_at])
                · refine x_iconst (v := nI 1) eX5_findsCrossing_43 (by decide) ?_
                  refine x_goto eX5_findsCrossing_44 ?_
                  refine x_istore (lv' := [_, _, _, _, _]) eX5_findsCrossing_48 (by decide) rfl ?_
                  refine x_aload_n eX5_findsCrossing_50 rfl ?_
                  refine s_getR (k := 32) eX5_findsCrossing_51 fX5_15 rfl (by decide) (by decide) rfl ?_
                  refine x_aload_n eX5_findsCrossing_54 rfl ?_
                  refine x_iload_n eX5_findsCrossing_55 rfl ?_
                  refine s_callV1 (As := [_]) eX5_findsCrossing_56 kX5_35 ⟨by decide, by decide⟩ (kd_ring h0.1.1) (by decide) (show _ < 365 by omega) rfl rfl (Nat.le_of_ble_eq_true rfl) (Nat.le_of_ble_eq_true rfl) (sp_X4_around _ h.1 h.2.1 (by omega)) (fun S_56 h_56 => ?_)
                  subst h_56
                  refine x_aload_n eX5_findsCrossing_59 rfl ?_
                  refine x_iload_n eX5_findsCrossing_60 rfl ?_
                  refine x_iconst (v := nI 1) eX5_findsCrossing_61 (by decide) ?_
                  first | refine x_iaddN eX5_findsCrossing_62 ?_ | refine x_iadd eX5_findsCrossing_62 ?_
                  refine s_callV1 (As := [_]) eX5_findsCrossing_63 kX5_35 ⟨by decide, by decide⟩ (kd_ring h0.1.1) (by decide) (show _ < 365 by omega) rfl rfl (Nat.le_of_ble_eq_true rfl) (Nat.le_of_ble_eq_true rfl) (sp_X4_around _ h.1 h.2.1 (by omega)) (fun S_63 h_63 => ?_)
                  subst h_63
                  refine x_aload_n eX5_findsCrossing_66 rfl ?_
                  refine x_iload_n eX5_findsCrossing_67 rfl ?_
                  refine s_callV1 (As := [_]) eX5_findsCrossing_68 kX5_35 ⟨by decide, by decide⟩ (kd_ring h0.1.1) (by decide) (show _ < 365 by omega) rfl rfl (Nat.le_of_ble_eq_true rfl) (Nat.le_of_ble_eq_true rfl) (sp_X4_around _ h.1 h.2.1 (by omega)) (fun S_68 h_68 => ?_)
                  subst h_68
                  refine x_aload_n eX5_findsCrossing_71 rfl ?_
                  refine x_iload_n eX5_findsCrossing_72 rfl ?_
                  refine x_iconst (v := nI 1) eX5_findsCrossing_73 (by decide) ?_
                  first | refine x_iaddN eX5_findsCrossing_74 ?_ | refine x_iadd eX5_findsCrossing_74 ?_
                  refine s_callV1 (As := [_]) eX5_findsCrossing_75 kX5_35 ⟨by decide, by decide⟩ (kd_ring h0.1.1) (by decide) (show _ < 365 by omega) rfl rfl (Nat.le_of_ble_eq_true rfl) (Nat.le_of_ble_eq_true rfl) (sp_X4_around _ h.1 h.2.1 (by omega)) (fun S_75 h_75 => ?_)
                  subst h_75
                  refine s_callV1 (As := [_, _, _, _]) eX5_findsCrossing_78 kX5_39 ⟨by decide, by decide⟩ rfl (by decide) (by decide) rfl rfl (Nat.le_of_ble_eq_true rfl) (Nat.le_of_ble_eq_true rfl) (sp_X2_meeting _ (h.pt hp a) (h.pt hp (a + 1)) (h.pt hp b) (h.pt hp (b + 1))) (fun S_78 h_78 => ?_)
                  have hx := hx.tr h_78
                  refine x_istore (lv' := [_, _, _, _, _, _]) eX5_findsCrossing_81 (by decide) rfl ?_
                  refine x_iload eX5_findsCrossing_83 rfl ?_
                  refine x_iload eX5_findsCrossing_85 rfl ?_
                  refine x_if_eqN eX5_findsCrossing_87 (by omega) (fun c_87 => ?_) (fun c_87 => ?_)
                  · refine x_iconst (v := nI 0) eX5_findsCrossing_94 (by decide) ?_
                    refine x_icmp_eq eX5_findsCrossing_95 (fun c_95 => ?_) (fun c_95 => ?_)
                    · refine x_iinc (lv' := [_, _, _, _, _, _]) eX5_findsCrossing_110 rfl (by first | exact nI_inc _ | exact rfl) (by decide) rfl ?_
                      refine x_goto eX5_findsCrossing_113 ?_
                      refine x_pick [0, 3, 4, 5] rfl ?_
                      first
                        | omega
                        | (refine ih (b + 1) (by omega) _ ⟨hx, by omega, fun k h1 h2 => ?_⟩
                           by_cases q : k < b
                           · exact hno2 k h1 q
                           · obtain rfl : k = b := by omega
                             unfold crR
                             first
                               | (rw [if_pos (by omega)]; exact fun z => z c_95)
                               | (rw [if_neg (by omega)]; exact fun z => z c_95))
                    · refine x_aload_n eX5_findsCrossing_98 rfl ?_
                      refine x_bipush (v := nI 100) eX5_findsCrossing_99 (by decide) ?_
                      refine x_iload_n eX5_findsCrossing_101 rfl ?_
                      first | refine x_imulN eX5_findsCrossing_102 ?_ | refine x_imul eX5_findsCrossing_102 ?_
                      refine x_iload_n eX5_findsCrossing_103 rfl ?_
                      first | refine x_iaddN eX5_findsCrossing_104 ?_ | refine x_iadd eX5_findsCrossing_104 ?_
                      refine s_puti eX5_findsCrossing_105 fX5_9 wX5_1 rfl (by decide) (by decide) ?_
                      refine x_iconst (v := nI 1) eX5_findsCrossing_108 (by decide) ?_
                      first
                        | omega
                        | (have bad : crR metP (vr P c n) n a b := by
                             unfold crR
                             first
                               | (rw [if_pos (by omega)]; exact c_95)
                               | (rw [if_neg (by omega)]; exact c_95)
                           have f : fp (crR metP (vr P c n) n) n a b := ⟨ab, by omega, bad, fun i k h1 h2 h3 r => by
                             rcases h3 with h3 | ⟨h3, h4⟩
                             · exact hno i k h3 h1 h2 r
                             · subst h3; exact hno2 k h1 h4 r⟩
                           refine s_iret eX5_findsCrossing_109 rfl rfl ⟨tI_ts (by rw [fstP_some f]; exact fun z => by cases z), (hx.fx (by simp)).tr (Fx.sF (by simp)), fun x hx => ?_⟩
                           rw [fstP_some f] at hx; cases hx
                           rw [setF_at, upd_at])
                  · refine x_iconst (v := nI 2) eX5_findsCrossing_90 (by decide) ?_
                    refine x_goto eX5_findsCrossing_91 ?_
                    refine x_icmp_eq eX5_findsCrossing_95 (fun c_95 => ?_) (fun c_95 => ?_)
                    · refine x_iinc (lv' := [_, _, _, _, _, _]) eX5_findsCrossing_110 rfl (by first | exact nI_inc _ | exact rfl) (by decide) rfl ?_
                      refine x_goto eX5_findsCrossing_113 ?_
                      refine x_pick [0, 3, 4, 5] rfl ?_
                      first
                        | omega
                        | (refine ih (b + 1) (by omega) _ ⟨hx, by omega, fun k h1 h2 => ?_⟩
                           by_cases q : k < b
                           · exact hno2 k h1 q
                           · obtain rfl : k = b := by omega
                             unfold crR
                             first
                               | (rw [if_pos (by omega)]; exact fun z => z c_95)
                               | (rw [if_neg (by omega)]; exact fun z => z c_95))
                    · refine x_aload_n eX5_findsCrossing_98 rfl ?_
                      refine x_bipush (v := nI 100) eX5_findsCrossing_99 (by decide) ?_
                      refine x_iload_n eX5_findsCrossing_101 rfl ?_
                      first | refine x_imulN eX5_findsCrossing_102 ?_ | refine x_imul eX5_findsCrossing_102 ?_
                      refine x_iload_n eX5_findsCrossing_103 rfl ?_
                      first | refine x_iaddN eX5_findsCrossing_104 ?_ | refine x_iadd eX5_findsCrossing_104 ?_
                      refine s_puti eX5_findsCrossing_105 fX5_9 wX5_1 rfl (by decide) (by decide) ?_
                      refine x_iconst (v := nI 1) eX5_findsCrossing_108 (by decide) ?_
                      first
                        | omega
                        | (have bad : crR metP (vr P c n) n a b := by
                             unfold crR
                             first
                               | (rw [if_pos (by omega)]; exact c_95)
                               | (rw [if_neg (by omega)]; exact c_95)
                           have f : fp (crR metP (vr P c n) n) n a b := ⟨ab, by omega, bad, fun i k h1 h2 h3 r => by
                             rcases h3 with h3 | ⟨h3, h4⟩
                             · exact hno i k h3 h1 h2 r
                             · subst h3; exact hno2 k h1 h4 r⟩
                           refine s_iret eX5_findsCrossing_109 rfl rfl ⟨tI_ts (by rw [fstP_some f]; exact fun z => by cases z), (hx.fx (by simp)).tr (Fx.sF (by simp)), fun x hx => ?_⟩
                           rw [fstP_some f] at hx; cases hx
                           rw [setF_at, upd_at])
      refine x_iload_n eX5_findsCrossing_2 rfl ?_
      refine x_aload_n eX5_findsCrossing_3 rfl ?_
      refine s_geti eX5_findsCrossing_4 fX5_19 (kd_ring h0.1.1) (show _ < 365 by omega) (by decide) ?_
      rw [h.1.2.2.1]
      refine x_icmp_geN eX5_findsCrossing_7 (by omega) (by omega) (fun c_7 => ?_) (fun c_7 => ?_)
      · omega
      · refine x_iload_n eX5_findsCrossing_10 rfl ?_
        refine x_iconst (v := nI 1) eX5_findsCrossing_11 (by decide) ?_
        first | refine x_iaddN eX5_findsCrossing_12 ?_ | refine x_iadd eX5_findsCrossing_12 ?_
        refine x_istore_n (lv' := [_, _, _, _]) eX5_findsCrossing_13 (by decide) rfl ?_
        refine x_pick [0, 1, 2, 3] rfl ?_
        exact inner (n - (a + 1)) (a + 1) (by omega) _ ⟨hx, by omega, fun k h1 h2 => by omega⟩
  show XP _ _ [_, _] _ _ _
  refine x_iconst (v := nI 0) eX5_findsCrossing_0 (by decide) ?_
  refine x_istore_n (lv' := [_, _, _]) eX5_findsCrossing_1 (by decide) rfl ?_
  refine x_pick [0, 1, 2] rfl ?_
  exact loop n 0 (by omega) _ ⟨Lx.rf _ _, fun i k h => by omega⟩
theorem sp_X5_faultOf (S : xS) {nc r n : Nat} {c : Nat → Nat} {P : Nat → Pt} (hp : cps S nc P) (h : crg S r n c) (hc : ∀ i, i < n → c i < nc) : Sp mX5_faultOf [.ref 36, .ref (45 + 2 * r)] S (fun x S' => x = some (.int (ft metP (vr P c n) n c).1) ∧ Fx [36] [] [364] [] S S' ∧ ((ft metP (vr P c n) n c).1 ≠ 0 → S'.1 36 1 = (ft metP (vr P c n) n c).2)) := by
  have hr := h.1
  have hn := h.2.1
  show XP _ _ [_, _] _ _ _
  refine x_aload_n eX5_faultOf_0 rfl ?_
  refine s_geti eX5_faultOf_1 fX5_19 (kd_ring h.1) (show _ < 365 by omega) (by decide) ?_
  rw [h.2.2.1]
  refine x_iconst (v := nI 3) eX5_faultOf_4 (by decide) ?_
  refine x_icmp_ltN eX5_faultOf_5 (by omega) (by omega) (fun c_5 => ?_) (fun c_5 => ?_)
  · refine x_aload_n eX5_faultOf_17 rfl ?_
    refine x_aload_n eX5_faultOf_18 rfl ?_
    refine s_geti eX5_faultOf_19 fX5_19 (kd_ring h.1) (show _ < 365 by omega) (by decide) ?_
    rw [h.2.2.1]
    refine s_puti eX5_faultOf_22 fX5_9 wX5_1 rfl (by decide) (by decide) ?_
    refine x_sipush (v := -201) eX5_faultOf_25 (by decide) ?_
    have e : (ft metP (vr P c n) n c) = (-201, nI n) := by unfold ft; rw [if_pos (by omega)]
    refine s_iret eX5_faultOf_28 rfl rfl ⟨by rw [e] <;> rfl, Fx.sF (by simp), fun _ => ?_⟩
    rw [e, setF_at, upd_at]
  · refine x_aload_n eX5_faultOf_8 rfl ?_
    refine s_geti eX5_faultOf_9 fX5_19 (kd_ring h.1) (show _ < 365 by omega) (by decide) ?_
    rw [h.2.2.1]
    refine x_bipush (v := nI 12) eX5_faultOf_12 (by decide) ?_
    refine x_icmp_leN eX5_faultOf_14 (by omega) (by omega) (fun c_14 => ?_) (fun c_14 => ?_)
    · refine x_aload_n eX5_faultOf_29 rfl ?_
      refine x_aload_n eX5_faultOf_30 rfl ?_
      refine s_callV1 (As := [_]) eX5_faultOf_31 kX5_24 ⟨by decide, by decide⟩ rfl (by decide) (by decide) rfl rfl (Nat.le_of_ble_eq_true rfl) (Nat.le_of_ble_eq_true rfl) (sp_X5_findsTwins S ⟨h, by omega⟩) (fun S_31 h_31 => ?_)
      obtain ⟨x1, y1⟩ := h_31
      have h3 : ¬ (n < 3 ∨ 12 < n) := by omega
      have hp1 := hp.fx x1 (by simp) (by simp)
      have g1 : CR S_31 nc r n c := ⟨h.fx x1 (by simp; omega) (by simp), by omega, hc⟩
      refine x_if_eqT eX5_faultOf_34 (fun c_34 => ?_) (fun c_34 => ?_)
      · refine x_aload_n eX5_faultOf_43 rfl ?_
        refine x_aload_n eX5_faultOf_44 rfl ?_
        refine s_callV1 (As := [_]) eX5_faultOf_45 kX5_28 ⟨by decide, by decide⟩ rfl (by decide) (by decide) rfl rfl (Nat.le_of_ble_eq_true rfl) (Nat.le_of_ble_eq_true rfl) (sp_X5_findsCrossing S_31 hp1 g1) (fun S_45 h_45 => ?_)
        obtain ⟨x2, y2⟩ := h_45
        refine x_if_eqT eX5_faultOf_48 (fun c_48 => ?_) (fun c_48 => ?_)
        · refine x_iconst (v := nI 0) eX5_faultOf_57 (by decide) ?_
          first
            | (have c0 : fstP (twR c) n ≠ none := c_34
               rcases fstP_cases (twR c) n with ⟨i, k, f, e⟩ | ⟨-, e⟩
               · have e2 : (ft metP (vr P c n) n c) = (-202, nI k) := by unfold ft; rw [if_neg h3, e]
                 refine s_iret eX5_faultOf_58 rfl rfl ⟨?_, x1, fun _ => ?_⟩
                 · rw [e2] <;> rfl
                 · rw [e2]; exact y1 _ e
               · exact absurd e c_34)
            | (have e : fstP (twR c) n = none := Classical.not_not.mp c_34
               rcases fstP_cases (crR metP (vr P c n) n) n with ⟨i, k, f, e3⟩ | ⟨-, e3⟩
               · have e2 : (ft metP (vr P c n) n c) = (-203, nI (100 * i + k)) := by unfold ft; rw [if_neg h3, e]; simp only [e3]
                 have hs : fstP (crR metP (vr P c n) n) n ≠ none := by rw [e3]; exact fun w => by cases w
                 first
                   | exact (c_48 hs).elim
                   | (refine s_iret eX5_faultOf_58 rfl rfl ⟨?_, x1.tr x2, fun _ => ?_⟩
                      · rw [e2] <;> rfl
                      · rw [e2]; exact y2 _ e3)
               · have e2 : (ft metP (vr P c n) n c) = (0, 0) := by unfold ft; rw [if_neg h3, e]; simp only [e3]
                 first
                   | exact absurd e3 c_48
                   | (refine s_iret eX5_faultOf_58 rfl rfl ⟨?_, x1.tr x2, fun z => ?_⟩
                      · rw [e2] <;> rfl
                      · rw [e2] at z; exact absurd rfl z))
        · refine x_sipush (v := -203) eX5_faultOf_51 (by decide) ?_
          refine x_goto eX5_faultOf_54 ?_
          first
            | (have c0 : fstP (twR c) n ≠ none := c_34
               rcases fstP_cases (twR c) n with ⟨i, k, f, e⟩ | ⟨-, e⟩
               · have e2 : (ft metP (vr P c n) n c) = (-202, nI k) := by unfold ft; rw [if_neg h3, e]
                 refine s_iret eX5_faultOf_58 rfl rfl ⟨?_, x1, fun _ => ?_⟩
                 · rw [e2] <;> rfl
                 · rw [e2]; exact y1 _ e
               · exact absurd e c_34)
            | (have e : fstP (twR c) n = none := Classical.not_not.mp c_34
               rcases fstP_cases (crR metP (vr P c n) n) n with ⟨i, k, f, e3⟩ | ⟨-, e3⟩
               · have e2 : (ft metP (vr P c n) n c) = (-203, nI (100 * i + k)) := by unfold ft; rw [if_neg h3, e]; simp only [e3]
                 have hs : fstP (crR metP (vr P c n) n) n ≠ none := by rw [e3]; exact fun w => by cases w
                 first
                   | exact (c_48 hs).elim
                   | (refine s_iret eX5_faultOf_58 rfl rfl ⟨?_, x1.tr x2, fun _ => ?_⟩
                      · rw [e2] <;> rfl
                      · rw [e2]; exact y2 _ e3)
               · have e2 : (ft metP (vr P c n) n c) = (0, 0) := by unfold ft; rw [if_neg h3, e]; simp only [e3]
                 first
                   | exact absurd e3 c_48
                   | (refine s_iret eX5_faultOf_58 rfl rfl ⟨?_, x1.tr x2, fun z => ?_⟩
                      · rw [e2] <;> rfl
                      · rw [e2] at z; exact absurd rfl z))
      · refine x_sipush (v := -202) eX5_faultOf_37 (by decide) ?_
        refine x_goto eX5_faultOf_40 ?_
        first
          | (have c0 : fstP (twR c) n ≠ none := c_34
             rcases fstP_cases (twR c) n with ⟨i, k, f, e⟩ | ⟨-, e⟩
             · have e2 : (ft metP (vr P c n) n c) = (-202, nI k) := by unfold ft; rw [if_neg h3, e]
               refine s_iret eX5_faultOf_58 rfl rfl ⟨?_, x1, fun _ => ?_⟩
               · rw [e2] <;> rfl
               · rw [e2]; exact y1 _ e
             · exact absurd e c_34)
          | (have e : fstP (twR c) n = none := Classical.not_not.mp c_34
             rcases fstP_cases (crR metP (vr P c n) n) n with ⟨i, k, f, e3⟩ | ⟨-, e3⟩
             · have e2 : (ft metP (vr P c n) n c) = (-203, nI (100 * i + k)) := by unfold ft; rw [if_neg h3, e]; simp only [e3]
               have hs : fstP (crR metP (vr P c n) n) n ≠ none := by rw [e3]; exact fun w => by cases w
               first
                 | exact (c_48 hs).elim
                 | (refine s_iret eX5_faultOf_58 rfl rfl ⟨?_, x1.tr x2, fun _ => ?_⟩
                    · rw [e2] <;> rfl
                    · rw [e2]; exact y2 _ e3)
             · have e2 : (ft metP (vr P c n) n c) = (0, 0) := by unfold ft; rw [if_neg h3, e]; simp only [e3]
               first
                 | exact absurd e3 c_48
                 | (refine s_iret eX5_faultOf_58 rfl rfl ⟨?_, x1.tr x2, fun z => ?_⟩
                    · rw [e2] <;> rfl
                    · rw [e2] at z; exact absurd rfl z))
    · refine x_aload_n eX5_faultOf_17 rfl ?_
      refine x_aload_n eX5_faultOf_18 rfl ?_
      refine s_geti eX5_faultOf_19 fX5_19 (kd_ring h.1) (show _ < 365 by omega) (by decide) ?_
      rw [h.2.2.1]
      refine s_puti eX5_faultOf_22 fX5_9 wX5_1 rfl (by decide) (by decide) ?_
      refine x_sipush (v := -201) eX5_faultOf_25 (by decide) ?_
      have e : (ft metP (vr P c n) n c) = (-201, nI n) := by unfold ft; rw [if_pos (by omega)]
      refine s_iret eX5_faultOf_28 rfl rfl ⟨by rw [e] <;> rfl, Fx.sF (by simp), fun _ => ?_⟩
      rw [e, setF_at, upd_at]
