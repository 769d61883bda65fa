/-! ===== the reference's rings of parcels; where a point lies ===== -/
def mpr (S : xS) (p n : Nat) (c : Nat → Nat) : Prop := p < 60 ∧ 0 < n ∧ n ≤ 12 ∧ S.2.1 15 p = nI n ∧ ∀ i, i < n → S.2.1 16 (12 * p + i) = nI (c i) ∧ c i < 200
theorem mpr.I {S S1 : xS} {p n : Nat} {c : Nat → Nat} (h : mpr S p n c) (a : S1.2.1 15 = S.2.1 15) (b : S1.2.1 16 = S.2.1 16) : mpr S1 p n c := ⟨h.1, h.2.1, h.2.2.1, by rw [a]; exact h.2.2.2.1, fun i hi => by rw [b]; exact h.2.2.2.2 i hi⟩
theorem mpr.gx {S S1 : xS} {p n : Nat} {c : Nat → Nat} (h : mpr S p n c) (g : Gx S S1) : mpr S1 p n c := h.I (g.2.2.1 _ (by decide)) (g.2.2.1 _ (by decide))
theorem mpr.lt {S : xS} {p n : Nat} {c : Nat → Nat} (h : mpr S p n c) (k : Nat) : c (k % n) < 200 := (h.2.2.2.2 _ (Nat.mod_lt _ h.2.1)).2
def mps (S : xS) (nc : Nat) (P : Nat → Pt) : Prop := ∀ s, s < nc ∨ s = 200 → pt S s (P s)
theorem mps.gx {S S1 : xS} {nc : Nat} {P : Nat → Pt} (h : mps S nc P) (hnc : nc ≤ 200) (g : Gx S S1) : mps S1 nc P := fun s hs => (h s hs).gx g (by omega)
theorem sp_X9_of (S : xS) {p n k : Nat} {c : Nat → Nat} (h : mpr S p n c) (hk : k < 2 ^ 30) : Sp mX9_of [.ref 0, .int (nI p), .int (nI k)] S (fun r S' => r = some (.int (nI (c (k % n)))) ∧ S' = S) := by
  obtain ⟨hp, n0, n12, e1, e2⟩ := h
  have lt := Nat.mod_lt k n0
  show XP _ _ [_, _, _] _ _ _
  refine x_aload_n eX9_of_0 rfl ?_
  refine s_getR (k := 16) eX9_of_1 fX9_61 rfl (by decide) (by decide) rfl ?_
  refine x_bipush (v := nI 12) eX9_of_4 (by decide) ?_
  refine x_iload_n eX9_of_6 rfl ?_
  first | refine x_imulN eX9_of_7 ?_ | refine x_imul eX9_of_7 ?_
  refine x_iload_n eX9_of_8 rfl ?_
  refine x_aload_n eX9_of_9 rfl ?_
  refine s_getR (k := 15) eX9_of_10 fX9_58 rfl (by decide) (by decide) rfl ?_
  refine x_iload_n eX9_of_13 rfl ?_
  refine s_iald eX9_of_14 rfl (by decide) rfl (show _ < 60 by omega) ?_
  rw [e1]
  refine x_iremN eX9_of_15 (by omega) (by omega) (by omega) ?_
  first | refine x_iaddN eX9_of_16 ?_ | refine x_iadd eX9_of_16 ?_
  refine s_iald eX9_of_17 rfl (by decide) rfl (show _ < 720 by omega) ?_
  rw [(e2 _ lt).1]
  exact s_iret eX9_of_18 rfl rfl ⟨rfl, rfl⟩
/-- what lies changes -/
def Ox (S S' : xS) : Prop := (∀ p, p ≠ 0 → S'.1 p = S.1 p) ∧ (∀ f, f ≠ 32 → S'.1 0 f = S.1 0 f) ∧ S'.2.1 = S.2.1 ∧ S'.2.2.2 = S.2.2.2 ∧ ∀ p, p ∉ [5, 6, 7] → S'.2.2.1 p = S.2.2.1 p
theorem Ox.rf (S : xS) : Ox S S := ⟨fun _ _ => rfl, fun _ _ => rfl, rfl, rfl, fun _ _ => rfl⟩
theorem Ox.tr {S S1 S2 : xS} (h : Ox S S1) (g : Ox S1 S2) : Ox S S2 := ⟨fun p hp => (g.1 p hp).trans (h.1 p hp), fun f a => (g.2.1 f a).trans (h.2.1 f a), g.2.2.1.trans h.2.2.1, g.2.2.2.1.trans h.2.2.2.1, fun p hp => (g.2.2.2.2 p hp).trans (h.2.2.2.2 p hp)⟩
theorem Lx.ox {S S1 : xS} (h : Lx [5, 6, 7] S S1) : Ox S S1 := ⟨fun p _ => by rw [h.1], fun f _ => by rw [h.1], h.2.1, h.2.2.1, h.2.2.2⟩
theorem Ox.set {S : xS} (x : Int32) : Ox S (setF S 0 (upd (S.1 0) 32 x)) := ⟨fun p hp => setF_ne S _ hp, fun f hf => by rw [setF_at, upd_ne _ _ hf], rfl, rfl, fun _ _ => rfl⟩
theorem Ox.gx {S S1 : xS} (h : Ox S S1) : Gx S S1 := ⟨h.1, fun f _ _ c => h.2.1 f c, fun p _ => by rw [h.2.2.1], h.2.2.2.1, fun p hp => h.2.2.2.2 p (fun q => hp (by simp at q ⊢; omega)), fun p j _ hp => by rw [h.2.2.2.2 p (by rcases hp with rfl | rfl <;> decide)]⟩
theorem pt.ox {S S1 : xS} {s : Nat} {P : Pt} (h : pt S s P) (g : Ox S S1) : pt S1 s P := by
  obtain ⟨a, b, c, d, e⟩ := h
  refine ⟨fun i hi => ?_, fun i hi => ?_, c, d, e⟩
  · rw [g.2.2.2.2 3 (by decide)]; exact a i hi
  · rw [g.2.2.2.2 4 (by decide)]; exact b i hi
theorem mps.ox {S S1 : xS} {nc : Nat} {P : Nat → Pt} (h : mps S nc P) (g : Ox S S1) : mps S1 nc P := fun s hs => (h s hs).ox g
theorem mpr.ox {S S1 : xS} {p n : Nat} {c : Nat → Nat} (h : mpr S p n c) (g : Ox S S1) : mpr S1 p n c := h.I (by rw [g.2.2.1]) (by rw [g.2.2.1])
def iI (z : Int) : Int32 := Int32.ofInt z
theorem iI_inc (z : Int) : iI z + Int32.ofInt 1 = iI (z + 1) := (Int32.ofInt_add z 1).symm
theorem iI_dec (z : Int) : iI z + Int32.ofInt (-1) = iI (z + -1) := (Int32.ofInt_add z (-1)).symm
theorem iI_eq0 {z : Int} (h : -100 ≤ z ∧ z ≤ 100) : iI z = 0 ↔ z = 0 := by
  constructor
  · intro e
    have := congrArg Int32.toInt e
    unfold iI at this
    rw [Int32.toInt_ofInt_of_le (by omega) (by omega)] at this
    exact this
  · intro e; rw [e]; rfl
theorem chi_bd (a b c : Pt) : -1 ≤ chi a b c ∧ chi a b c ≤ 1 := by
  unfold chi
  split
  · exact ⟨by decide, by decide⟩
  · split <;> exact ⟨by decide, by decide⟩
theorem sumZ_bd (f : Nat → Int) (h : ∀ i, -1 ≤ f i ∧ f i ≤ 1) : ∀ n : Nat, -(n : Int) ≤ sumZ f n ∧ sumZ f n ≤ n := by
  intro n
  induction n with
  | zero => exact ⟨Int.le_refl _, Int.le_refl _⟩
  | succ n ih => have := h n; show _ ≤ sumZ f n + f n ∧ sumZ f n + f n ≤ _; omega
def onR (v : Nat → Pt) (T : Pt) (k : Nat) : Prop := onP (v k) (v (k + 1)) T = true
noncomputable def lie (v : Nat → Pt) (n : Nat) (T : Pt) : Int32 := match fst1 (onR v T) n with
  | some _ => 0
  | none => if wnd v n T ≠ 0 then 1 else -1
noncomputable def oeI (v : Nat → Pt) (n : Nat) (T : Pt) : Int32 := match fst1 (onR v T) n with
  | some k => nI k
  | none => -1
/-- onEdge while the edges from k on are done -/
def oeK (v : Nat → Pt) (n : Nat) (T : Pt) (k : Nat) (x : Int32) : Prop := ((∀ i, k ≤ i → i < n → ¬ onR v T i) ∧ x = -1) ∨ ∃ i, k ≤ i ∧ i < n ∧ onR v T i ∧ (∀ j, k ≤ j → j < i → ¬ onR v T j) ∧ x = nI i
theorem oeK_s {v : Nat → Pt} {n : Nat} {T : Pt} {k : Nat} {x : Int32} (h : oeK v n T (k + 1) x) (hn : ¬ onR v T k) : oeK v n T k x := by
  rcases h with ⟨h, e⟩ | ⟨i, h1, h2, h3, h4, e⟩
  · refine Or.inl ⟨fun i a b => ?_, e⟩
    by_cases q : i = k
    · subst q; exact hn
    · exact h i (by omega) b
  · refine Or.inr ⟨i, by omega, h2, h3, fun j a b => ?_, e⟩
    by_cases q : j = k
    · subst q; exact hn
    · exact h4 j (by omega) b
theorem oeK_0 {v : Nat → Pt} {n : Nat} {T : Pt} {x : Int32} (h : oeK v n T 0 x) : x = oeI v n T ∧ ((∃ i, i < n ∧ x = nI i ∧ fst1 (onR v T) n = some i) ∨ (x = -1 ∧ fst1 (onR v T) n = none)) := by
  rcases h with ⟨h, e⟩ | ⟨i, h1, h2, h3, h4, e⟩
  · have := fst1_none (fun k hk => h k (by omega) hk)
    exact ⟨by unfold oeI; rw [this]; exact e, Or.inr ⟨e, this⟩⟩
  · have := fst1_some h2 h3 (fun j hj => h4 j (by omega) hj)
    exact ⟨by unfold oeI; rw [this]; exact e, Or.inl ⟨i, h2, e, this⟩⟩

theorem sp_X9_lies (S : xS) {nc p n s : Nat} {c : Nat → Nat} {P : Nat → Pt} {T : Pt} (hp : mps S nc P) (h : mpr S p n c) (hc : ∀ i, i < n → c i < nc) (hT : pt S s T) : Sp mX9_lies [.ref 0, .int (nI p), .int (nI s)] S (fun r S' => r = some (.int (lie (vr P c n) n T)) ∧ Ox S S' ∧ S'.1 0 32 = oeI (vr P c n) n T) := by
  have hp60 := h.1
  have n12 := h.2.2.1
  have n0 := h.2.1
  have sb := sumZ_bd (fun i => chi (vr P c n i) (vr P c n (i + 1)) T) (fun i => chi_bd _ _ _) n
  have loop : ∀ k, k ≤ n → ∀ S1, (Ox S S1 ∧ oeK (vr P c n) n T k (S1.1 0 32)) → XP mX9_lies 20 [(5, .int (dI k)), (4, .int (iI (sumZ (fun i => chi (vr P c n i) (vr P c n (i + 1)) T) n - sumZ (fun i => chi (vr P c n i) (vr P c n (i + 1)) T) k))), (3, .int (nI n)), (0, .ref 0), (1, .int (nI p)), (2, .int (nI s))] [] (xwS S1) (sQ (fun r S' => r = some (.int (lie (vr P c n) n T)) ∧ Ox S S' ∧ S'.1 0 32 = oeI (vr P c n) n T)) := by
    intro k
    induction k with
    | zero =>
      intro hk S1 h1
      obtain ⟨hx, hE⟩ := h1
      rw [dI_0]
      obtain ⟨e1, e2⟩ := oeK_0 hE
      refine x_iload eX9_lies_20 rfl ?_
      refine x_if_lt eX9_lies_22 (fun c_22 => ?_) (fun c_22 => ?_)
      · refine x_aload_n eX9_lies_161 rfl ?_
        refine s_geti eX9_lies_162 fX9_238 rfl (by decide) (by decide) ?_
        refine x_iconst (v := -1) eX9_lies_165 (by decide) ?_
        refine x_icmp_eq eX9_lies_166 (fun c_166 => ?_) (fun c_166 => ?_)
        · refine x_iload eX9_lies_173 rfl ?_
          refine x_if_eq eX9_lies_175 (fun c_175 => ?_) (fun c_175 => ?_)
          · refine x_iconst (v := -1) eX9_lies_182 (by decide) ?_
            refine s_iret eX9_lies_183 rfl rfl ⟨?_, hx, e1⟩
            rcases e2 with ⟨i, hi, e3, e4⟩ | ⟨e3, e4⟩
            · first
              | (unfold lie; rw [e4]; rfl)
              | (rw [e3] at c_166; exact absurd c_166 (nI_ne_m1 (by omega)))
            · first
              | exact absurd e3 c_166
              | (unfold lie; rw [e4]; show _ = some (Value.int (if wnd (vr P c n) n T ≠ 0 then 1 else -1))
                 have ew : sumZ (fun i => chi (vr P c n i) (vr P c n (i + 1)) T) n - sumZ (fun i => chi (vr P c n i) (vr P c n (i + 1)) T) 0 = wnd (vr P c n) n T := Int.sub_zero _
                 have bw : -100 ≤ wnd (vr P c n) n T ∧ wnd (vr P c n) n T ≤ 100 := by unfold wnd; omega
                 rw [ew, iI_eq0 bw] at c_175
                 first
                   | (rw [if_pos c_175] <;> rfl)
                   | (rw [if_neg (fun z => z c_175)] <;> rfl))
          · refine x_iconst (v := nI 1) eX9_lies_178 (by decide) ?_
            refine x_goto eX9_lies_179 ?_
            refine s_iret eX9_lies_183 rfl rfl ⟨?_, hx, e1⟩
            rcases e2 with ⟨i, hi, e3, e4⟩ | ⟨e3, e4⟩
            · first
              | (unfold lie; rw [e4]; rfl)
              | (rw [e3] at c_166; exact absurd c_166 (nI_ne_m1 (by omega)))
            · first
              | exact absurd e3 c_166
              | (unfold lie; rw [e4]; show _ = some (Value.int (if wnd (vr P c n) n T ≠ 0 then 1 else -1))
                 have ew : sumZ (fun i => chi (vr P c n i) (vr P c n (i + 1)) T) n - sumZ (fun i => chi (vr P c n i) (vr P c n (i + 1)) T) 0 = wnd (vr P c n) n T := Int.sub_zero _
                 have bw : -100 ≤ wnd (vr P c n) n T ∧ wnd (vr P c n) n T ≤ 100 := by unfold wnd; omega
                 rw [ew, iI_eq0 bw] at c_175
                 first
                   | (rw [if_pos c_175] <;> rfl)
                   | (rw [if_neg (fun z => z c_175)] <;> rfl))
        · refine x_iconst (v := nI 0) eX9_lies_169 (by decide) ?_
          refine x_goto eX9_lies_170 ?_
          refine s_iret eX9_lies_183 rfl rfl ⟨?_, hx, e1⟩
          rcases e2 with ⟨i, hi, e3, e4⟩ | ⟨e3, e4⟩
          · first
            | (unfold lie; rw [e4]; rfl)
            | (rw [e3] at c_166; exact absurd c_166 (nI_ne_m1 (by omega)))
          · first
            | exact absurd e3 c_166
            | (unfold lie; rw [e4]; show _ = some (Value.int (if wnd (vr P c n) n T ≠ 0 then 1 else -1))
               have ew : sumZ (fun i => chi (vr P c n i) (vr P c n (i + 1)) T) n - sumZ (fun i => chi (vr P c n i) (vr P c n (i + 1)) T) 0 = wnd (vr P c n) n T := Int.sub_zero _
               have bw : -100 ≤ wnd (vr P c n) n T ∧ wnd (vr P c n) n T ≤ 100 := by unfold wnd; omega
               rw [ew, iI_eq0 bw] at c_175
               first
                 | (rw [if_pos c_175] <;> rfl)
                 | (rw [if_neg (fun z => z c_175)] <;> rfl))
      · exact absurd (by decide) c_22
    | succ k ih =>
      intro hk S1 h1
      obtain ⟨hx, hE⟩ := h1
      rw [dI_s]
      have tT := hT.ox hx
      have g := h.ox hx
      have tA : pt S1 (c (k % n)) (P (c (k % n))) := (hp _ (Or.inl (hc _ (Nat.mod_lt _ h.2.1)))).ox hx
      have tB : pt S1 (c ((k + 1) % n)) (P (c ((k + 1) % n))) := (hp _ (Or.inl (hc _ (Nat.mod_lt _ h.2.1)))).ox hx
      have j79 : ∀ S2, Ox S S2 → oeK (vr P c n) n T k (S2.1 0 32) → XP mX9_lies 79 [(8, .int (sg (orP (vr P c n k) (vr P c n (k + 1)) T))), (7, .int (nI (c ((k + 1) % n)))), (6, .int (nI (c (k % n)))), (5, .int (nI k)), (4, .int (iI (sumZ (fun i => chi (vr P c n i) (vr P c n (i + 1)) T) n - sumZ (fun i => chi (vr P c n i) (vr P c n (i + 1)) T) (k + 1)))), (3, .int (nI n)), (0, .ref 0), (1, .int (nI p)), (2, .int (nI s))] [] (xwS S2) (sQ (fun r S' => r = some (.int (lie (vr P c n) n T)) ∧ Ox S S' ∧ S'.1 0 32 = oeI (vr P c n) n T)) := by
        intro S2 hx hE
        have tT := hT.ox hx
        have tA : pt S2 (c (k % n)) (P (c (k % n))) := (hp _ (Or.inl (hc _ (Nat.mod_lt _ h.2.1)))).ox hx
        have tB : pt S2 (c ((k + 1) % n)) (P (c ((k + 1) % n))) := (hp _ (Or.inl (hc _ (Nat.mod_lt _ h.2.1)))).ox hx
        have lA := tA.2.2.2.2
        have lB := tB.2.2.2.2
        have lT := tT.2.2.2.2
        have bA := tA.2.2.2.1
        have bB := tB.2.2.2.1
        have bT := tT.2.2.2.1
        show XP _ _ ((8, .int (sg (orP (P (c (k % n))) (P (c ((k + 1) % n))) T))) :: _) _ _ _
        refine x_aload_n eX9_lies_79 rfl ?_
        refine s_getR (k := 4) eX9_lies_80 fX9_19 rfl (by decide) (by decide) rfl ?_
        refine x_iload eX9_lies_83 rfl ?_
        refine x_iload_n eX9_lies_85 rfl ?_
        refine s_callS1 (As := [_, _, _]) eX9_lies_86 kX9_155 ⟨by decide, by decide⟩ rfl rfl (Nat.le_of_ble_eq_true rfl) (Nat.le_of_ble_eq_true rfl) (sp_X9_order (p := 4) rfl (by decide) (show _ ≤ 1010 by omega) (show _ ≤ 1010 by omega) _ _ _ tA.2.1 tT.2.1 ⟨by omega, by omega⟩ ⟨by omega, by omega⟩) (fun S_86 h_86 => ?_)
        have h_86 := h_86.symm
        subst h_86
        refine x_if_gtS eX9_lies_89 (fun c_89 => ?_) (fun c_89 => ?_)
        · refine x_iconst (v := nI 0) eX9_lies_96 (by decide) ?_
          refine x_istore (lv' := [_, _, _, _, _, _, _, _, _, _]) eX9_lies_97 (by decide) rfl ?_
          refine x_aload_n eX9_lies_99 rfl ?_
          refine s_getR (k := 4) eX9_lies_100 fX9_19 rfl (by decide) (by decide) rfl ?_
          refine x_iload eX9_lies_103 rfl ?_
          refine x_iload_n eX9_lies_105 rfl ?_
          refine s_callS1 (As := [_, _, _]) eX9_lies_106 kX9_155 ⟨by decide, by decide⟩ rfl rfl (Nat.le_of_ble_eq_true rfl) (Nat.le_of_ble_eq_true rfl) (sp_X9_order (p := 4) rfl (by decide) (show _ ≤ 1010 by omega) (show _ ≤ 1010 by omega) _ _ _ tB.2.1 tT.2.1 ⟨by omega, by omega⟩ ⟨by omega, by omega⟩) (fun S_106 h_106 => ?_)
          have h_106 := h_106.symm
          subst h_106
          refine x_if_gtS eX9_lies_109 (fun c_109 => ?_) (fun c_109 => ?_)
          · refine x_iconst (v := nI 0) eX9_lies_116 (by decide) ?_
            refine x_istore (lv' := [_, _, _, _, _, _, _, _, _, _, _]) eX9_lies_117 (by decide) rfl ?_
            refine x_iload eX9_lies_119 rfl ?_
            refine x_if_eqN eX9_lies_121 (by omega) (fun c_121 => ?_) (fun c_121 => ?_)
            · refine x_iload eX9_lies_137 rfl ?_
              refine x_if_neN eX9_lies_139 (by omega) (fun c_139 => ?_) (fun c_139 => ?_)
              · refine x_iinc (lv' := [_, _, _, _, _, _, _, _, _, _, _]) eX9_lies_155 rfl (nI_dec _) (by decide) rfl ?_
                refine x_goto eX9_lies_158 ?_
                refine x_pick [0, 6, 7, 8, 9, 10] rfl ?_
                first
                  | omega
                  | (have hw := ih (by omega) S2 ⟨hx, hE⟩
                     have e : sumZ (fun i => chi (vr P c n i) (vr P c n (i + 1)) T) (k + 1) = sumZ (fun i => chi (vr P c n i) (vr P c n (i + 1)) T) k + chi (P (c (k % n))) (P (c ((k + 1) % n))) T := rfl
                     first
                       | (have ec : chi (P (c (k % n))) (P (c ((k + 1) % n))) T = 1 := by unfold chi; rw [if_pos (by omega)]
                          rw [show sumZ (fun i => chi (vr P c n i) (vr P c n (i + 1)) T) n - sumZ (fun i => chi (vr P c n i) (vr P c n (i + 1)) T) (k + 1) + 1 = sumZ (fun i => chi (vr P c n i) (vr P c n (i + 1)) T) n - sumZ (fun i => chi (vr P c n i) (vr P c n (i + 1)) T) k by omega]; exact hw)
                       | (have ec : chi (P (c (k % n))) (P (c ((k + 1) % n))) T = -1 := by unfold chi; rw [if_neg (by omega), if_pos (by omega)]
                          rw [show sumZ (fun i => chi (vr P c n i) (vr P c n (i + 1)) T) n - sumZ (fun i => chi (vr P c n i) (vr P c n (i + 1)) T) (k + 1) + -1 = sumZ (fun i => chi (vr P c n i) (vr P c n (i + 1)) T) n - sumZ (fun i => chi (vr P c n i) (vr P c n (i + 1)) T) k by omega]; exact hw)
                       | (have ec : chi (P (c (k % n))) (P (c ((k + 1) % n))) T = 0 := by unfold chi; rw [if_neg (by omega), if_neg (by omega)]
                          rw [show sumZ (fun i => chi (vr P c n i) (vr P c n (i + 1)) T) n - sumZ (fun i => chi (vr P c n i) (vr P c n (i + 1)) T) (k + 1) = sumZ (fun i => chi (vr P c n i) (vr P c n (i + 1)) T) n - sumZ (fun i => chi (vr P c n i) (vr P c n (i + 1)) T) k by omega]; exact hw))
              · refine x_iload eX9_lies_142 rfl ?_
                refine x_if_eqN eX9_lies_144 (by omega) (fun c_144 => ?_) (fun c_144 => ?_)
                · refine x_iinc (lv' := [_, _, _, _, _, _, _, _, _, _, _]) eX9_lies_155 rfl (nI_dec _) (by decide) rfl ?_
                  refine x_goto eX9_lies_158 ?_
                  refine x_pick [0, 6, 7, 8, 9, 10] rfl ?_
                  first
                    | omega
                    | (have hw := ih (by omega) S2 ⟨hx, hE⟩
                       have e : sumZ (fun i => chi (vr P c n i) (vr P c n (i + 1)) T) (k + 1) = sumZ (fun i => chi (vr P c n i) (vr P c n (i + 1)) T) k + chi (P (c (k % n))) (P (c ((k + 1) % n))) T := rfl
                       first
                         | (have ec : chi (P (c (k % n))) (P (c ((k + 1) % n))) T = 1 := by unfold chi; rw [if_pos (by omega)]
                            rw [show sumZ (fun i => chi (vr P c n i) (vr P c n (i + 1)) T) n - sumZ (fun i => chi (vr P c n i) (vr P c n (i + 1)) T) (k + 1) + 1 = sumZ (fun i => chi (vr P c n i) (vr P c n (i + 1)) T) n - sumZ (fun i => chi (vr P c n i) (vr P c n (i + 1)) T) k by omega]; exact hw)
                         | (have ec : chi (P (c (k % n))) (P (c ((k + 1) % n))) T = -1 := by unfold chi; rw [if_neg (by omega), if_pos (by omega)]
                            rw [show sumZ (fun i => chi (vr P c n i) (vr P c n (i + 1)) T) n - sumZ (fun i => chi (vr P c n i) (vr P c n (i + 1)) T) (k + 1) + -1 = sumZ (fun i => chi (vr P c n i) (vr P c n (i + 1)) T) n - sumZ (fun i => chi (vr P c n i) (vr P c n (i + 1)) T) k by omega]; exact hw)
                         | (have ec : chi (P (c (k % n))) (P (c ((k + 1) % n))) T = 0 := by unfold chi; rw [if_neg (by omega), if_neg (by omega)]
                            rw [show sumZ (fun i => chi (vr P c n i) (vr P c n (i + 1)) T) n - sumZ (fun i => chi (vr P c n i) (vr P c n (i + 1)) T) (k + 1) = sumZ (fun i => chi (vr P c n i) (vr P c n (i + 1)) T) n - sumZ (fun i => chi (vr P c n i) (vr P c n (i + 1)) T) k by omega]; exact hw))
                · refine x_iload eX9_lies_147 rfl ?_
                  refine x_if_geS eX9_lies_149 (fun c_149 => ?_) (fun c_149 => ?_)
                  · refine x_iinc (lv' := [_, _, _, _, _, _, _, _, _, _, _]) eX9_lies_155 rfl (nI_dec _) (by decide) rfl ?_
                    refine x_goto eX9_lies_158 ?_
                    refine x_pick [0, 6, 7, 8, 9, 10] rfl ?_
                    first
                      | omega
                      | (have hw := ih (by omega) S2 ⟨hx, hE⟩
                         have e : sumZ (fun i => chi (vr P c n i) (vr P c n (i + 1)) T) (k + 1) = sumZ (fun i => chi (vr P c n i) (vr P c n (i + 1)) T) k + chi (P (c (k % n))) (P (c ((k + 1) % n))) T := rfl
                         first
                           | (have ec : chi (P (c (k % n))) (P (c ((k + 1) % n))) T = 1 := by unfold chi; rw [if_pos (by omega)]
                              rw [show sumZ (fun i => chi (vr P c n i) (vr P c n (i + 1)) T) n - sumZ (fun i => chi (vr P c n i) (vr P c n (i + 1)) T) (k + 1) + 1 = sumZ (fun i => chi (vr P c n i) (vr P c n (i + 1)) T) n - sumZ (fun i => chi (vr P c n i) (vr P c n (i + 1)) T) k by omega]; exact hw)
                           | (have ec : chi (P (c (k % n))) (P (c ((k + 1) % n))) T = -1 := by unfold chi; rw [if_neg (by omega), if_pos (by omega)]
                              rw [show sumZ (fun i => chi (vr P c n i) (vr P c n (i + 1)) T) n - sumZ (fun i => chi (vr P c n i) (vr P c n (i + 1)) T) (k + 1) + -1 = sumZ (fun i => chi (vr P c n i) (vr P c n (i + 1)) T) n - sumZ (fun i => chi (vr P c n i) (vr P c n (i + 1)) T) k by omega]; exact hw)
                           | (have ec : chi (P (c (k % n))) (P (c ((k + 1) % n))) T = 0 := by unfold chi; rw [if_neg (by omega), if_neg (by omega)]
                              rw [show sumZ (fun i => chi (vr P c n i) (vr P c n (i + 1)) T) n - sumZ (fun i => chi (vr P c n i) (vr P c n (i + 1)) T) (k + 1) = sumZ (fun i => chi (vr P c n i) (vr P c n (i + 1)) T) n - sumZ (fun i => chi (vr P c n i) (vr P c n (i + 1)) T) k by omega]; exact hw))
                  · refine x_iinc (lv' := [_, _, _, _, _, _, _, _, _, _, _]) eX9_lies_152 rfl (iI_dec _) (by decide) rfl ?_
                    refine x_iinc (lv' := [_, _, _, _, _, _, _, _, _, _, _]) eX9_lies_155 rfl (nI_dec _) (by decide) rfl ?_
                    refine x_goto eX9_lies_158 ?_
                    refine x_pick [0, 1, 7, 8, 9, 10] rfl ?_
                    first
                      | omega
                      | (have hw := ih (by omega) S2 ⟨hx, hE⟩
                         have e : sumZ (fun i => chi (vr P c n i) (vr P c n (i + 1)) T) (k + 1) = sumZ (fun i => chi (vr P c n i) (vr P c n (i + 1)) T) k + chi (P (c (k % n))) (P (c ((k + 1) % n))) T := rfl
                         first
                           | (have ec : chi (P (c (k % n))) (P (c ((k + 1) % n))) T = 1 := by unfold chi; rw [if_pos (by omega)]
                              rw [show sumZ (fun i => chi (vr P c n i) (vr P c n (i + 1)) T) n - sumZ (fun i => chi (vr P c n i) (vr P c n (i + 1)) T) (k + 1) + 1 = sumZ (fun i => chi (vr P c n i) (vr P c n (i + 1)) T) n - sumZ (fun i => chi (vr P c n i) (vr P c n (i + 1)) T) k by omega]; exact hw)
                           | (have ec : chi (P (c (k % n))) (P (c ((k + 1) % n))) T = -1 := by unfold chi; rw [if_neg (by omega), if_pos (by omega)]
                              rw [show sumZ (fun i => chi (vr P c n i) (vr P c n (i + 1)) T) n - sumZ (fun i => chi (vr P c n i) (vr P c n (i + 1)) T) (k + 1) + -1 = sumZ (fun i => chi (vr P c n i) (vr P c n (i + 1)) T) n - sumZ (fun i => chi (vr P c n i) (vr P c n (i + 1)) T) k by omega]; exact hw)
                           | (have ec : chi (P (c (k % n))) (P (c ((k + 1) % n))) T = 0 := by unfold chi; rw [if_neg (by omega), if_neg (by omega)]
                              rw [show sumZ (fun i => chi (vr P c n i) (vr P c n (i + 1)) T) n - sumZ (fun i => chi (vr P c n i) (vr P c n (i + 1)) T) (k + 1) = sumZ (fun i => chi (vr P c n i) (vr P c n (i + 1)) T) n - sumZ (fun i => chi (vr P c n i) (vr P c n (i + 1)) T) k by omega]; exact hw))
            · refine x_iload eX9_lies_124 rfl ?_
              refine x_if_neN eX9_lies_126 (by omega) (fun c_126 => ?_) (fun c_126 => ?_)
              · refine x_iload eX9_lies_137 rfl ?_
                refine x_if_neN eX9_lies_139 (by omega) (fun c_139 => ?_) (fun c_139 => ?_)
                · refine x_iinc (lv' := [_, _, _, _, _, _, _, _, _, _, _]) eX9_lies_155 rfl (nI_dec _) (by decide) rfl ?_
                  refine x_goto eX9_lies_158 ?_
                  refine x_pick [0, 6, 7, 8, 9, 10] rfl ?_
                  first
                    | omega
                    | (have hw := ih (by omega) S2 ⟨hx, hE⟩
                       have e : sumZ (fun i => chi (vr P c n i) (vr P c n (i + 1)) T) (k + 1) = sumZ (fun i => chi (vr P c n i) (vr P c n (i + 1)) T) k + chi (P (c (k % n))) (P (c ((k + 1) % n))) T := rfl
                       first
                         | (have ec : chi (P (c (k % n))) (P (c ((k + 1) % n))) T = 1 := by unfold chi; rw [if_pos (by omega)]
                            rw [show sumZ (fun i => chi (vr P c n i) (vr P c n (i + 1)) T) n - sumZ (fun i => chi (vr P c n i) (vr P c n (i + 1)) T) (k + 1) + 1 = sumZ (fun i => chi (vr P c n i) (vr P c n (i + 1)) T) n - sumZ (fun i => chi (vr P c n i) (vr P c n (i + 1)) T) k by omega]; exact hw)
                         | (have ec : chi (P (c (k % n))) (P (c ((k + 1) % n))) T = -1 := by unfold chi; rw [if_neg (by omega), if_pos (by omega)]
                            rw [show sumZ (fun i => chi (vr P c n i) (vr P c n (i + 1)) T) n - sumZ (fun i => chi (vr P c n i) (vr P c n (i + 1)) T) (k + 1) + -1 = sumZ (fun i => chi (vr P c n i) (vr P c n (i + 1)) T) n - sumZ (fun i => chi (vr P c n i) (vr P c n (i + 1)) T) k by omega]; exact hw)
                         | (have ec : chi (P (c (k % n))) (P (c ((k + 1) % n))) T = 0 := by unfold chi; rw [if_neg (by omega), if_neg (by omega)]
                            rw [show sumZ (fun i => chi (vr P c n i) (vr P c n (i + 1)) T) n - sumZ (fun i => chi (vr P c n i) (vr P c n (i + 1)) T) (k + 1) = sumZ (fun i => chi (vr P c n i) (vr P c n (i + 1)) T) n - sumZ (fun i => chi (vr P c n i) (vr P c n (i + 1)) T) k by omega]; exact hw))
                · refine x_iload eX9_lies_142 rfl ?_
                  refine x_if_eqN eX9_lies_144 (by omega) (fun c_144 => ?_) (fun c_144 => ?_)
                  · refine x_iinc (lv' := [_, _, _, _, _, _, _, _, _, _, _]) eX9_lies_155 rfl (nI_dec _) (by decide) rfl ?_
                    refine x_goto eX9_lies_158 ?_
                    refine x_pick [0, 6, 7, 8, 9, 10] rfl ?_
                    first
                      | omega
                      | (have hw := ih (by omega) S2 ⟨hx, hE⟩
                         have e : sumZ (fun i => chi (vr P c n i) (vr P c n (i + 1)) T) (k + 1) = sumZ (fun i => chi (vr P c n i) (vr P c n (i + 1)) T) k + chi (P (c (k % n))) (P (c ((k + 1) % n))) T := rfl
                         first
                           | (have ec : chi (P (c (k % n))) (P (c ((k + 1) % n))) T = 1 := by unfold chi; rw [if_pos (by omega)]
                              rw [show sumZ (fun i => chi (vr P c n i) (vr P c n (i + 1)) T) n - sumZ (fun i => chi (vr P c n i) (vr P c n (i + 1)) T) (k + 1) + 1 = sumZ (fun i => chi (vr P c n i) (vr P c n (i + 1)) T) n - sumZ (fun i => chi (vr P c n i) (vr P c n (i + 1)) T) k by omega]; exact hw)
                           | (have ec : chi (P (c (k % n))) (P (c ((k + 1) % n))) T = -1 := by unfold chi; rw [if_neg (by omega), if_pos (by omega)]
                              rw [show sumZ (fun i => chi (vr P c n i) (vr P c n (i + 1)) T) n - sumZ (fun i => chi (vr P c n i) (vr P c n (i + 1)) T) (k + 1) + -1 = sumZ (fun i => chi (vr P c n i) (vr P c n (i + 1)) T) n - sumZ (fun i => chi (vr P c n i) (vr P c n (i + 1)) T) k by omega]; exact hw)
                           | (have ec : chi (P (c (k % n))) (P (c ((k + 1) % n))) T = 0 := by unfold chi; rw [if_neg (by omega), if_neg (by omega)]
                              rw [show sumZ (fun i => chi (vr P c n i) (vr P c n (i + 1)) T) n - sumZ (fun i => chi (vr P c n i) (vr P c n (i + 1)) T) (k + 1) = sumZ (fun i => chi (vr P c n i) (vr P c n (i + 1)) T) n - sumZ (fun i => chi (vr P c n i) (vr P c n (i + 1)) T) k by omega]; exact hw))
                  · refine x_iload eX9_lies_147 rfl ?_
                    refine x_if_geS eX9_lies_149 (fun c_149 => ?_) (fun c_149 => ?_)
                    · refine x_iinc (lv' := [_, _, _, _, _, _, _, _, _, _, _]) eX9_lies_155 rfl (nI_dec _) (by decide) rfl ?_
                      refine x_goto eX9_lies_158 ?_
                      refine x_pick [0, 6, 7, 8, 9, 10] rfl ?_
                      first
                        | omega
                        | (have hw := ih (by omega) S2 ⟨hx, hE⟩
                           have e : sumZ (fun i => chi (vr P c n i) (vr P c n (i + 1)) T) (k + 1) = sumZ (fun i => chi (vr P c n i) (vr P c n (i + 1)) T) k + chi (P (c (k % n))) (P (c ((k + 1) % n))) T := rfl
                           first
                             | (have ec : chi (P (c (k % n))) (P (c ((k + 1) % n))) T = 1 := by unfold chi; rw [if_pos (by omega)]
                                rw [show sumZ (fun i => chi (vr P c n i) (vr P c n (i + 1)) T) n - sumZ (fun i => chi (vr P c n i) (vr P c n (i + 1)) T) (k + 1) + 1 = sumZ (fun i => chi (vr P c n i) (vr P c n (i + 1)) T) n - sumZ (fun i => chi (vr P c n i) (vr P c n (i + 1)) T) k by omega]; exact hw)
                             | (have ec : chi (P (c (k % n))) (P (c ((k + 1) % n))) T = -1 := by unfold chi; rw [if_neg (by omega), if_pos (by omega)]
                                rw [show sumZ (fun i => chi (vr P c n i) (vr P c n (i + 1)) T) n - sumZ (fun i => chi (vr P c n i) (vr P c n (i + 1)) T) (k + 1) + -1 = sumZ (fun i => chi (vr P c n i) (vr P c n (i + 1)) T) n - sumZ (fun i => chi (vr P c n i) (vr P c n (i + 1)) T) k by omega]; exact hw)
                             | (have ec : chi (P (c (k % n))) (P (c ((k + 1) % n))) T = 0 := by unfold chi; rw [if_neg (by omega), if_neg (by omega)]
                                rw [show sumZ (fun i => chi (vr P c n i) (vr P c n (i + 1)) T) n - sumZ (fun i => chi (vr P c n i) (vr P c n (i + 1)) T) (k + 1) = sumZ (fun i => chi (vr P c n i) (vr P c n (i + 1)) T) n - sumZ (fun i => chi (vr P c n i) (vr P c n (i + 1)) T) k by omega]; exact hw))
                    · refine x_iinc (lv' := [_, _, _, _, _, _, _, _, _, _, _]) eX9_lies_152 rfl (iI_dec _) (by decide) rfl ?_
                      refine x_iinc (lv' := [_, _, _, _, _, _, _, _, _, _, _]) eX9_lies_155 rfl (nI_dec _) (by decide) rfl ?_
                      refine x_goto eX9_lies_158 ?_
                      refine x_pick [0, 1, 7, 8, 9, 10] rfl ?_
                      first
                        | omega
                        | (have hw := ih (by omega) S2 ⟨hx, hE⟩
                           have e : sumZ (fun i => chi (vr P c n i) (vr P c n (i + 1)) T) (k + 1) = sumZ (fun i => chi (vr P c n i) (vr P c n (i + 1)) T) k + chi (P (c (k % n))) (P (c ((k + 1) % n))) T := rfl
                           first
                             | (have ec : chi (P (c (k % n))) (P (c ((k + 1) % n))) T = 1 := by unfold chi; rw [if_pos (by omega)]
                                rw [show sumZ (fun i => chi (vr P c n i) (vr P c n (i + 1)) T) n - sumZ (fun i => chi (vr P c n i) (vr P c n (i + 1)) T) (k + 1) + 1 = sumZ (fun i => chi (vr P c n i) (vr P c n (i + 1)) T) n - sumZ (fun i => chi (vr P c n i) (vr P c n (i + 1)) T) k by omega]; exact hw)
                             | (have ec : chi (P (c (k % n))) (P (c ((k + 1) % n))) T = -1 := by unfold chi; rw [if_neg (by omega), if_pos (by omega)]
                                rw [show sumZ (fun i => chi (vr P c n i) (vr P c n (i + 1)) T) n - sumZ (fun i => chi (vr P c n i) (vr P c n (i + 1)) T) (k + 1) + -1 = sumZ (fun i => chi (vr P c n i) (vr P c n (i + 1)) T) n - sumZ (fun i => chi (vr P c n i) (vr P c n (i + 1)) T) k by omega]; exact hw)
                             | (have ec : chi (P (c (k % n))) (P (c ((k + 1) % n))) T = 0 := by unfold chi; rw [if_neg (by omega), if_neg (by omega)]
                                rw [show sumZ (fun i => chi (vr P c n i) (vr P c n (i + 1)) T) n - sumZ (fun i => chi (vr P c n i) (vr P c n (i + 1)) T) (k + 1) = sumZ (fun i => chi (vr P c n i) (vr P c n (i + 1)) T) n - sumZ (fun i => chi (vr P c n i) (vr P c n (i + 1)) T) k by omega]; exact hw))
              · refine x_iload eX9_lies_129 rfl ?_
                refine x_if_leS eX9_lies_131 (fun c_131 => ?_) (fun c_131 => ?_)
                · refine x_iload eX9_lies_137 rfl ?_
                  refine x_if_neN eX9_lies_139 (by omega) (fun c_139 => ?_) (fun c_139 => ?_)
                  · refine x_iinc (lv' := [_, _, _, _, _, _, _, _, _, _, _]) eX9_lies_155 rfl (nI_dec _) (by decide) rfl ?_
                    refine x_goto eX9_lies_158 ?_
                    refine x_pick [0, 6, 7, 8, 9, 10] rfl ?_
                    first
                      | omega
                      | (have hw := ih (by omega) S2 ⟨hx, hE⟩
                         have e : sumZ (fun i => chi (vr P c n i) (vr P c n (i + 1)) T) (k + 1) = sumZ (fun i => chi (vr P c n i) (vr P c n (i + 1)) T) k + chi (P (c (k % n))) (P (c ((k + 1) % n))) T := rfl
                         first
                           | (have ec : chi (P (c (k % n))) (P (c ((k + 1) % n))) T = 1 := by unfold chi; rw [if_pos (by omega)]
                              rw [show sumZ (fun i => chi (vr P c n i) (vr P c n (i + 1)) T) n - sumZ (fun i => chi (vr P c n i) (vr P c n (i + 1)) T) (k + 1) + 1 = sumZ (fun i => chi (vr P c n i) (vr P c n (i + 1)) T) n - sumZ (fun i => chi (vr P c n i) (vr P c n (i + 1)) T) k by omega]; exact hw)
                           | (have ec : chi (P (c (k % n))) (P (c ((k + 1) % n))) T = -1 := by unfold chi; rw [if_neg (by omega), if_pos (by omega)]
                              rw [show sumZ (fun i => chi (vr P c n i) (vr P c n (i + 1)) T) n - sumZ (fun i => chi (vr P c n i) (vr P c n (i + 1)) T) (k + 1) + -1 = sumZ (fun i => chi (vr P c n i) (vr P c n (i + 1)) T) n - sumZ (fun i => chi (vr P c n i) (vr P c n (i + 1)) T) k by omega]; exact hw)
                           | (have ec : chi (P (c (k % n))) (P (c ((k + 1) % n))) T = 0 := by unfold chi; rw [if_neg (by omega), if_neg (by omega)]
                              rw [show sumZ (fun i => chi (vr P c n i) (vr P c n (i + 1)) T) n - sumZ (fun i => chi (vr P c n i) (vr P c n (i + 1)) T) (k + 1) = sumZ (fun i => chi (vr P c n i) (vr P c n (i + 1)) T) n - sumZ (fun i => chi (vr P c n i) (vr P c n (i + 1)) T) k by omega]; exact hw))
                  · refine x_iload eX9_lies_142 rfl ?_
                    refine x_if_eqN eX9_lies_144 (by omega) (fun c_144 => ?_) (fun c_144 => ?_)
                    · refine x_iinc (lv' := [_, _, _, _, _, _, _, _, _, _, _]) eX9_lies_155 rfl (nI_dec _) (by decide) rfl ?_
                      refine x_goto eX9_lies_158 ?_
                      refine x_pick [0, 6, 7, 8, 9, 10] rfl ?_
                      first
                        | omega
                        | (have hw := ih (by omega) S2 ⟨hx, hE⟩
                           have e : sumZ (fun i => chi (vr P c n i) (vr P c n (i + 1)) T) (k + 1) = sumZ (fun i => chi (vr P c n i) (vr P c n (i + 1)) T) k + chi (P (c (k % n))) (P (c ((k + 1) % n))) T := rfl
                           first
                             | (have ec : chi (P (c (k % n))) (P (c ((k + 1) % n))) T = 1 := by unfold chi; rw [if_pos (by omega)]
                                rw [show sumZ (fun i => chi (vr P c n i) (vr P c n (i + 1)) T) n - sumZ (fun i => chi (vr P c n i) (vr P c n (i + 1)) T) (k + 1) + 1 = sumZ (fun i => chi (vr P c n i) (vr P c n (i + 1)) T) n - sumZ (fun i => chi (vr P c n i) (vr P c n (i + 1)) T) k by omega]; exact hw)
                             | (have ec : chi (P (c (k % n))) (P (c ((k + 1) % n))) T = -1 := by unfold chi; rw [if_neg (by omega), if_pos (by omega)]
                                rw [show sumZ (fun i => chi (vr P c n i) (vr P c n (i + 1)) T) n - sumZ (fun i => chi (vr P c n i) (vr P c n (i + 1)) T) (k + 1) + -1 = sumZ (fun i => chi (vr P c n i) (vr P c n (i + 1)) T) n - sumZ (fun i => chi (vr P c n i) (vr P c n (i + 1)) T) k by omega]; exact hw)
                             | (have ec : chi (P (c (k % n))) (P (c ((k + 1) % n))) T = 0 := by unfold chi; rw [if_neg (by omega), if_neg (by omega)]
                                rw [show sumZ (fun i => chi (vr P c n i) (vr P c n (i + 1)) T) n - sumZ (fun i => chi (vr P c n i) (vr P c n (i + 1)) T) (k + 1) = sumZ (fun i => chi (vr P c n i) (vr P c n (i + 1)) T) n - sumZ (fun i => chi (vr P c n i) (vr P c n (i + 1)) T) k by omega]; exact hw))
                    · refine x_iload eX9_lies_147 rfl ?_
                      refine x_if_geS eX9_lies_149 (fun c_149 => ?_) (fun c_149 => ?_)
                      · refine x_iinc (lv' := [_, _, _, _, _, _, _, _, _, _, _]) eX9_lies_155 rfl (nI_dec _) (by decide) rfl ?_
                        refine x_goto eX9_lies_158 ?_
                        refine x_pick [0, 6, 7, 8, 9, 10] rfl ?_
                        first
                          | omega
                          | (have hw := ih (by omega) S2 ⟨hx, hE⟩
                             have e : sumZ (fun i => chi (vr P c n i) (vr P c n (i + 1)) T) (k + 1) = sumZ (fun i => chi (vr P c n i) (vr P c n (i + 1)) T) k + chi (P (c (k % n))) (P (c ((k + 1) % n))) T := rfl
                             first
                               | (have ec : chi (P (c (k % n))) (P (c ((k + 1) % n))) T = 1 := by unfold chi; rw [if_pos (by omega)]
                                  rw [show sumZ (fun i => chi (vr P c n i) (vr P c n (i + 1)) T) n - sumZ (fun i => chi (vr P c n i) (vr P c n (i + 1)) T) (k + 1) + 1 = sumZ (fun i => chi (vr P c n i) (vr P c n (i + 1)) T) n - sumZ (fun i => chi (vr P c n i) (vr P c n (i + 1)) T) k by omega]; exact hw)
                               | (have ec : chi (P (c (k % n))) (P (c ((k + 1) % n))) T = -1 := by unfold chi; rw [if_neg (by omega), if_pos (by omega)]
                                  rw [show sumZ (fun i => chi (vr P c n i) (vr P c n (i + 1)) T) n - sumZ (fun i => chi (vr P c n i) (vr P c n (i + 1)) T) (k + 1) + -1 = sumZ (fun i => chi (vr P c n i) (vr P c n (i + 1)) T) n - sumZ (fun i => chi (vr P c n i) (vr P c n (i + 1)) T) k by omega]; exact hw)
                               | (have ec : chi (P (c (k % n))) (P (c ((k + 1) % n))) T = 0 := by unfold chi; rw [if_neg (by omega), if_neg (by omega)]
                                  rw [show sumZ (fun i => chi (vr P c n i) (vr P c n (i + 1)) T) n - sumZ (fun i => chi (vr P c n i) (vr P c n (i + 1)) T) (k + 1) = sumZ (fun i => chi (vr P c n i) (vr P c n (i + 1)) T) n - sumZ (fun i => chi (vr P c n i) (vr P c n (i + 1)) T) k by omega]; exact hw))
                      · refine x_iinc (lv' := [_, _, _, _, _, _, _, _, _, _, _]) eX9_lies_152 rfl (iI_dec _) (by decide) rfl ?_
                        refine x_iinc (lv' := [_, _, _, _, _, _, _, _, _, _, _]) eX9_lies_155 rfl (nI_dec _) (by decide) rfl ?_
                        refine x_goto eX9_lies_158 ?_
                        refine x_pick [0, 1, 7, 8, 9, 10] rfl ?_
                        first
                          | omega
                          | (have hw := ih (by omega) S2 ⟨hx, hE⟩
                             have e : sumZ (fun i => chi (vr P c n i) (vr P c n (i + 1)) T) (k + 1) = sumZ (fun i => chi (vr P c n i) (vr P c n (i + 1)) T) k + chi (P (c (k % n))) (P (c ((k + 1) % n))) T := rfl
                             first
                               | (have ec : chi (P (c (k % n))) (P (c ((k + 1) % n))) T = 1 := by unfold chi; rw [if_pos (by omega)]
                                  rw [show sumZ (fun i => chi (vr P c n i) (vr P c n (i + 1)) T) n - sumZ (fun i => chi (vr P c n i) (vr P c n (i + 1)) T) (k + 1) + 1 = sumZ (fun i => chi (vr P c n i) (vr P c n (i + 1)) T) n - sumZ (fun i => chi (vr P c n i) (vr P c n (i + 1)) T) k by omega]; exact hw)
                               | (have ec : chi (P (c (k % n))) (P (c ((k + 1) % n))) T = -1 := by unfold chi; rw [if_neg (by omega), if_pos (by omega)]
                                  rw [show sumZ (fun i => chi (vr P c n i) (vr P c n (i + 1)) T) n - sumZ (fun i => chi (vr P c n i) (vr P c n (i + 1)) T) (k + 1) + -1 = sumZ (fun i => chi (vr P c n i) (vr P c n (i + 1)) T) n - sumZ (fun i => chi (vr P c n i) (vr P c n (i + 1)) T) k by omega]; exact hw)
                               | (have ec : chi (P (c (k % n))) (P (c ((k + 1) % n))) T = 0 := by unfold chi; rw [if_neg (by omega), if_neg (by omega)]
                                  rw [show sumZ (fun i => chi (vr P c n i) (vr P c n (i + 1)) T) n - sumZ (fun i => chi (vr P c n i) (vr P c n (i + 1)) T) (k + 1) = sumZ (fun i => chi (vr P c n i) (vr P c n (i + 1)) T) n - sumZ (fun i => chi (vr P c n i) (vr P c n (i + 1)) T) k by omega]; exact hw))
                · refine x_iinc (lv' := [_, _, _, _, _, _, _, _, _, _, _]) eX9_lies_134 rfl (iI_inc _) (by decide) rfl ?_
                  refine x_iload eX9_lies_137 rfl ?_
                  refine x_if_neN eX9_lies_139 (by omega) (fun c_139 => ?_) (fun c_139 => ?_)
                  · refine x_iinc (lv' := [_, _, _, _, _, _, _, _, _, _, _]) eX9_lies_155 rfl (nI_dec _) (by decide) rfl ?_
                    refine x_goto eX9_lies_158 ?_
                    refine x_pick [0, 1, 7, 8, 9, 10] rfl ?_
                    first
                      | omega
                      | (have hw := ih (by omega) S2 ⟨hx, hE⟩
                         have e : sumZ (fun i => chi (vr P c n i) (vr P c n (i + 1)) T) (k + 1) = sumZ (fun i => chi (vr P c n i) (vr P c n (i + 1)) T) k + chi (P (c (k % n))) (P (c ((k + 1) % n))) T := rfl
                         first
                           | (have ec : chi (P (c (k % n))) (P (c ((k + 1) % n))) T = 1 := by unfold chi; rw [if_pos (by omega)]
                              rw [show sumZ (fun i => chi (vr P c n i) (vr P c n (i + 1)) T) n - sumZ (fun i => chi (vr P c n i) (vr P c n (i + 1)) T) (k + 1) + 1 = sumZ (fun i => chi (vr P c n i) (vr P c n (i + 1)) T) n - sumZ (fun i => chi (vr P c n i) (vr P c n (i + 1)) T) k by omega]; exact hw)
                           | (have ec : chi (P (c (k % n))) (P (c ((k + 1) % n))) T = -1 := by unfold chi; rw [if_neg (by omega), if_pos (by omega)]
                              rw [show sumZ (fun i => chi (vr P c n i) (vr P c n (i + 1)) T) n - sumZ (fun i => chi (vr P c n i) (vr P c n (i + 1)) T) (k + 1) + -1 = sumZ (fun i => chi (vr P c n i) (vr P c n (i + 1)) T) n - sumZ (fun i => chi (vr P c n i) (vr P c n (i + 1)) T) k by omega]; exact hw)
                           | (have ec : chi (P (c (k % n))) (P (c ((k + 1) % n))) T = 0 := by unfold chi; rw [if_neg (by omega), if_neg (by omega)]
                              rw [show sumZ (fun i => chi (vr P c n i) (vr P c n (i + 1)) T) n - sumZ (fun i => chi (vr P c n i) (vr P c n (i + 1)) T) (k + 1) = sumZ (fun i => chi (vr P c n i) (vr P c n (i + 1)) T) n - sumZ (fun i => chi (vr P c n i) (vr P c n (i + 1)) T) k by omega]; exact hw))
                  · refine x_iload eX9_lies_142 rfl ?_
                    refine x_if_eqN eX9_lies_144 (by omega) (fun c_144 => ?_) (fun c_144 => ?_)
                    · refine x_iinc (lv' := [_, _, _, _, _, _, _, _, _, _, _]) eX9_lies_155 rfl (nI_dec _) (by decide) rfl ?_
                      refine x_goto eX9_lies_158 ?_
                      refine x_pick [0, 1, 7, 8, 9, 10] rfl ?_
                      first
                        | omega
                        | (have hw := ih (by omega) S2 ⟨hx, hE⟩
                           have e : sumZ (fun i => chi (vr P c n i) (vr P c n (i + 1)) T) (k + 1) = sumZ (fun i => chi (vr P c n i) (vr P c n (i + 1)) T) k + chi (P (c (k % n))) (P (c ((k + 1) % n))) T := rfl
                           first
                             | (have ec : chi (P (c (k % n))) (P (c ((k + 1) % n))) T = 1 := by unfold chi; rw [if_pos (by omega)]
                                rw [show sumZ (fun i => chi (vr P c n i) (vr P c n (i + 1)) T) n - sumZ (fun i => chi (vr P c n i) (vr P c n (i + 1)) T) (k + 1) + 1 = sumZ (fun i => chi (vr P c n i) (vr P c n (i + 1)) T) n - sumZ (fun i => chi (vr P c n i) (vr P c n (i + 1)) T) k by omega]; exact hw)
                             | (have ec : chi (P (c (k % n))) (P (c ((k + 1) % n))) T = -1 := by unfold chi; rw [if_neg (by omega), if_pos (by omega)]
                                rw [show sumZ (fun i => chi (vr P c n i) (vr P c n (i + 1)) T) n - sumZ (fun i => chi (vr P c n i) (vr P c n (i + 1)) T) (k + 1) + -1 = sumZ (fun i => chi (vr P c n i) (vr P c n (i + 1)) T) n - sumZ (fun i => chi (vr P c n i) (vr P c n (i + 1)) T) k by omega]; exact hw)
                             | (have ec : chi (P (c (k % n))) (P (c ((k + 1) % n))) T = 0 := by unfold chi; rw [if_neg (by omega), if_neg (by omega)]
                                rw [show sumZ (fun i => chi (vr P c n i) (vr P c n (i + 1)) T) n - sumZ (fun i => chi (vr P c n i) (vr P c n (i + 1)) T) (k + 1) = sumZ (fun i => chi (vr P c n i) (vr P c n (i + 1)) T) n - sumZ (fun i => chi (vr P c n i) (vr P c n (i + 1)) T) k by omega]; exact hw))
                    · refine x_iload eX9_lies_147 rfl ?_
                      refine x_if_geS eX9_lies_149 (fun c_149 => ?_) (fun c_149 => ?_)
                      · refine x_iinc (lv' := [_, _, _, _, _, _, _, _, _, _, _]) eX9_lies_155 rfl (nI_dec _) (by decide) rfl ?_
                        refine x_goto eX9_lies_158 ?_
                        refine x_pick [0, 1, 7, 8, 9, 10] rfl ?_
                        first
                          | omega
                          | (have hw := ih (by omega) S2 ⟨hx, hE⟩
                             have e : sumZ (fun i => chi (vr P c n i) (vr P c n (i + 1)) T) (k + 1) = sumZ (fun i => chi (vr P c n i) (vr P c n (i + 1)) T) k + chi (P (c (k % n))) (P (c ((k + 1) % n))) T := rfl
                             first
                               | (have ec : chi (P (c (k % n))) (P (c ((k + 1) % n))) T = 1 := by unfold chi; rw [if_pos (by omega)]
                                  rw [show sumZ (fun i => chi (vr P c n i) (vr P c n (i + 1)) T) n - sumZ (fun i => chi (vr P c n i) (vr P c n (i + 1)) T) (k + 1) + 1 = sumZ (fun i => chi (vr P c n i) (vr P c n (i + 1)) T) n - sumZ (fun i => chi (vr P c n i) (vr P c n (i + 1)) T) k by omega]; exact hw)
                               | (have ec : chi (P (c (k % n))) (P (c ((k + 1) % n))) T = -1 := by unfold chi; rw [if_neg (by omega), if_pos (by omega)]
                                  rw [show sumZ (fun i => chi (vr P c n i) (vr P c n (i + 1)) T) n - sumZ (fun i => chi (vr P c n i) (vr P c n (i + 1)) T) (k + 1) + -1 = sumZ (fun i => chi (vr P c n i) (vr P c n (i + 1)) T) n - sumZ (fun i => chi (vr P c n i) (vr P c n (i + 1)) T) k by omega]; exact hw)
                               | (have ec : chi (P (c (k % n))) (P (c ((k + 1) % n))) T = 0 := by unfold chi; rw [if_neg (by omega), if_neg (by omega)]
                                  rw [show sumZ (fun i => chi (vr P c n i) (vr P c n (i + 1)) T) n - sumZ (fun i => chi (vr P c n i) (vr P c n (i + 1)) T) (k + 1) = sumZ (fun i => chi (vr P c n i) (vr P c n (i + 1)) T) n - sumZ (fun i => chi (vr P c n i) (vr P c n (i + 1)) T) k by omega]; exact hw))
                      · refine x_iinc (lv' := [_, _, _, _, _, _, _, _, _, _, _]) eX9_lies_152 rfl (iI_dec _) (by decide) rfl ?_
                        refine x_iinc (lv' := [_, _, _, _, _, _, _, _, _, _, _]) eX9_lies_155 rfl (nI_dec _) (by decide) rfl ?_
                        refine x_goto eX9_lies_158 ?_
                        refine x_pick [0, 1, 7, 8, 9, 10] rfl ?_
                        first
                          | omega
                          | (have hw := ih (by omega) S2 ⟨hx, hE⟩
                             have e : sumZ (fun i => chi (vr P c n i) (vr P c n (i + 1)) T) (k + 1) = sumZ (fun i => chi (vr P c n i) (vr P c n (i + 1)) T) k + chi (P (c (k % n))) (P (c ((k + 1) % n))) T := rfl
                             first
                               | (have ec : chi (P (c (k % n))) (P (c ((k + 1) % n))) T = 1 := by unfold chi; rw [if_pos (by omega)]
                                  rw [show sumZ (fun i => chi (vr P c n i) (vr P c n (i + 1)) T) n - sumZ (fun i => chi (vr P c n i) (vr P c n (i + 1)) T) (k + 1) + 1 = sumZ (fun i => chi (vr P c n i) (vr P c n (i + 1)) T) n - sumZ (fun i => chi (vr P c n i) (vr P c n (i + 1)) T) k by omega]; exact hw)
                               | (have ec : chi (P (c (k % n))) (P (c ((k + 1) % n))) T = -1 := by unfold chi; rw [if_neg (by omega), if_pos (by omega)]
                                  rw [show sumZ (fun i => chi (vr P c n i) (vr P c n (i + 1)) T) n - sumZ (fun i => chi (vr P c n i) (vr P c n (i + 1)) T) (k + 1) + -1 = sumZ (fun i => chi (vr P c n i) (vr P c n (i + 1)) T) n - sumZ (fun i => chi (vr P c n i) (vr P c n (i + 1)) T) k by omega]; exact hw)
                               | (have ec : chi (P (c (k % n))) (P (c ((k + 1) % n))) T = 0 := by unfold chi; rw [if_neg (by omega), if_neg (by omega)]
                                  rw [show sumZ (fun i => chi (vr P c n i) (vr P c n (i + 1)) T) n - sumZ (fun i => chi (vr P c n i) (vr P c n (i + 1)) T) (k + 1) = sumZ (fun i => chi (vr P c n i) (vr P c n (i + 1)) T) n - sumZ (fun i => chi (vr P c n i) (vr P c n (i + 1)) T) k by omega]; exact hw))
          · refine x_iconst (v := nI 1) eX9_lies_112 (by decide) ?_
            refine x_goto eX9_lies_113 ?_
            refine x_istore (lv' := [_, _, _, _, _, _, _, _, _, _, _]) eX9_lies_117 (by decide) rfl ?_
            refine x_iload eX9_lies_119 rfl ?_
            refine x_if_eqN eX9_lies_121 (by omega) (fun c_121 => ?_) (fun c_121 => ?_)
            · refine x_iload eX9_lies_137 rfl ?_
              refine x_if_neN eX9_lies_139 (by omega) (fun c_139 => ?_) (fun c_139 => ?_)
              · refine x_iinc (lv' := [_, _, _, _, _, _, _, _, _, _, _]) eX9_lies_155 rfl (nI_dec _) (by decide) rfl ?_
                refine x_goto eX9_lies_158 ?_
                refine x_pick [0, 6, 7, 8, 9, 10] rfl ?_
                first
                  | omega
                  | (have hw := ih (by omega) S2 ⟨hx, hE⟩
                     have e : sumZ (fun i => chi (vr P c n i) (vr P c n (i + 1)) T) (k + 1) = sumZ (fun i => chi (vr P c n i) (vr P c n (i + 1)) T) k + chi (P (c (k % n))) (P (c ((k + 1) % n))) T := rfl
                     first
                       | (have ec : chi (P (c (k % n))) (P (c ((k + 1) % n))) T = 1 := by unfold chi; rw [if_pos (by omega)]
                          rw [show sumZ (fun i => chi (vr P c n i) (vr P c n (i + 1)) T) n - sumZ (fun i => chi (vr P c n i) (vr P c n (i + 1)) T) (k + 1) + 1 = sumZ (fun i => chi (vr P c n i) (vr P c n (i + 1)) T) n - sumZ (fun i => chi (vr P c n i) (vr P c n (i + 1)) T) k by omega]; exact hw)
                       | (have ec : chi (P (c (k % n))) (P (c ((k + 1) % n))) T = -1 := by unfold chi; rw [if_neg (by omega), if_pos (by omega)]
                          rw [show sumZ (fun i => chi (vr P c n i) (vr P c n (i + 1)) T) n - sumZ (fun i => chi (vr P c n i) (vr P c n (i + 1)) T) (k + 1) + -1 = sumZ (fun i => chi (vr P c n i) (vr P c n (i + 1)) T) n - sumZ (fun i => chi (vr P c n i) (vr P c n (i + 1)) T) k by omega]; exact hw)
                       | (have ec : chi (P (c (k % n))) (P (c ((k + 1) % n))) T = 0 := by unfold chi; rw [if_neg (by omega), if_neg (by omega)]
                          rw [show sumZ (fun i => chi (vr P c n i) (vr P c n (i + 1)) T) n - sumZ (fun i => chi (vr P c n i) (vr P c n (i + 1)) T) (k + 1) = sumZ (fun i => chi (vr P c n i) (vr P c n (i + 1)) T) n - sumZ (fun i => chi (vr P c n i) (vr P c n (i + 1)) T) k by omega]; exact hw))
              · refine x_iload eX9_lies_142 rfl ?_
                refine x_if_eqN eX9_lies_144 (by omega) (fun c_144 => ?_) (fun c_144 => ?_)
                · refine x_iinc (lv' := [_, _, _, _, _, _, _, _, _, _, _]) eX9_lies_155 rfl (nI_dec _) (by decide) rfl ?_
                  refine x_goto eX9_lies_158 ?_
                  refine x_pick [0, 6, 7, 8, 9, 10] rfl ?_
                  first
                    | omega
                    | (have hw := ih (by omega) S2 ⟨hx, hE⟩
                       have e : sumZ (fun i => chi (vr P c n i) (vr P c n (i + 1)) T) (k + 1) = sumZ (fun i => chi (vr P c n i) (vr P c n (i + 1)) T) k + chi (P (c (k % n))) (P (c ((k + 1) % n))) T := rfl
                       first
                         | (have ec : chi (P (c (k % n))) (P (c ((k + 1) % n))) T = 1 := by unfold chi; rw [if_pos (by omega)]
                            rw [show sumZ (fun i => chi (vr P c n i) (vr P c n (i + 1)) T) n - sumZ (fun i => chi (vr P c n i) (vr P c n (i + 1)) T) (k + 1) + 1 = sumZ (fun i => chi (vr P c n i) (vr P c n (i + 1)) T) n - sumZ (fun i => chi (vr P c n i) (vr P c n (i + 1)) T) k by omega]; exact hw)
                         | (have ec : chi (P (c (k % n))) (P (c ((k + 1) % n))) T = -1 := by unfold chi; rw [if_neg (by omega), if_pos (by omega)]
                            rw [show sumZ (fun i => chi (vr P c n i) (vr P c n (i + 1)) T) n - sumZ (fun i => chi (vr P c n i) (vr P c n (i + 1)) T) (k + 1) + -1 = sumZ (fun i => chi (vr P c n i) (vr P c n (i + 1)) T) n - sumZ (fun i => chi (vr P c n i) (vr P c n (i + 1)) T) k by omega]; exact hw)
                         | (have ec : chi (P (c (k % n))) (P (c ((k + 1) % n))) T = 0 := by unfold chi; rw [if_neg (by omega), if_neg (by omega)]
                            rw [show sumZ (fun i => chi (vr P c n i) (vr P c n (i + 1)) T) n - sumZ (fun i => chi (vr P c n i) (vr P c n (i + 1)) T) (k + 1) = sumZ (fun i => chi (vr P c n i) (vr P c n (i + 1)) T) n - sumZ (fun i => chi (vr P c n i) (vr P c n (i + 1)) T) k by omega]; exact hw))
                · refine x_iload eX9_lies_147 rfl ?_
                  refine x_if_geS eX9_lies_149 (fun c_149 => ?_) (fun c_149 => ?_)
                  · refine x_iinc (lv' := [_, _, _, _, _, _, _, _, _, _, _]) eX9_lies_155 rfl (nI_dec _) (by decide) rfl ?_
                    refine x_goto eX9_lies_158 ?_
                    refine x_pick [0, 6, 7, 8, 9, 10] rfl ?_
                    first
                      | omega
                      | (have hw := ih (by omega) S2 ⟨hx, hE⟩
                         have e : sumZ (fun i => chi (vr P c n i) (vr P c n (i + 1)) T) (k + 1) = sumZ (fun i => chi (vr P c n i) (vr P c n (i + 1)) T) k + chi (P (c (k % n))) (P (c ((k + 1) % n))) T := rfl
                         first
                           | (have ec : chi (P (c (k % n))) (P (c ((k + 1) % n))) T = 1 := by unfold chi; rw [if_pos (by omega)]
                              rw [show sumZ (fun i => chi (vr P c n i) (vr P c n (i + 1)) T) n - sumZ (fun i => chi (vr P c n i) (vr P c n (i + 1)) T) (k + 1) + 1 = sumZ (fun i => chi (vr P c n i) (vr P c n (i + 1)) T) n - sumZ (fun i => chi (vr P c n i) (vr P c n (i + 1)) T) k by omega]; exact hw)
                           | (have ec : chi (P (c (k % n))) (P (c ((k + 1) % n))) T = -1 := by unfold chi; rw [if_neg (by omega), if_pos (by omega)]
                              rw [show sumZ (fun i => chi (vr P c n i) (vr P c n (i + 1)) T) n - sumZ (fun i => chi (vr P c n i) (vr P c n (i + 1)) T) (k + 1) + -1 = sumZ (fun i => chi (vr P c n i) (vr P c n (i + 1)) T) n - sumZ (fun i => chi (vr P c n i) (vr P c n (i + 1)) T) k by omega]; exact hw)
                           | (have ec : chi (P (c (k % n))) (P (c ((k + 1) % n))) T = 0 := by unfold chi; rw [if_neg (by omega), if_neg (by omega)]
                              rw [show sumZ (fun i => chi (vr P c n i) (vr P c n (i + 1)) T) n - sumZ (fun i => chi (vr P c n i) (vr P c n (i + 1)) T) (k + 1) = sumZ (fun i => chi (vr P c n i) (vr P c n (i + 1)) T) n - sumZ (fun i => chi (vr P c n i) (vr P c n (i + 1)) T) k by omega]; exact hw))
                  · refine x_iinc (lv' := [_, _, _, _, _, _, _, _, _, _, _]) eX9_lies_152 rfl (iI_dec _) (by decide) rfl ?_
                    refine x_iinc (lv' := [_, _, _, _, _, _, _, _, _, _, _]) eX9_lies_155 rfl (nI_dec _) (by decide) rfl ?_
                    refine x_goto eX9_lies_158 ?_
                    refine x_pick [0, 1, 7, 8, 9, 10] rfl ?_
                    first
                      | omega
                      | (have hw := ih (by omega) S2 ⟨hx, hE⟩
                         have e : sumZ (fun i => chi (vr P c n i) (vr P c n (i + 1)) T) (k + 1) = sumZ (fun i => chi (vr P c n i) (vr P c n (i + 1)) T) k + chi (P (c (k % n))) (P (c ((k + 1) % n))) T := rfl
                         first
                           | (have ec : chi (P (c (k % n))) (P (c ((k + 1) % n))) T = 1 := by unfold chi; rw [if_pos (by omega)]
                              rw [show sumZ (fun i => chi (vr P c n i) (vr P c n (i + 1)) T) n - sumZ (fun i => chi (vr P c n i) (vr P c n (i + 1)) T) (k + 1) + 1 = sumZ (fun i => chi (vr P c n i) (vr P c n (i + 1)) T) n - sumZ (fun i => chi (vr P c n i) (vr P c n (i + 1)) T) k by omega]; exact hw)
                           | (have ec : chi (P (c (k % n))) (P (c ((k + 1) % n))) T = -1 := by unfold chi; rw [if_neg (by omega), if_pos (by omega)]
                              rw [show sumZ (fun i => chi (vr P c n i) (vr P c n (i + 1)) T) n - sumZ (fun i => chi (vr P c n i) (vr P c n (i + 1)) T) (k + 1) + -1 = sumZ (fun i => chi (vr P c n i) (vr P c n (i + 1)) T) n - sumZ (fun i => chi (vr P c n i) (vr P c n (i + 1)) T) k by omega]; exact hw)
                           | (have ec : chi (P (c (k % n))) (P (c ((k + 1) % n))) T = 0 := by unfold chi; rw [if_neg (by omega), if_neg (by omega)]
                              rw [show sumZ (fun i => chi (vr P c n i) (vr P c n (i + 1)) T) n - sumZ (fun i => chi (vr P c n i) (vr P c n (i + 1)) T) (k + 1) = sumZ (fun i => chi (vr P c n i) (vr P c n (i + 1)) T) n - sumZ (fun i => chi (vr P c n i) (vr P c n (i + 1)) T) k by omega]; exact hw))
            · refine x_iload eX9_lies_124 rfl ?_
              refine x_if_neN eX9_lies_126 (by omega) (fun c_126 => ?_) (fun c_126 => ?_)
              · refine x_iload eX9_lies_137 rfl ?_
                refine x_if_neN eX9_lies_139 (by omega) (fun c_139 => ?_) (fun c_139 => ?_)
                · refine x_iinc (lv' := [_, _, _, _, _, _, _, _, _, _, _]) eX9_lies_155 rfl (nI_dec _) (by decide) rfl ?_
                  refine x_goto eX9_lies_158 ?_
                  refine x_pick [0, 6, 7, 8, 9, 10] rfl ?_
                  first
                    | omega
                    | (have hw := ih (by omega) S2 ⟨hx, hE⟩
                       have e : sumZ (fun i => chi (vr P c n i) (vr P c n (i + 1)) T) (k + 1) = sumZ (fun i => chi (vr P c n i) (vr P c n (i + 1)) T) k + chi (P (c (k % n))) (P (c ((k + 1) % n))) T := rfl
                       first
                         | (have ec : chi (P (c (k % n))) (P (c ((k + 1) % n))) T = 1 := by unfold chi; rw [if_pos (by omega)]
                            rw [show sumZ (fun i => chi (vr P c n i) (vr P c n (i + 1)) T) n - sumZ (fun i => chi (vr P c n i) (vr P c n (i + 1)) T) (k + 1) + 1 = sumZ (fun i => chi (vr P c n i) (vr P c n (i + 1)) T) n - sumZ (fun i => chi (vr P c n i) (vr P c n (i + 1)) T) k by omega]; exact hw)
                         | (have ec : chi (P (c (k % n))) (P (c ((k + 1) % n))) T = -1 := by unfold chi; rw [if_neg (by omega), if_pos (by omega)]
                            rw [show sumZ (fun i => chi (vr P c n i) (vr P c n (i + 1)) T) n - sumZ (fun i => chi (vr P c n i) (vr P c n (i + 1)) T) (k + 1) + -1 = sumZ (fun i => chi (vr P c n i) (vr P c n (i + 1)) T) n - sumZ (fun i => chi (vr P c n i) (vr P c n (i + 1)) T) k by omega]; exact hw)
                         | (have ec : chi (P (c (k % n))) (P (c ((k + 1) % n))) T = 0 := by unfold chi; rw [if_neg (by omega), if_neg (by omega)]
                            rw [show sumZ (fun i => chi (vr P c n i) (vr P c n (i + 1)) T) n - sumZ (fun i => chi (vr P c n i) (vr P c n (i + 1)) T) (k + 1) = sumZ (fun i => chi (vr P c n i) (vr P c n (i + 1)) T) n - sumZ (fun i => chi (vr P c n i) (vr P c n (i + 1)) T) k by omega]; exact hw))
                · refine x_iload eX9_lies_142 rfl ?_
                  refine x_if_eqN eX9_lies_144 (by omega) (fun c_144 => ?_) (fun c_144 => ?_)
                  · refine x_iinc (lv' := [_, _, _, _, _, _, _, _, _, _, _]) eX9_lies_155 rfl (nI_dec _) (by decide) rfl ?_
                    refine x_goto eX9_lies_158 ?_
                    refine x_pick [0, 6, 7, 8, 9, 10] rfl ?_
                    first
                      | omega
                      | (have hw := ih (by omega) S2 ⟨hx, hE⟩
                         have e : sumZ (fun i => chi (vr P c n i) (vr P c n (i + 1)) T) (k + 1) = sumZ (fun i => chi (vr P c n i) (vr P c n (i + 1)) T) k + chi (P (c (k % n))) (P (c ((k + 1) % n))) T := rfl
                         first
                           | (have ec : chi (P (c (k % n))) (P (c ((k + 1) % n))) T = 1 := by unfold chi; rw [if_pos (by omega)]
                              rw [show sumZ (fun i => chi (vr P c n i) (vr P c n (i + 1)) T) n - sumZ (fun i => chi (vr P c n i) (vr P c n (i + 1)) T) (k + 1) + 1 = sumZ (fun i => chi (vr P c n i) (vr P c n (i + 1)) T) n - sumZ (fun i => chi (vr P c n i) (vr P c n (i + 1)) T) k by omega]; exact hw)
                           | (have ec : chi (P (c (k % n))) (P (c ((k + 1) % n))) T = -1 := by unfold chi; rw [if_neg (by omega), if_pos (by omega)]
                              rw [show sumZ (fun i => chi (vr P c n i) (vr P c n (i + 1)) T) n - sumZ (fun i => chi (vr P c n i) (vr P c n (i + 1)) T) (k + 1) + -1 = sumZ (fun i => chi (vr P c n i) (vr P c n (i + 1)) T) n - sumZ (fun i => chi (vr P c n i) (vr P c n (i + 1)) T) k by omega]; exact hw)
                           | (have ec : chi (P (c (k % n))) (P (c ((k + 1) % n))) T = 0 := by unfold chi; rw [if_neg (by omega), if_neg (by omega)]
                              rw [show sumZ (fun i => chi (vr P c n i) (vr P c n (i + 1)) T) n - sumZ (fun i => chi (vr P c n i) (vr P c n (i + 1)) T) (k + 1) = sumZ (fun i => chi (vr P c n i) (vr P c n (i + 1)) T) n - sumZ (fun i => chi (vr P c n i) (vr P c n (i + 1)) T) k by omega]; exact hw))
                  · refine x_iload eX9_lies_147 rfl ?_
                    refine x_if_geS eX9_lies_149 (fun c_149 => ?_) (fun c_149 => ?_)
                    · refine x_iinc (lv' := [_, _, _, _, _, _, _, _, _, _, _]) eX9_lies_155 rfl (nI_dec _) (by decide) rfl ?_
                      refine x_goto eX9_lies_158 ?_
                      refine x_pick [0, 6, 7, 8, 9, 10] rfl ?_
                      first
                        | omega
                        | (have hw := ih (by omega) S2 ⟨hx, hE⟩
                           have e : sumZ (fun i => chi (vr P c n i) (vr P c n (i + 1)) T) (k + 1) = sumZ (fun i => chi (vr P c n i) (vr P c n (i + 1)) T) k + chi (P (c (k % n))) (P (c ((k + 1) % n))) T := rfl
                           first
                             | (have ec : chi (P (c (k % n))) (P (c ((k + 1) % n))) T = 1 := by unfold chi; rw [if_pos (by omega)]
                                rw [show sumZ (fun i => chi (vr P c n i) (vr P c n (i + 1)) T) n - sumZ (fun i => chi (vr P c n i) (vr P c n (i + 1)) T) (k + 1) + 1 = sumZ (fun i => chi (vr P c n i) (vr P c n (i + 1)) T) n - sumZ (fun i => chi (vr P c n i) (vr P c n (i + 1)) T) k by omega]; exact hw)
                             | (have ec : chi (P (c (k % n))) (P (c ((k + 1) % n))) T = -1 := by unfold chi; rw [if_neg (by omega), if_pos (by omega)]
                                rw [show sumZ (fun i => chi (vr P c n i) (vr P c n (i + 1)) T) n - sumZ (fun i => chi (vr P c n i) (vr P c n (i + 1)) T) (k + 1) + -1 = sumZ (fun i => chi (vr P c n i) (vr P c n (i + 1)) T) n - sumZ (fun i => chi (vr P c n i) (vr P c n (i + 1)) T) k by omega]; exact hw)
                             | (have ec : chi (P (c (k % n))) (P (c ((k + 1) % n))) T = 0 := by unfold chi; rw [if_neg (by omega), if_neg (by omega)]
                                rw [show sumZ (fun i => chi (vr P c n i) (vr P c n (i + 1)) T) n - sumZ (fun i => chi (vr P c n i) (vr P c n (i + 1)) T) (k + 1) = sumZ (fun i => chi (vr P c n i) (vr P c n (i + 1)) T) n - sumZ (fun i => chi (vr P c n i) (vr P c n (i + 1)) T) k by omega]; exact hw))
                    · refine x_iinc (lv' := [_, _, _, _, _, _, _, _, _, _, _]) eX9_lies_152 rfl (iI_dec _) (by decide) rfl ?_
                      refine x_iinc (lv' := [_, _, _, _, _, _, _, _, _, _, _]) eX9_lies_155 rfl (nI_dec _) (by decide) rfl ?_
                      refine x_goto eX9_lies_158 ?_
                      refine x_pick [0, 1, 7, 8, 9, 10] rfl ?_
                      first
                        | omega
                        | (have hw := ih (by omega) S2 ⟨hx, hE⟩
                           have e : sumZ (fun i => chi (vr P c n i) (vr P c n (i + 1)) T) (k + 1) = sumZ (fun i => chi (vr P c n i) (vr P c n (i + 1)) T) k + chi (P (c (k % n))) (P (c ((k + 1) % n))) T := rfl
                           first
                             | (have ec : chi (P (c (k % n))) (P (c ((k + 1) % n))) T = 1 := by unfold chi; rw [if_pos (by omega)]
                                rw [show sumZ (fun i => chi (vr P c n i) (vr P c n (i + 1)) T) n - sumZ (fun i => chi (vr P c n i) (vr P c n (i + 1)) T) (k + 1) + 1 = sumZ (fun i => chi (vr P c n i) (vr P c n (i + 1)) T) n - sumZ (fun i => chi (vr P c n i) (vr P c n (i + 1)) T) k by omega]; exact hw)
                             | (have ec : chi (P (c (k % n))) (P (c ((k + 1) % n))) T = -1 := by unfold chi; rw [if_neg (by omega), if_pos (by omega)]
                                rw [show sumZ (fun i => chi (vr P c n i) (vr P c n (i + 1)) T) n - sumZ (fun i => chi (vr P c n i) (vr P c n (i + 1)) T) (k + 1) + -1 = sumZ (fun i => chi (vr P c n i) (vr P c n (i + 1)) T) n - sumZ (fun i => chi (vr P c n i) (vr P c n (i + 1)) T) k by omega]; exact hw)
                             | (have ec : chi (P (c (k % n))) (P (c ((k + 1) % n))) T = 0 := by unfold chi; rw [if_neg (by omega), if_neg (by omega)]
                                rw [show sumZ (fun i => chi (vr P c n i) (vr P c n (i + 1)) T) n - sumZ (fun i => chi (vr P c n i) (vr P c n (i + 1)) T) (k + 1) = sumZ (fun i => chi (vr P c n i) (vr P c n (i + 1)) T) n - sumZ (fun i => chi (vr P c n i) (vr P c n (i + 1)) T) k by omega]; exact hw))
              · refine x_iload eX9_lies_129 rfl ?_
                refine x_if_leS eX9_lies_131 (fun c_131 => ?_) (fun c_131 => ?_)
                · refine x_iload eX9_lies_137 rfl ?_
                  refine x_if_neN eX9_lies_139 (by omega) (fun c_139 => ?_) (fun c_139 => ?_)
                  · refine x_iinc (lv' := [_, _, _, _, _, _, _, _, _, _, _]) eX9_lies_155 rfl (nI_dec _) (by decide) rfl ?_
                    refine x_goto eX9_lies_158 ?_
                    refine x_pick [0, 6, 7, 8, 9, 10] rfl ?_
                    first
                      | omega
                      | (have hw := ih (by omega) S2 ⟨hx, hE⟩
                         have e : sumZ (fun i => chi (vr P c n i) (vr P c n (i + 1)) T) (k + 1) = sumZ (fun i => chi (vr P c n i) (vr P c n (i + 1)) T) k + chi (P (c (k % n))) (P (c ((k + 1) % n))) T := rfl
                         first
                           | (have ec : chi (P (c (k % n))) (P (c ((k + 1) % n))) T = 1 := by unfold chi; rw [if_pos (by omega)]
                              rw [show sumZ (fun i => chi (vr P c n i) (vr P c n (i + 1)) T) n - sumZ (fun i => chi (vr P c n i) (vr P c n (i + 1)) T) (k + 1) + 1 = sumZ (fun i => chi (vr P c n i) (vr P c n (i + 1)) T) n - sumZ (fun i => chi (vr P c n i) (vr P c n (i + 1)) T) k by omega]; exact hw)
                           | (have ec : chi (P (c (k % n))) (P (c ((k + 1) % n))) T = -1 := by unfold chi; rw [if_neg (by omega), if_pos (by omega)]
                              rw [show sumZ (fun i => chi (vr P c n i) (vr P c n (i + 1)) T) n - sumZ (fun i => chi (vr P c n i) (vr P c n (i + 1)) T) (k + 1) + -1 = sumZ (fun i => chi (vr P c n i) (vr P c n (i + 1)) T) n - sumZ (fun i => chi (vr P c n i) (vr P c n (i + 1)) T) k by omega]; exact hw)
                           | (have ec : chi (P (c (k % n))) (P (c ((k + 1) % n))) T = 0 := by unfold chi; rw [if_neg (by omega), if_neg (by omega)]
                              rw [show sumZ (fun i => chi (vr P c n i) (vr P c n (i + 1)) T) n - sumZ (fun i => chi (vr P c n i) (vr P c n (i + 1)) T) (k + 1) = sumZ (fun i => chi (vr P c n i) (vr P c n (i + 1)) T) n - sumZ (fun i => chi (vr P c n i) (vr P c n (i + 1)) T) k by omega]; exact hw))
                  · refine x_iload eX9_lies_142 rfl ?_
                    refine x_if_eqN eX9_lies_144 (by omega) (fun c_144 => ?_) (fun c_144 => ?_)
                    · refine x_iinc (lv' := [_, _, _, _, _, _, _, _, _, _, _]) eX9_lies_155 rfl (nI_dec _) (by decide) rfl ?_
                      refine x_goto eX9_lies_158 ?_
                      refine x_pick [0, 6, 7, 8, 9, 10] rfl ?_
                      first
                        | omega
                        | (have hw := ih (by omega) S2 ⟨hx, hE⟩
                           have e : sumZ (fun i => chi (vr P c n i) (vr P c n (i + 1)) T) (k + 1) = sumZ (fun i => chi (vr P c n i) (vr P c n (i + 1)) T) k + chi (P (c (k % n))) (P (c ((k + 1) % n))) T := rfl
                           first
                             | (have ec : chi (P (c (k % n))) (P (c ((k + 1) % n))) T = 1 := by unfold chi; rw [if_pos (by omega)]
                                rw [show sumZ (fun i => chi (vr P c n i) (vr P c n (i + 1)) T) n - sumZ (fun i => chi (vr P c n i) (vr P c n (i + 1)) T) (k + 1) + 1 = sumZ (fun i => chi (vr P c n i) (vr P c n (i + 1)) T) n - sumZ (fun i => chi (vr P c n i) (vr P c n (i + 1)) T) k by omega]; exact hw)
                             | (have ec : chi (P (c (k % n))) (P (c ((k + 1) % n))) T = -1 := by unfold chi; rw [if_neg (by omega), if_pos (by omega)]
                                rw [show sumZ (fun i => chi (vr P c n i) (vr P c n (i + 1)) T) n - sumZ (fun i => chi (vr P c n i) (vr P c n (i + 1)) T) (k + 1) + -1 = sumZ (fun i => chi (vr P c n i) (vr P c n (i + 1)) T) n - sumZ (fun i => chi (vr P c n i) (vr P c n (i + 1)) T) k by omega]; exact hw)
                             | (have ec : chi (P (c (k % n))) (P (c ((k + 1) % n))) T = 0 := by unfold chi; rw [if_neg (by omega), if_neg (by omega)]
                                rw [show sumZ (fun i => chi (vr P c n i) (vr P c n (i + 1)) T) n - sumZ (fun i => chi (vr P c n i) (vr P c n (i + 1)) T) (k + 1) = sumZ (fun i => chi (vr P c n i) (vr P c n (i + 1)) T) n - sumZ (fun i => chi (vr P c n i) (vr P c n (i + 1)) T) k by omega]; exact hw))
                    · refine x_iload eX9_lies_147 rfl ?_
                      refine x_if_geS eX9_lies_149 (fun c_149 => ?_) (fun c_149 => ?_)
                      · refine x_iinc (lv' := [_, _, _, _, _, _, _, _, _, _, _]) eX9_lies_155 rfl (nI_dec _) (by decide) rfl ?_
                        refine x_goto eX9_lies_158 ?_
                        refine x_pick [0, 6, 7, 8, 9, 10] rfl ?_
                        first
                          | omega
                          | (have hw := ih (by omega) S2 ⟨hx, hE⟩
                             have e : sumZ (fun i => chi (vr P c n i) (vr P c n (i + 1)) T) (k + 1) = sumZ (fun i => chi (vr P c n i) (vr P c n (i + 1)) T) k + chi (P (c (k % n))) (P (c ((k + 1) % n))) T := rfl
                             first
                               | (have ec : chi (P (c (k % n))) (P (c ((k + 1) % n))) T = 1 := by unfold chi; rw [if_pos (by omega)]
                                  rw [show sumZ (fun i => chi (vr P c n i) (vr P c n (i + 1)) T) n - sumZ (fun i => chi (vr P c n i) (vr P c n (i + 1)) T) (k + 1) + 1 = sumZ (fun i => chi (vr P c n i) (vr P c n (i + 1)) T) n - sumZ (fun i => chi (vr P c n i) (vr P c n (i + 1)) T) k by omega]; exact hw)
                               | (have ec : chi (P (c (k % n))) (P (c ((k + 1) % n))) T = -1 := by unfold chi; rw [if_neg (by omega), if_pos (by omega)]
                                  rw [show sumZ (fun i => chi (vr P c n i) (vr P c n (i + 1)) T) n - sumZ (fun i => chi (vr P c n i) (vr P c n (i + 1)) T) (k + 1) + -1 = sumZ (fun i => chi (vr P c n i) (vr P c n (i + 1)) T) n - sumZ (fun i => chi (vr P c n i) (vr P c n (i + 1)) T) k by omega]; exact hw)
                               | (have ec : chi (P (c (k % n))) (P (c ((k + 1) % n))) T = 0 := by unfold chi; rw [if_neg (by omega), if_neg (by omega)]
                                  rw [show sumZ (fun i => chi (vr P c n i) (vr P c n (i + 1)) T) n - sumZ (fun i => chi (vr P c n i) (vr P c n (i + 1)) T) (k + 1) = sumZ (fun i => chi (vr P c n i) (vr P c n (i + 1)) T) n - sumZ (fun i => chi (vr P c n i) (vr P c n (i + 1)) T) k by omega]; exact hw))
                      · refine x_iinc (lv' := [_, _, _, _, _, _, _, _, _, _, _]) eX9_lies_152 rfl (iI_dec _) (by decide) rfl ?_
                        refine x_iinc (lv' := [_, _, _, _, _, _, _, _, _, _, _]) eX9_lies_155 rfl (nI_dec _) (by decide) rfl ?_
                        refine x_goto eX9_lies_158 ?_
                        refine x_pick [0, 1, 7, 8, 9, 10] rfl ?_
                        first
                          | omega
                          | (have hw := ih (by omega) S2 ⟨hx, hE⟩
                             have e : sumZ (fun i => chi (vr P c n i) (vr P c n (i + 1)) T) (k + 1) = sumZ (fun i => chi (vr P c n i) (vr P c n (i + 1)) T) k + chi (P (c (k % n))) (P (c ((k + 1) % n))) T := rfl
                             first
                               | (have ec : chi (P (c (k % n))) (P (c ((k + 1) % n))) T = 1 := by unfold chi; rw [if_pos (by omega)]
                                  rw [show sumZ (fun i => chi (vr P c n i) (vr P c n (i + 1)) T) n - sumZ (fun i => chi (vr P c n i) (vr P c n (i + 1)) T) (k + 1) + 1 = sumZ (fun i => chi (vr P c n i) (vr P c n (i + 1)) T) n - sumZ (fun i => chi (vr P c n i) (vr P c n (i + 1)) T) k by omega]; exact hw)
                               | (have ec : chi (P (c (k % n))) (P (c ((k + 1) % n))) T = -1 := by unfold chi; rw [if_neg (by omega), if_pos (by omega)]
                                  rw [show sumZ (fun i => chi (vr P c n i) (vr P c n (i + 1)) T) n - sumZ (fun i => chi (vr P c n i) (vr P c n (i + 1)) T) (k + 1) + -1 = sumZ (fun i => chi (vr P c n i) (vr P c n (i + 1)) T) n - sumZ (fun i => chi (vr P c n i) (vr P c n (i + 1)) T) k by omega]; exact hw)
                               | (have ec : chi (P (c (k % n))) (P (c ((k + 1) % n))) T = 0 := by unfold chi; rw [if_neg (by omega), if_neg (by omega)]
                                  rw [show sumZ (fun i => chi (vr P c n i) (vr P c n (i + 1)) T) n - sumZ (fun i => chi (vr P c n i) (vr P c n (i + 1)) T) (k + 1) = sumZ (fun i => chi (vr P c n i) (vr P c n (i + 1)) T) n - sumZ (fun i => chi (vr P c n i) (vr P c n (i + 1)) T) k by omega]; exact hw))
                · refine x_iinc (lv' := [_, _, _, _, _, _, _, _, _, _, _]) eX9_lies_134 rfl (iI_inc _) (by decide) rfl ?_
                  refine x_iload eX9_lies_137 rfl ?_
                  refine x_if_neN eX9_lies_139 (by omega) (fun c_139 => ?_) (fun c_139 => ?_)
                  · refine x_iinc (lv' := [_, _, _, _, _, _, _, _, _, _, _]) eX9_lies_155 rfl (nI_dec _) (by decide) rfl ?_
                    refine x_goto eX9_lies_158 ?_
                    refine x_pick [0, 1, 7, 8, 9, 10] rfl ?_
                    first
                      | omega
                      | (have hw := ih (by omega) S2 ⟨hx, hE⟩
                         have e : sumZ (fun i => chi (vr P c n i) (vr P c n (i + 1)) T) (k + 1) = sumZ (fun i => chi (vr P c n i) (vr P c n (i + 1)) T) k + chi (P (c (k % n))) (P (c ((k + 1) % n))) T := rfl
                         first
                           | (have ec : chi (P (c (k % n))) (P (c ((k + 1) % n))) T = 1 := by unfold chi; rw [if_pos (by omega)]
                              rw [show sumZ (fun i => chi (vr P c n i) (vr P c n (i + 1)) T) n - sumZ (fun i => chi (vr P c n i) (vr P c n (i + 1)) T) (k + 1) + 1 = sumZ (fun i => chi (vr P c n i) (vr P c n (i + 1)) T) n - sumZ (fun i => chi (vr P c n i) (vr P c n (i + 1)) T) k by omega]; exact hw)
                           | (have ec : chi (P (c (k % n))) (P (c ((k + 1) % n))) T = -1 := by unfold chi; rw [if_neg (by omega), if_pos (by omega)]
                              rw [show sumZ (fun i => chi (vr P c n i) (vr P c n (i + 1)) T) n - sumZ (fun i => chi (vr P c n i) (vr P c n (i + 1)) T) (k + 1) + -1 = sumZ (fun i => chi (vr P c n i) (vr P c n (i + 1)) T) n - sumZ (fun i => chi (vr P c n i) (vr P c n (i + 1)) T) k by omega]; exact hw)
                           | (have ec : chi (P (c (k % n))) (P (c ((k + 1) % n))) T = 0 := by unfold chi; rw [if_neg (by omega), if_neg (by omega)]
                              rw [show sumZ (fun i => chi (vr P c n i) (vr P c n (i + 1)) T) n - sumZ (fun i => chi (vr P c n i) (vr P c n (i + 1)) T) (k + 1) = sumZ (fun i => chi (vr P c n i) (vr P c n (i + 1)) T) n - sumZ (fun i => chi (vr P c n i) (vr P c n (i + 1)) T) k by omega]; exact hw))
                  · refine x_iload eX9_lies_142 rfl ?_
                    refine x_if_eqN eX9_lies_144 (by omega) (fun c_144 => ?_) (fun c_144 => ?_)
                    · refine x_iinc (lv' := [_, _, _, _, _, _, _, _, _, _, _]) eX9_lies_155 rfl (nI_dec _) (by decide) rfl ?_
                      refine x_goto eX9_lies_158 ?_
                      refine x_pick [0, 1, 7, 8, 9, 10] rfl ?_
                      first
                        | omega
                        | (have hw := ih (by omega) S2 ⟨hx, hE⟩
                           have e : sumZ (fun i => chi (vr P c n i) (vr P c n (i + 1)) T) (k + 1) = sumZ (fun i => chi (vr P c n i) (vr P c n (i + 1)) T) k + chi (P (c (k % n))) (P (c ((k + 1) % n))) T := rfl
                           first
                             | (have ec : chi (P (c (k % n))) (P (c ((k + 1) % n))) T = 1 := by unfold chi; rw [if_pos (by omega)]
                                rw [show sumZ (fun i => chi (vr P c n i) (vr P c n (i + 1)) T) n - sumZ (fun i => chi (vr P c n i) (vr P c n (i + 1)) T) (k + 1) + 1 = sumZ (fun i => chi (vr P c n i) (vr P c n (i + 1)) T) n - sumZ (fun i => chi (vr P c n i) (vr P c n (i + 1)) T) k by omega]; exact hw)
                             | (have ec : chi (P (c (k % n))) (P (c ((k + 1) % n))) T = -1 := by unfold chi; rw [if_neg (by omega), if_pos (by omega)]
                                rw [show sumZ (fun i => chi (vr P c n i) (vr P c n (i + 1)) T) n - sumZ (fun i => chi (vr P c n i) (vr P c n (i + 1)) T) (k + 1) + -1 = sumZ (fun i => chi (vr P c n i) (vr P c n (i + 1)) T) n - sumZ (fun i => chi (vr P c n i) (vr P c n (i + 1)) T) k by omega]; exact hw)
                             | (have ec : chi (P (c (k % n))) (P (c ((k + 1) % n))) T = 0 := by unfold chi; rw [if_neg (by omega), if_neg (by omega)]
                                rw [show sumZ (fun i => chi (vr P c n i) (vr P c n (i + 1)) T) n - sumZ (fun i => chi (vr P c n i) (vr P c n (i + 1)) T) (k + 1) = sumZ (fun i => chi (vr P c n i) (vr P c n (i + 1)) T) n - sumZ (fun i => chi (vr P c n i) (vr P c n (i + 1)) T) k by omega]; exact hw))
                    · refine x_iload eX9_lies_147 rfl ?_
                      refine x_if_geS eX9_lies_149 (fun c_149 => ?_) (fun c_149 => ?_)
                      · refine x_iinc (lv' := [_, _, _, _, _, _, _, _, _, _, _]) eX9_lies_155 rfl (nI_dec _) (by decide) rfl ?_
                        refine x_goto eX9_lies_158 ?_
                        refine x_pick [0, 1, 7, 8, 9, 10] rfl ?_
                        first
                          | omega
                          | (have hw := ih (by omega) S2 ⟨hx, hE⟩
                             have e : sumZ (fun i => chi (vr P c n i) (vr P c n (i + 1)) T) (k + 1) = sumZ (fun i => chi (vr P c n i) (vr P c n (i + 1)) T) k + chi (P (c (k % n))) (P (c ((k + 1) % n))) T := rfl
                             first
                               | (have ec : chi (P (c (k % n))) (P (c ((k + 1) % n))) T = 1 := by unfold chi; rw [if_pos (by omega)]
                                  rw [show sumZ (fun i => chi (vr P c n i) (vr P c n (i + 1)) T) n - sumZ (fun i => chi (vr P c n i) (vr P c n (i + 1)) T) (k + 1) + 1 = sumZ (fun i => chi (vr P c n i) (vr P c n (i + 1)) T) n - sumZ (fun i => chi (vr P c n i) (vr P c n (i + 1)) T) k by omega]; exact hw)
                               | (have ec : chi (P (c (k % n))) (P (c ((k + 1) % n))) T = -1 := by unfold chi; rw [if_neg (by omega), if_pos (by omega)]
                                  rw [show sumZ (fun i => chi (vr P c n i) (vr P c n (i + 1)) T) n - sumZ (fun i => chi (vr P c n i) (vr P c n (i + 1)) T) (k + 1) + -1 = sumZ (fun i => chi (vr P c n i) (vr P c n (i + 1)) T) n - sumZ (fun i => chi (vr P c n i) (vr P c n (i + 1)) T) k by omega]; exact hw)
                               | (have ec : chi (P (c (k % n))) (P (c ((k + 1) % n))) T = 0 := by unfold chi; rw [if_neg (by omega), if_neg (by omega)]
                                  rw [show sumZ (fun i => chi (vr P c n i) (vr P c n (i + 1)) T) n - sumZ (fun i => chi (vr P c n i) (vr P c n (i + 1)) T) (k + 1) = sumZ (fun i => chi (vr P c n i) (vr P c n (i + 1)) T) n - sumZ (fun i => chi (vr P c n i) (vr P c n (i + 1)) T) k by omega]; exact hw))
                      · refine x_iinc (lv' := [_, _, _, _, _, _, _, _, _, _, _]) eX9_lies_152 rfl (iI_dec _) (by decide) rfl ?_
                        refine x_iinc (lv' := [_, _, _, _, _, _, _, _, _, _, _]) eX9_lies_155 rfl (nI_dec _) (by decide) rfl ?_
                        refine x_goto eX9_lies_158 ?_
                        refine x_pick [0, 1, 7, 8, 9, 10] rfl ?_
                        first
                          | omega
                          | (have hw := ih (by omega) S2 ⟨hx, hE⟩
                             have e : sumZ (fun i => chi (vr P c n i) (vr P c n (i + 1)) T) (k + 1) = sumZ (fun i => chi (vr P c n i) (vr P c n (i + 1)) T) k + chi (P (c (k % n))) (P (c ((k + 1) % n))) T := rfl
                             first
                               | (have ec : chi (P (c (k % n))) (P (c ((k + 1) % n))) T = 1 := by unfold chi; rw [if_pos (by omega)]
                                  rw [show sumZ (fun i => chi (vr P c n i) (vr P c n (i + 1)) T) n - sumZ (fun i => chi (vr P c n i) (vr P c n (i + 1)) T) (k + 1) + 1 = sumZ (fun i => chi (vr P c n i) (vr P c n (i + 1)) T) n - sumZ (fun i => chi (vr P c n i) (vr P c n (i + 1)) T) k by omega]; exact hw)
                               | (have ec : chi (P (c (k % n))) (P (c ((k + 1) % n))) T = -1 := by unfold chi; rw [if_neg (by omega), if_pos (by omega)]
                                  rw [show sumZ (fun i => chi (vr P c n i) (vr P c n (i + 1)) T) n - sumZ (fun i => chi (vr P c n i) (vr P c n (i + 1)) T) (k + 1) + -1 = sumZ (fun i => chi (vr P c n i) (vr P c n (i + 1)) T) n - sumZ (fun i => chi (vr P c n i) (vr P c n (i + 1)) T) k by omega]; exact hw)
                               | (have ec : chi (P (c (k % n))) (P (c ((k + 1) % n))) T = 0 := by unfold chi; rw [if_neg (by omega), if_neg (by omega)]
                                  rw [show sumZ (fun i => chi (vr P c n i) (vr P c n (i + 1)) T) n - sumZ (fun i => chi (vr P c n i) (vr P c n (i + 1)) T) (k + 1) = sumZ (fun i => chi (vr P c n i) (vr P c n (i + 1)) T) n - sumZ (fun i => chi (vr P c n i) (vr P c n (i + 1)) T) k by omega]; exact hw))
        · refine x_iconst (v := nI 1) eX9_lies_92 (by decide) ?_
          refine x_goto eX9_lies_93 ?_
          refine x_istore (lv' := [_, _, _, _, _, _, _, _, _, _]) eX9_lies_97 (by decide) rfl ?_
          refine x_aload_n eX9_lies_99 rfl ?_
          refine s_getR (k := 4) eX9_lies_100 fX9_19 rfl (by decide) (by decide) rfl ?_
          refine x_iload eX9_lies_103 rfl ?_
          refine x_iload_n eX9_lies_105 rfl ?_
          refine s_callS1 (As := [_, _, _]) eX9_lies_106 kX9_155 ⟨by decide, by decide⟩ rfl rfl (Nat.le_of_ble_eq_true rfl) (Nat.le_of_ble_eq_true rfl) (sp_X9_order (p := 4) rfl (by decide) (show _ ≤ 1010 by omega) (show _ ≤ 1010 by omega) _ _ _ tB.2.1 tT.2.1 ⟨by omega, by omega⟩ ⟨by omega, by omega⟩) (fun S_106 h_106 => ?_)
          have h_106 := h_106.symm
          subst h_106
          refine x_if_gtS eX9_lies_109 (fun c_109 => ?_) (fun c_109 => ?_)
          · refine x_iconst (v := nI 0) eX9_lies_116 (by decide) ?_
            refine x_istore (lv' := [_, _, _, _, _, _, _, _, _, _, _]) eX9_lies_117 (by decide) rfl ?_
            refine x_iload eX9_lies_119 rfl ?_
            refine x_if_eqN eX9_lies_121 (by omega) (fun c_121 => ?_) (fun c_121 => ?_)
            · refine x_iload eX9_lies_137 rfl ?_
              refine x_if_neN eX9_lies_139 (by omega) (fun c_139 => ?_) (fun c_139 => ?_)
              · refine x_iinc (lv' := [_, _, _, _, _, _, _, _, _, _, _]) eX9_lies_155 rfl (nI_dec _) (by decide) rfl ?_
                refine x_goto eX9_lies_158 ?_
                refine x_pick [0, 6, 7, 8, 9, 10] rfl ?_
                first
                  | omega
                  | (have hw := ih (by omega) S2 ⟨hx, hE⟩
                     have e : sumZ (fun i => chi (vr P c n i) (vr P c n (i + 1)) T) (k + 1) = sumZ (fun i => chi (vr P c n i) (vr P c n (i + 1)) T) k + chi (P (c (k % n))) (P (c ((k + 1) % n))) T := rfl
                     first
                       | (have ec : chi (P (c (k % n))) (P (c ((k + 1) % n))) T = 1 := by unfold chi; rw [if_pos (by omega)]
                          rw [show sumZ (fun i => chi (vr P c n i) (vr P c n (i + 1)) T) n - sumZ (fun i => chi (vr P c n i) (vr P c n (i + 1)) T) (k + 1) + 1 = sumZ (fun i => chi (vr P c n i) (vr P c n (i + 1)) T) n - sumZ (fun i => chi (vr P c n i) (vr P c n (i + 1)) T) k by omega]; exact hw)
                       | (have ec : chi (P (c (k % n))) (P (c ((k + 1) % n))) T = -1 := by unfold chi; rw [if_neg (by omega), if_pos (by omega)]
                          rw [show sumZ (fun i => chi (vr P c n i) (vr P c n (i + 1)) T) n - sumZ (fun i => chi (vr P c n i) (vr P c n (i + 1)) T) (k + 1) + -1 = sumZ (fun i => chi (vr P c n i) (vr P c n (i + 1)) T) n - sumZ (fun i => chi (vr P c n i) (vr P c n (i + 1)) T) k by omega]; exact hw)
                       | (have ec : chi (P (c (k % n))) (P (c ((k + 1) % n))) T = 0 := by unfold chi; rw [if_neg (by omega), if_neg (by omega)]
                          rw [show sumZ (fun i => chi (vr P c n i) (vr P c n (i + 1)) T) n - sumZ (fun i => chi (vr P c n i) (vr P c n (i + 1)) T) (k + 1) = sumZ (fun i => chi (vr P c n i) (vr P c n (i + 1)) T) n - sumZ (fun i => chi (vr P c n i) (vr P c n (i + 1)) T) k by omega]; exact hw))
              · refine x_iload eX9_lies_142 rfl ?_
                refine x_if_eqN eX9_lies_144 (by omega) (fun c_144 => ?_) (fun c_144 => ?_)
                · refine x_iinc (lv' := [_, _, _, _, _, _, _, _, _, _, _]) eX9_lies_155 rfl (nI_dec _) (by decide) rfl ?_
                  refine x_goto eX9_lies_158 ?_
                  refine x_pick [0, 6, 7, 8, 9, 10] rfl ?_
                  first
                    | omega
                    | (have hw := ih (by omega) S2 ⟨hx, hE⟩
                       have e : sumZ (fun i => chi (vr P c n i) (vr P c n (i + 1)) T) (k + 1) = sumZ (fun i => chi (vr P c n i) (vr P c n (i + 1)) T) k + chi (P (c (k % n))) (P (c ((k + 1) % n))) T := rfl
                       first
                         | (have ec : chi (P (c (k % n))) (P (c ((k + 1) % n))) T = 1 := by unfold chi; rw [if_pos (by omega)]
                            rw [show sumZ (fun i => chi (vr P c n i) (vr P c n (i + 1)) T) n - sumZ (fun i => chi (vr P c n i) (vr P c n (i + 1)) T) (k + 1) + 1 = sumZ (fun i => chi (vr P c n i) (vr P c n (i + 1)) T) n - sumZ (fun i => chi (vr P c n i) (vr P c n (i + 1)) T) k by omega]; exact hw)
                         | (have ec : chi (P (c (k % n))) (P (c ((k + 1) % n))) T = -1 := by unfold chi; rw [if_neg (by omega), if_pos (by omega)]
                            rw [show sumZ (fun i => chi (vr P c n i) (vr P c n (i + 1)) T) n - sumZ (fun i => chi (vr P c n i) (vr P c n (i + 1)) T) (k + 1) + -1 = sumZ (fun i => chi (vr P c n i) (vr P c n (i + 1)) T) n - sumZ (fun i => chi (vr P c n i) (vr P c n (i + 1)) T) k by omega]; exact hw)
                         | (have ec : chi (P (c (k % n))) (P (c ((k + 1) % n))) T = 0 := by unfold chi; rw [if_neg (by omega), if_neg (by omega)]
                            rw [show sumZ (fun i => chi (vr P c n i) (vr P c n (i + 1)) T) n - sumZ (fun i => chi (vr P c n i) (vr P c n (i + 1)) T) (k + 1) = sumZ (fun i => chi (vr P c n i) (vr P c n (i + 1)) T) n - sumZ (fun i => chi (vr P c n i) (vr P c n (i + 1)) T) k by omega]; exact hw))
                · refine x_iload eX9_lies_147 rfl ?_
                  refine x_if_geS eX9_lies_149 (fun c_149 => ?_) (fun c_149 => ?_)
                  · refine x_iinc (lv' := [_, _, _, _, _, _, _, _, _, _, _]) eX9_lies_155 rfl (nI_dec _) (by decide) rfl ?_
                    refine x_goto eX9_lies_158 ?_
                    refine x_pick [0, 6, 7, 8, 9, 10] rfl ?_
                    first
                      | omega
                      | (have hw := ih (by omega) S2 ⟨hx, hE⟩
                         have e : sumZ (fun i => chi (vr P c n i) (vr P c n (i + 1)) T) (k + 1) = sumZ (fun i => chi (vr P c n i) (vr P c n (i + 1)) T) k + chi (P (c (k % n))) (P (c ((k + 1) % n))) T := rfl
                         first
                           | (have ec : chi (P (c (k % n))) (P (c ((k + 1) % n))) T = 1 := by unfold chi; rw [if_pos (by omega)]
                              rw [show sumZ (fun i => chi (vr P c n i) (vr P c n (i + 1)) T) n - sumZ (fun i => chi (vr P c n i) (vr P c n (i + 1)) T) (k + 1) + 1 = sumZ (fun i => chi (vr P c n i) (vr P c n (i + 1)) T) n - sumZ (fun i => chi (vr P c n i) (vr P c n (i + 1)) T) k by omega]; exact hw)
                           | (have ec : chi (P (c (k % n))) (P (c ((k + 1) % n))) T = -1 := by unfold chi; rw [if_neg (by omega), if_pos (by omega)]
                              rw [show sumZ (fun i => chi (vr P c n i) (vr P c n (i + 1)) T) n - sumZ (fun i => chi (vr P c n i) (vr P c n (i + 1)) T) (k + 1) + -1 = sumZ (fun i => chi (vr P c n i) (vr P c n (i + 1)) T) n - sumZ (fun i => chi (vr P c n i) (vr P c n (i + 1)) T) k by omega]; exact hw)
                           | (have ec : chi (P (c (k % n))) (P (c ((k + 1) % n))) T = 0 := by unfold chi; rw [if_neg (by omega), if_neg (by omega)]
                              rw [show sumZ (fun i => chi (vr P c n i) (vr P c n (i + 1)) T) n - sumZ (fun i => chi (vr P c n i) (vr P c n (i + 1)) T) (k + 1) = sumZ (fun i => chi (vr P c n i) (vr P c n (i + 1)) T) n - sumZ (fun i => chi (vr P c n i) (vr P c n (i + 1)) T) k by omega]; exact hw))
                  · refine x_iinc (lv' := [_, _, _, _, _, _, _, _, _, _, _]) eX9_lies_152 rfl (iI_dec _) (by decide) rfl ?_
                    refine x_iinc (lv' := [_, _, _, _, _, _, _, _, _, _, _]) eX9_lies_155 rfl (nI_dec _) (by decide) rfl ?_
                    refine x_goto eX9_lies_158 ?_
                    refine x_pick [0, 1, 7, 8, 9, 10] rfl ?_
                    first
                      | omega
                      | (have hw := ih (by omega) S2 ⟨hx, hE⟩
                         have e : sumZ (fun i => chi (vr P c n i) (vr P c n (i + 1)) T) (k + 1) = sumZ (fun i => chi (vr P c n i) (vr P c n (i + 1)) T) k + chi (P (c (k % n))) (P (c ((k + 1) % n))) T := rfl
                         first
                           | (have ec : chi (P (c (k % n))) (P (c ((k + 1) % n))) T = 1 := by unfold chi; rw [if_pos (by omega)]
                              rw [show sumZ (fun i => chi (vr P c n i) (vr P c n (i + 1)) T) n - sumZ (fun i => chi (vr P c n i) (vr P c n (i + 1)) T) (k + 1) + 1 = sumZ (fun i => chi (vr P c n i) (vr P c n (i + 1)) T) n - sumZ (fun i => chi (vr P c n i) (vr P c n (i + 1)) T) k by omega]; exact hw)
                           | (have ec : chi (P (c (k % n))) (P (c ((k + 1) % n))) T = -1 := by unfold chi; rw [if_neg (by omega), if_pos (by omega)]
                              rw [show sumZ (fun i => chi (vr P c n i) (vr P c n (i + 1)) T) n - sumZ (fun i => chi (vr P c n i) (vr P c n (i + 1)) T) (k + 1) + -1 = sumZ (fun i => chi (vr P c n i) (vr P c n (i + 1)) T) n - sumZ (fun i => chi (vr P c n i) (vr P c n (i + 1)) T) k by omega]; exact hw)
                           | (have ec : chi (P (c (k % n))) (P (c ((k + 1) % n))) T = 0 := by unfold chi; rw [if_neg (by omega), if_neg (by omega)]
                              rw [show sumZ (fun i => chi (vr P c n i) (vr P c n (i + 1)) T) n - sumZ (fun i => chi (vr P c n i) (vr P c n (i + 1)) T) (k + 1) = sumZ (fun i => chi (vr P c n i) (vr P c n (i + 1)) T) n - sumZ (fun i => chi (vr P c n i) (vr P c n (i + 1)) T) k by omega]; exact hw))
            · refine x_iload eX9_lies_124 rfl ?_
              refine x_if_neN eX9_lies_126 (by omega) (fun c_126 => ?_) (fun c_126 => ?_)
              · refine x_iload eX9_lies_137 rfl ?_
                refine x_if_neN eX9_lies_139 (by omega) (fun c_139 => ?_) (fun c_139 => ?_)
                · refine x_iinc (lv' := [_, _, _, _, _, _, _, _, _, _, _]) eX9_lies_155 rfl (nI_dec _) (by decide) rfl ?_
                  refine x_goto eX9_lies_158 ?_
                  refine x_pick [0, 6, 7, 8, 9, 10] rfl ?_
                  first
                    | omega
                    | (have hw := ih (by omega) S2 ⟨hx, hE⟩
                       have e : sumZ (fun i => chi (vr P c n i) (vr P c n (i + 1)) T) (k + 1) = sumZ (fun i => chi (vr P c n i) (vr P c n (i + 1)) T) k + chi (P (c (k % n))) (P (c ((k + 1) % n))) T := rfl
                       first
                         | (have ec : chi (P (c (k % n))) (P (c ((k + 1) % n))) T = 1 := by unfold chi; rw [if_pos (by omega)]
                            rw [show sumZ (fun i => chi (vr P c n i) (vr P c n (i + 1)) T) n - sumZ (fun i => chi (vr P c n i) (vr P c n (i + 1)) T) (k + 1) + 1 = sumZ (fun i => chi (vr P c n i) (vr P c n (i + 1)) T) n - sumZ (fun i => chi (vr P c n i) (vr P c n (i + 1)) T) k by omega]; exact hw)
                         | (have ec : chi (P (c (k % n))) (P (c ((k + 1) % n))) T = -1 := by unfold chi; rw [if_neg (by omega), if_pos (by omega)]
                            rw [show sumZ (fun i => chi (vr P c n i) (vr P c n (i + 1)) T) n - sumZ (fun i => chi (vr P c n i) (vr P c n (i + 1)) T) (k + 1) + -1 = sumZ (fun i => chi (vr P c n i) (vr P c n (i + 1)) T) n - sumZ (fun i => chi (vr P c n i) (vr P c n (i + 1)) T) k by omega]; exact hw)
                         | (have ec : chi (P (c (k % n))) (P (c ((k + 1) % n))) T = 0 := by unfold chi; rw [if_neg (by omega), if_neg (by omega)]
                            rw [show sumZ (fun i => chi (vr P c n i) (vr P c n (i + 1)) T) n - sumZ (fun i => chi (vr P c n i) (vr P c n (i + 1)) T) (k + 1) = sumZ (fun i => chi (vr P c n i) (vr P c n (i + 1)) T) n - sumZ (fun i => chi (vr P c n i) (vr P c n (i + 1)) T) k by omega]; exact hw))
                · refine x_iload eX9_lies_142 rfl ?_
                  refine x_if_eqN eX9_lies_144 (by omega) (fun c_144 => ?_) (fun c_144 => ?_)
                  · refine x_iinc (lv' := [_, _, _, _, _, _, _, _, _, _, _]) eX9_lies_155 rfl (nI_dec _) (by decide) rfl ?_
                    refine x_goto eX9_lies_158 ?_
                    refine x_pick [0, 6, 7, 8, 9, 10] rfl ?_
                    first
                      | omega
                      | (have hw := ih (by omega) S2 ⟨hx, hE⟩
                         have e : sumZ (fun i => chi (vr P c n i) (vr P c n (i + 1)) T) (k + 1) = sumZ (fun i => chi (vr P c n i) (vr P c n (i + 1)) T) k + chi (P (c (k % n))) (P (c ((k + 1) % n))) T := rfl
                         first
                           | (have ec : chi (P (c (k % n))) (P (c ((k + 1) % n))) T = 1 := by unfold chi; rw [if_pos (by omega)]
                              rw [show sumZ (fun i => chi (vr P c n i) (vr P c n (i + 1)) T) n - sumZ (fun i => chi (vr P c n i) (vr P c n (i + 1)) T) (k + 1) + 1 = sumZ (fun i => chi (vr P c n i) (vr P c n (i + 1)) T) n - sumZ (fun i => chi (vr P c n i) (vr P c n (i + 1)) T) k by omega]; exact hw)
                           | (have ec : chi (P (c (k % n))) (P (c ((k + 1) % n))) T = -1 := by unfold chi; rw [if_neg (by omega), if_pos (by omega)]
                              rw [show sumZ (fun i => chi (vr P c n i) (vr P c n (i + 1)) T) n - sumZ (fun i => chi (vr P c n i) (vr P c n (i + 1)) T) (k + 1) + -1 = sumZ (fun i => chi (vr P c n i) (vr P c n (i + 1)) T) n - sumZ (fun i => chi (vr P c n i) (vr P c n (i + 1)) T) k by omega]; exact hw)
                           | (have ec : chi (P (c (k % n))) (P (c ((k + 1) % n))) T = 0 := by unfold chi; rw [if_neg (by omega), if_neg (by omega)]
                              rw [show sumZ (fun i => chi (vr P c n i) (vr P c n (i + 1)) T) n - sumZ (fun i => chi (vr P c n i) (vr P c n (i + 1)) T) (k + 1) = sumZ (fun i => chi (vr P c n i) (vr P c n (i + 1)) T) n - sumZ (fun i => chi (vr P c n i) (vr P c n (i + 1)) T) k by omega]; exact hw))
                  · refine x_iload eX9_lies_147 rfl ?_
                    refine x_if_geS eX9_lies_149 (fun c_149 => ?_) (fun c_149 => ?_)
                    · refine x_iinc (lv' := [_, _, _, _, _, _, _, _, _, _, _]) eX9_lies_155 rfl (nI_dec _) (by decide) rfl ?_
                      refine x_goto eX9_lies_158 ?_
                      refine x_pick [0, 6, 7, 8, 9, 10] rfl ?_
                      first
                        | omega
                        | (have hw := ih (by omega) S2 ⟨hx, hE⟩
                           have e : sumZ (fun i => chi (vr P c n i) (vr P c n (i + 1)) T) (k + 1) = sumZ (fun i => chi (vr P c n i) (vr P c n (i + 1)) T) k + chi (P (c (k % n))) (P (c ((k + 1) % n))) T := rfl
                           first
                             | (have ec : chi (P (c (k % n))) (P (c ((k + 1) % n))) T = 1 := by unfold chi; rw [if_pos (by omega)]
                                rw [show sumZ (fun i => chi (vr P c n i) (vr P c n (i + 1)) T) n - sumZ (fun i => chi (vr P c n i) (vr P c n (i + 1)) T) (k + 1) + 1 = sumZ (fun i => chi (vr P c n i) (vr P c n (i + 1)) T) n - sumZ (fun i => chi (vr P c n i) (vr P c n (i + 1)) T) k by omega]; exact hw)
                             | (have ec : chi (P (c (k % n))) (P (c ((k + 1) % n))) T = -1 := by unfold chi; rw [if_neg (by omega), if_pos (by omega)]
                                rw [show sumZ (fun i => chi (vr P c n i) (vr P c n (i + 1)) T) n - sumZ (fun i => chi (vr P c n i) (vr P c n (i + 1)) T) (k + 1) + -1 = sumZ (fun i => chi (vr P c n i) (vr P c n (i + 1)) T) n - sumZ (fun i => chi (vr P c n i) (vr P c n (i + 1)) T) k by omega]; exact hw)
                             | (have ec : chi (P (c (k % n))) (P (c ((k + 1) % n))) T = 0 := by unfold chi; rw [if_neg (by omega), if_neg (by omega)]
                                rw [show sumZ (fun i => chi (vr P c n i) (vr P c n (i + 1)) T) n - sumZ (fun i => chi (vr P c n i) (vr P c n (i + 1)) T) (k + 1) = sumZ (fun i => chi (vr P c n i) (vr P c n (i + 1)) T) n - sumZ (fun i => chi (vr P c n i) (vr P c n (i + 1)) T) k by omega]; exact hw))
                    · refine x_iinc (lv' := [_, _, _, _, _, _, _, _, _, _, _]) eX9_lies_152 rfl (iI_dec _) (by decide) rfl ?_
                      refine x_iinc (lv' := [_, _, _, _, _, _, _, _, _, _, _]) eX9_lies_155 rfl (nI_dec _) (by decide) rfl ?_
                      refine x_goto eX9_lies_158 ?_
                      refine x_pick [0, 1, 7, 8, 9, 10] rfl ?_
                      first
                        | omega
                        | (have hw := ih (by omega) S2 ⟨hx, hE⟩
                           have e : sumZ (fun i => chi (vr P c n i) (vr P c n (i + 1)) T) (k + 1) = sumZ (fun i => chi (vr P c n i) (vr P c n (i + 1)) T) k + chi (P (c (k % n))) (P (c ((k + 1) % n))) T := rfl
                           first
                             | (have ec : chi (P (c (k % n))) (P (c ((k + 1) % n))) T = 1 := by unfold chi; rw [if_pos (by omega)]
                                rw [show sumZ (fun i => chi (vr P c n i) (vr P c n (i + 1)) T) n - sumZ (fun i => chi (vr P c n i) (vr P c n (i + 1)) T) (k + 1) + 1 = sumZ (fun i => chi (vr P c n i) (vr P c n (i + 1)) T) n - sumZ (fun i => chi (vr P c n i) (vr P c n (i + 1)) T) k by omega]; exact hw)
                             | (have ec : chi (P (c (k % n))) (P (c ((k + 1) % n))) T = -1 := by unfold chi; rw [if_neg (by omega), if_pos (by omega)]
                                rw [show sumZ (fun i => chi (vr P c n i) (vr P c n (i + 1)) T) n - sumZ (fun i => chi (vr P c n i) (vr P c n (i + 1)) T) (k + 1) + -1 = sumZ (fun i => chi (vr P c n i) (vr P c n (i + 1)) T) n - sumZ (fun i => chi (vr P c n i) (vr P c n (i + 1)) T) k by omega]; exact hw)
                             | (have ec : chi (P (c (k % n))) (P (c ((k + 1) % n))) T = 0 := by unfold chi; rw [if_neg (by omega), if_neg (by omega)]
                                rw [show sumZ (fun i => chi (vr P c n i) (vr P c n (i + 1)) T) n - sumZ (fun i => chi (vr P c n i) (vr P c n (i + 1)) T) (k + 1) = sumZ (fun i => chi (vr P c n i) (vr P c n (i + 1)) T) n - sumZ (fun i => chi (vr P c n i) (vr P c n (i + 1)) T) k by omega]; exact hw))
              · refine x_iload eX9_lies_129 rfl ?_
                refine x_if_leS eX9_lies_131 (fun c_131 => ?_) (fun c_131 => ?_)
                · refine x_iload eX9_lies_137 rfl ?_
                  refine x_if_neN eX9_lies_139 (by omega) (fun c_139 => ?_) (fun c_139 => ?_)
                  · refine x_iinc (lv' := [_, _, _, _, _, _, _, _, _, _, _]) eX9_lies_155 rfl (nI_dec _) (by decide) rfl ?_
                    refine x_goto eX9_lies_158 ?_
                    refine x_pick [0, 6, 7, 8, 9, 10] rfl ?_
                    first
                      | omega
                      | (have hw := ih (by omega) S2 ⟨hx, hE⟩
                         have e : sumZ (fun i => chi (vr P c n i) (vr P c n (i + 1)) T) (k + 1) = sumZ (fun i => chi (vr P c n i) (vr P c n (i + 1)) T) k + chi (P (c (k % n))) (P (c ((k + 1) % n))) T := rfl
                         first
                           | (have ec : chi (P (c (k % n))) (P (c ((k + 1) % n))) T = 1 := by unfold chi; rw [if_pos (by omega)]
                              rw [show sumZ (fun i => chi (vr P c n i) (vr P c n (i + 1)) T) n - sumZ (fun i => chi (vr P c n i) (vr P c n (i + 1)) T) (k + 1) + 1 = sumZ (fun i => chi (vr P c n i) (vr P c n (i + 1)) T) n - sumZ (fun i => chi (vr P c n i) (vr P c n (i + 1)) T) k by omega]; exact hw)
                           | (have ec : chi (P (c (k % n))) (P (c ((k + 1) % n))) T = -1 := by unfold chi; rw [if_neg (by omega), if_pos (by omega)]
                              rw [show sumZ (fun i => chi (vr P c n i) (vr P c n (i + 1)) T) n - sumZ (fun i => chi (vr P c n i) (vr P c n (i + 1)) T) (k + 1) + -1 = sumZ (fun i => chi (vr P c n i) (vr P c n (i + 1)) T) n - sumZ (fun i => chi (vr P c n i) (vr P c n (i + 1)) T) k by omega]; exact hw)
                           | (have ec : chi (P (c (k % n))) (P (c ((k + 1) % n))) T = 0 := by unfold chi; rw [if_neg (by omega), if_neg (by omega)]
                              rw [show sumZ (fun i => chi (vr P c n i) (vr P c n (i + 1)) T) n - sumZ (fun i => chi (vr P c n i) (vr P c n (i + 1)) T) (k + 1) = sumZ (fun i => chi (vr P c n i) (vr P c n (i + 1)) T) n - sumZ (fun i => chi (vr P c n i) (vr P c n (i + 1)) T) k by omega]; exact hw))
                  · refine x_iload eX9_lies_142 rfl ?_
                    refine x_if_eqN eX9_lies_144 (by omega) (fun c_144 => ?_) (fun c_144 => ?_)
                    · refine x_iinc (lv' := [_, _, _, _, _, _, _, _, _, _, _]) eX9_lies_155 rfl (nI_dec _) (by decide) rfl ?_
                      refine x_goto eX9_lies_158 ?_
                      refine x_pick [0, 6, 7, 8, 9, 10] rfl ?_
                      first
                        | omega
                        | (have hw := ih (by omega) S2 ⟨hx, hE⟩
                           have e : sumZ (fun i => chi (vr P c n i) (vr P c n (i + 1)) T) (k + 1) = sumZ (fun i => chi (vr P c n i) (vr P c n (i + 1)) T) k + chi (P (c (k % n))) (P (c ((k + 1) % n))) T := rfl
                           first
                             | (have ec : chi (P (c (k % n))) (P (c ((k + 1) % n))) T = 1 := by unfold chi; rw [if_pos (by omega)]
                                rw [show sumZ (fun i => chi (vr P c n i) (vr P c n (i + 1)) T) n - sumZ (fun i => chi (vr P c n i) (vr P c n (i + 1)) T) (k + 1) + 1 = sumZ (fun i => chi (vr P c n i) (vr P c n (i + 1)) T) n - sumZ (fun i => chi (vr P c n i) (vr P c n (i + 1)) T) k by omega]; exact hw)
                             | (have ec : chi (P (c (k % n))) (P (c ((k + 1) % n))) T = -1 := by unfold chi; rw [if_neg (by omega), if_pos (by omega)]
                                rw [show sumZ (fun i => chi (vr P c n i) (vr P c n (i + 1)) T) n - sumZ (fun i => chi (vr P c n i) (vr P c n (i + 1)) T) (k + 1) + -1 = sumZ (fun i => chi (vr P c n i) (vr P c n (i + 1)) T) n - sumZ (fun i => chi (vr P c n i) (vr P c n (i + 1)) T) k by omega]; exact hw)
                             | (have ec : chi (P (c (k % n))) (P (c ((k + 1) % n))) T = 0 := by unfold chi; rw [if_neg (by omega), if_neg (by omega)]
                                rw [show sumZ (fun i => chi (vr P c n i) (vr P c n (i + 1)) T) n - sumZ (fun i => chi (vr P c n i) (vr P c n (i + 1)) T) (k + 1) = sumZ (fun i => chi (vr P c n i) (vr P c n (i + 1)) T) n - sumZ (fun i => chi (vr P c n i) (vr P c n (i + 1)) T) k by omega]; exact hw))
                    · refine x_iload eX9_lies_147 rfl ?_
                      refine x_if_geS eX9_lies_149 (fun c_149 => ?_) (fun c_149 => ?_)
                      · refine x_iinc (lv' := [_, _, _, _, _, _, _, _, _, _, _]) eX9_lies_155 rfl (nI_dec _) (by decide) rfl ?_
                        refine x_goto eX9_lies_158 ?_
                        refine x_pick [0, 6, 7, 8, 9, 10] rfl ?_
                        first
                          | omega
                          | (have hw := ih (by omega) S2 ⟨hx, hE⟩
                             have e : sumZ (fun i => chi (vr P c n i) (vr P c n (i + 1)) T) (k + 1) = sumZ (fun i => chi (vr P c n i) (vr P c n (i + 1)) T) k + chi (P (c (k % n))) (P (c ((k + 1) % n))) T := rfl
                             first
                               | (have ec : chi (P (c (k % n))) (P (c ((k + 1) % n))) T = 1 := by unfold chi; rw [if_pos (by omega)]
                                  rw [show sumZ (fun i => chi (vr P c n i) (vr P c n (i + 1)) T) n - sumZ (fun i => chi (vr P c n i) (vr P c n (i + 1)) T) (k + 1) + 1 = sumZ (fun i => chi (vr P c n i) (vr P c n (i + 1)) T) n - sumZ (fun i => chi (vr P c n i) (vr P c n (i + 1)) T) k by omega]; exact hw)
                               | (have ec : chi (P (c (k % n))) (P (c ((k + 1) % n))) T = -1 := by unfold chi; rw [if_neg (by omega), if_pos (by omega)]
                                  rw [show sumZ (fun i => chi (vr P c n i) (vr P c n (i + 1)) T) n - sumZ (fun i => chi (vr P c n i) (vr P c n (i + 1)) T) (k + 1) + -1 = sumZ (fun i => chi (vr P c n i) (vr P c n (i + 1)) T) n - sumZ (fun i => chi (vr P c n i) (vr P c n (i + 1)) T) k by omega]; exact hw)
                               | (have ec : chi (P (c (k % n))) (P (c ((k + 1) % n))) T = 0 := by unfold chi; rw [if_neg (by omega), if_neg (by omega)]
                                  rw [show sumZ (fun i => chi (vr P c n i) (vr P c n (i + 1)) T) n - sumZ (fun i => chi (vr P c n i) (vr P c n (i + 1)) T) (k + 1) = sumZ (fun i => chi (vr P c n i) (vr P c n (i + 1)) T) n - sumZ (fun i => chi (vr P c n i) (vr P c n (i + 1)) T) k by omega]; exact hw))
                      · refine x_iinc (lv' := [_, _, _, _, _, _, _, _, _, _, _]) eX9_lies_152 rfl (iI_dec _) (by decide) rfl ?_
                        refine x_iinc (lv' := [_, _, _, _, _, _, _, _, _, _, _]) eX9_lies_155 rfl (nI_dec _) (by decide) rfl ?_
                        refine x_goto eX9_lies_158 ?_
                        refine x_pick [0, 1, 7, 8, 9, 10] rfl ?_
                        first
                          | omega
                          | (have hw := ih (by omega) S2 ⟨hx, hE⟩
                             have e : sumZ (fun i => chi (vr P c n i) (vr P c n (i + 1)) T) (k + 1) = sumZ (fun i => chi (vr P c n i) (vr P c n (i + 1)) T) k + chi (P (c (k % n))) (P (c ((k + 1) % n))) T := rfl
                             first
                               | (have ec : chi (P (c (k % n))) (P (c ((k + 1) % n))) T = 1 := by unfold chi; rw [if_pos (by omega)]
                                  rw [show sumZ (fun i => chi (vr P c n i) (vr P c n (i + 1)) T) n - sumZ (fun i => chi (vr P c n i) (vr P c n (i + 1)) T) (k + 1) + 1 = sumZ (fun i => chi (vr P c n i) (vr P c n (i + 1)) T) n - sumZ (fun i => chi (vr P c n i) (vr P c n (i + 1)) T) k by omega]; exact hw)
                               | (have ec : chi (P (c (k % n))) (P (c ((k + 1) % n))) T = -1 := by unfold chi; rw [if_neg (by omega), if_pos (by omega)]
                                  rw [show sumZ (fun i => chi (vr P c n i) (vr P c n (i + 1)) T) n - sumZ (fun i => chi (vr P c n i) (vr P c n (i + 1)) T) (k + 1) + -1 = sumZ (fun i => chi (vr P c n i) (vr P c n (i + 1)) T) n - sumZ (fun i => chi (vr P c n i) (vr P c n (i + 1)) T) k by omega]; exact hw)
                               | (have ec : chi (P (c (k % n))) (P (c ((k + 1) % n))) T = 0 := by unfold chi; rw [if_neg (by omega), if_neg (by omega)]
                                  rw [show sumZ (fun i => chi (vr P c n i) (vr P c n (i + 1)) T) n - sumZ (fun i => chi (vr P c n i) (vr P c n (i + 1)) T) (k + 1) = sumZ (fun i => chi (vr P c n i) (vr P c n (i + 1)) T) n - sumZ (fun i => chi (vr P c n i) (vr P c n (i + 1)) T) k by omega]; exact hw))
                · refine x_iinc (lv' := [_, _, _, _, _, _, _, _, _, _, _]) eX9_lies_134 rfl (iI_inc _) (by decide) rfl ?_
                  refine x_iload eX9_lies_137 rfl ?_
                  refine x_if_neN eX9_lies_139 (by omega) (fun c_139 => ?_) (fun c_139 => ?_)
                  · refine x_iinc (lv' := [_, _, _, _, _, _, _, _, _, _, _]) eX9_lies_155 rfl (nI_dec _) (by decide) rfl ?_
                    refine x_goto eX9_lies_158 ?_
                    refine x_pick [0, 1, 7, 8, 9, 10] rfl ?_
                    first
                      | omega
                      | (have hw := ih (by omega) S2 ⟨hx, hE⟩
                         have e : sumZ (fun i => chi (vr P c n i) (vr P c n (i + 1)) T) (k + 1) = sumZ (fun i => chi (vr P c n i) (vr P c n (i + 1)) T) k + chi (P (c (k % n))) (P (c ((k + 1) % n))) T := rfl
                         first
                           | (have ec : chi (P (c (k % n))) (P (c ((k + 1) % n))) T = 1 := by unfold chi; rw [if_pos (by omega)]
                              rw [show sumZ (fun i => chi (vr P c n i) (vr P c n (i + 1)) T) n - sumZ (fun i => chi (vr P c n i) (vr P c n (i + 1)) T) (k + 1) + 1 = sumZ (fun i => chi (vr P c n i) (vr P c n (i + 1)) T) n - sumZ (fun i => chi (vr P c n i) (vr P c n (i + 1)) T) k by omega]; exact hw)
                           | (have ec : chi (P (c (k % n))) (P (c ((k + 1) % n))) T = -1 := by unfold chi; rw [if_neg (by omega), if_pos (by omega)]
                              rw [show sumZ (fun i => chi (vr P c n i) (vr P c n (i + 1)) T) n - sumZ (fun i => chi (vr P c n i) (vr P c n (i + 1)) T) (k + 1) + -1 = sumZ (fun i => chi (vr P c n i) (vr P c n (i + 1)) T) n - sumZ (fun i => chi (vr P c n i) (vr P c n (i + 1)) T) k by omega]; exact hw)
                           | (have ec : chi (P (c (k % n))) (P (c ((k + 1) % n))) T = 0 := by unfold chi; rw [if_neg (by omega), if_neg (by omega)]
                              rw [show sumZ (fun i => chi (vr P c n i) (vr P c n (i + 1)) T) n - sumZ (fun i => chi (vr P c n i) (vr P c n (i + 1)) T) (k + 1) = sumZ (fun i => chi (vr P c n i) (vr P c n (i + 1)) T) n - sumZ (fun i => chi (vr P c n i) (vr P c n (i + 1)) T) k by omega]; exact hw))
                  · refine x_iload eX9_lies_142 rfl ?_
                    refine x_if_eqN eX9_lies_144 (by omega) (fun c_144 => ?_) (fun c_144 => ?_)
                    · refine x_iinc (lv' := [_, _, _, _, _, _, _, _, _, _, _]) eX9_lies_155 rfl (nI_dec _) (by decide) rfl ?_
                      refine x_goto eX9_lies_158 ?_
                      refine x_pick [0, 1, 7, 8, 9, 10] rfl ?_
                      first
                        | omega
                        | (have hw := ih (by omega) S2 ⟨hx, hE⟩
                           have e : sumZ (fun i => chi (vr P c n i) (vr P c n (i + 1)) T) (k + 1) = sumZ (fun i => chi (vr P c n i) (vr P c n (i + 1)) T) k + chi (P (c (k % n))) (P (c ((k + 1) % n))) T := rfl
                           first
                             | (have ec : chi (P (c (k % n))) (P (c ((k + 1) % n))) T = 1 := by unfold chi; rw [if_pos (by omega)]
                                rw [show sumZ (fun i => chi (vr P c n i) (vr P c n (i + 1)) T) n - sumZ (fun i => chi (vr P c n i) (vr P c n (i + 1)) T) (k + 1) + 1 = sumZ (fun i => chi (vr P c n i) (vr P c n (i + 1)) T) n - sumZ (fun i => chi (vr P c n i) (vr P c n (i + 1)) T) k by omega]; exact hw)
                             | (have ec : chi (P (c (k % n))) (P (c ((k + 1) % n))) T = -1 := by unfold chi; rw [if_neg (by omega), if_pos (by omega)]
                                rw [show sumZ (fun i => chi (vr P c n i) (vr P c n (i + 1)) T) n - sumZ (fun i => chi (vr P c n i) (vr P c n (i + 1)) T) (k + 1) + -1 = sumZ (fun i => chi (vr P c n i) (vr P c n (i + 1)) T) n - sumZ (fun i => chi (vr P c n i) (vr P c n (i + 1)) T) k by omega]; exact hw)
                             | (have ec : chi (P (c (k % n))) (P (c ((k + 1) % n))) T = 0 := by unfold chi; rw [if_neg (by omega), if_neg (by omega)]
                                rw [show sumZ (fun i => chi (vr P c n i) (vr P c n (i + 1)) T) n - sumZ (fun i => chi (vr P c n i) (vr P c n (i + 1)) T) (k + 1) = sumZ (fun i => chi (vr P c n i) (vr P c n (i + 1)) T) n - sumZ (fun i => chi (vr P c n i) (vr P c n (i + 1)) T) k by omega]; exact hw))
                    · refine x_iload eX9_lies_147 rfl ?_
                      refine x_if_geS eX9_lies_149 (fun c_149 => ?_) (fun c_149 => ?_)
                      · refine x_iinc (lv' := [_, _, _, _, _, _, _, _, _, _, _]) eX9_lies_155 rfl (nI_dec _) (by decide) rfl ?_
                        refine x_goto eX9_lies_158 ?_
                        refine x_pick [0, 1, 7, 8, 9, 10] rfl ?_
                        first
                          | omega
                          | (have hw := ih (by omega) S2 ⟨hx, hE⟩
                             have e : sumZ (fun i => chi (vr P c n i) (vr P c n (i + 1)) T) (k + 1) = sumZ (fun i => chi (vr P c n i) (vr P c n (i + 1)) T) k + chi (P (c (k % n))) (P (c ((k + 1) % n))) T := rfl
                             first
                               | (have ec : chi (P (c (k % n))) (P (c ((k + 1) % n))) T = 1 := by unfold chi; rw [if_pos (by omega)]
                                  rw [show sumZ (fun i => chi (vr P c n i) (vr P c n (i + 1)) T) n - sumZ (fun i => chi (vr P c n i) (vr P c n (i + 1)) T) (k + 1) + 1 = sumZ (fun i => chi (vr P c n i) (vr P c n (i + 1)) T) n - sumZ (fun i => chi (vr P c n i) (vr P c n (i + 1)) T) k by omega]; exact hw)
                               | (have ec : chi (P (c (k % n))) (P (c ((k + 1) % n))) T = -1 := by unfold chi; rw [if_neg (by omega), if_pos (by omega)]
                                  rw [show sumZ (fun i => chi (vr P c n i) (vr P c n (i + 1)) T) n - sumZ (fun i => chi (vr P c n i) (vr P c n (i + 1)) T) (k + 1) + -1 = sumZ (fun i => chi (vr P c n i) (vr P c n (i + 1)) T) n - sumZ (fun i => chi (vr P c n i) (vr P c n (i + 1)) T) k by omega]; exact hw)
                               | (have ec : chi (P (c (k % n))) (P (c ((k + 1) % n))) T = 0 := by unfold chi; rw [if_neg (by omega), if_neg (by omega)]
                                  rw [show sumZ (fun i => chi (vr P c n i) (vr P c n (i + 1)) T) n - sumZ (fun i => chi (vr P c n i) (vr P c n (i + 1)) T) (k + 1) = sumZ (fun i => chi (vr P c n i) (vr P c n (i + 1)) T) n - sumZ (fun i => chi (vr P c n i) (vr P c n (i + 1)) T) k by omega]; exact hw))
                      · refine x_iinc (lv' := [_, _, _, _, _, _, _, _, _, _, _]) eX9_lies_152 rfl (iI_dec _) (by decide) rfl ?_
                        refine x_iinc (lv' := [_, _, _, _, _, _, _, _, _, _, _]) eX9_lies_155 rfl (nI_dec _) (by decide) rfl ?_
                        refine x_goto eX9_lies_158 ?_
                        refine x_pick [0, 1, 7, 8, 9, 10] rfl ?_
                        first
                          | omega
                          | (have hw := ih (by omega) S2 ⟨hx, hE⟩
                             have e : sumZ (fun i => chi (vr P c n i) (vr P c n (i + 1)) T) (k + 1) = sumZ (fun i => chi (vr P c n i) (vr P c n (i + 1)) T) k + chi (P (c (k % n))) (P (c ((k + 1) % n))) T := rfl
                             first
                               | (have ec : chi (P (c (k % n))) (P (c ((k + 1) % n))) T = 1 := by unfold chi; rw [if_pos (by omega)]
                                  rw [show sumZ (fun i => chi (vr P c n i) (vr P c n (i + 1)) T) n - sumZ (fun i => chi (vr P c n i) (vr P c n (i + 1)) T) (k + 1) + 1 = sumZ (fun i => chi (vr P c n i) (vr P c n (i + 1)) T) n - sumZ (fun i => chi (vr P c n i) (vr P c n (i + 1)) T) k by omega]; exact hw)
                               | (have ec : chi (P (c (k % n))) (P (c ((k + 1) % n))) T = -1 := by unfold chi; rw [if_neg (by omega), if_pos (by omega)]
                                  rw [show sumZ (fun i => chi (vr P c n i) (vr P c n (i + 1)) T) n - sumZ (fun i => chi (vr P c n i) (vr P c n (i + 1)) T) (k + 1) + -1 = sumZ (fun i => chi (vr P c n i) (vr P c n (i + 1)) T) n - sumZ (fun i => chi (vr P c n i) (vr P c n (i + 1)) T) k by omega]; exact hw)
                               | (have ec : chi (P (c (k % n))) (P (c ((k + 1) % n))) T = 0 := by unfold chi; rw [if_neg (by omega), if_neg (by omega)]
                                  rw [show sumZ (fun i => chi (vr P c n i) (vr P c n (i + 1)) T) n - sumZ (fun i => chi (vr P c n i) (vr P c n (i + 1)) T) (k + 1) = sumZ (fun i => chi (vr P c n i) (vr P c n (i + 1)) T) n - sumZ (fun i => chi (vr P c n i) (vr P c n (i + 1)) T) k by omega]; exact hw))
          · refine x_iconst (v := nI 1) eX9_lies_112 (by decide) ?_
            refine x_goto eX9_lies_113 ?_
            refine x_istore (lv' := [_, _, _, _, _, _, _, _, _, _, _]) eX9_lies_117 (by decide) rfl ?_
            refine x_iload eX9_lies_119 rfl ?_
            refine x_if_eqN eX9_lies_121 (by omega) (fun c_121 => ?_) (fun c_121 => ?_)
            · refine x_iload eX9_lies_137 rfl ?_
              refine x_if_neN eX9_lies_139 (by omega) (fun c_139 => ?_) (fun c_139 => ?_)
              · refine x_iinc (lv' := [_, _, _, _, _, _, _, _, _, _, _]) eX9_lies_155 rfl (nI_dec _) (by decide) rfl ?_
                refine x_goto eX9_lies_158 ?_
                refine x_pick [0, 6, 7, 8, 9, 10] rfl ?_
                first
                  | omega
                  | (have hw := ih (by omega) S2 ⟨hx, hE⟩
                     have e : sumZ (fun i => chi (vr P c n i) (vr P c n (i + 1)) T) (k + 1) = sumZ (fun i => chi (vr P c n i) (vr P c n (i + 1)) T) k + chi (P (c (k % n))) (P (c ((k + 1) % n))) T := rfl
                     first
                       | (have ec : chi (P (c (k % n))) (P (c ((k + 1) % n))) T = 1 := by unfold chi; rw [if_pos (by omega)]
                          rw [show sumZ (fun i => chi (vr P c n i) (vr P c n (i + 1)) T) n - sumZ (fun i => chi (vr P c n i) (vr P c n (i + 1)) T) (k + 1) + 1 = sumZ (fun i => chi (vr P c n i) (vr P c n (i + 1)) T) n - sumZ (fun i => chi (vr P c n i) (vr P c n (i + 1)) T) k by omega]; exact hw)
                       | (have ec : chi (P (c (k % n))) (P (c ((k + 1) % n))) T = -1 := by unfold chi; rw [if_neg (by omega), if_pos (by omega)]
                          rw [show sumZ (fun i => chi (vr P c n i) (vr P c n (i + 1)) T) n - sumZ (fun i => chi (vr P c n i) (vr P c n (i + 1)) T) (k + 1) + -1 = sumZ (fun i => chi (vr P c n i) (vr P c n (i + 1)) T) n - sumZ (fun i => chi (vr P c n i) (vr P c n (i + 1)) T) k by omega]; exact hw)
                       | (have ec : chi (P (c (k % n))) (P (c ((k + 1) % n))) T = 0 := by unfold chi; rw [if_neg (by omega), if_neg (by omega)]
                          rw [show sumZ (fun i => chi (vr P c n i) (vr P c n (i + 1)) T) n - sumZ (fun i => chi (vr P c n i) (vr P c n (i + 1)) T) (k + 1) = sumZ (fun i => chi (vr P c n i) (vr P c n (i + 1)) T) n - sumZ (fun i => chi (vr P c n i) (vr P c n (i + 1)) T) k by omega]; exact hw))
              · refine x_iload eX9_lies_142 rfl ?_
                refine x_if_eqN eX9_lies_144 (by omega) (fun c_144 => ?_) (fun c_144 => ?_)
                · refine x_iinc (lv' := [_, _, _, _, _, _, _, _, _, _, _]) eX9_lies_155 rfl (nI_dec _) (by decide) rfl ?_
                  refine x_goto eX9_lies_158 ?_
                  refine x_pick [0, 6, 7, 8, 9, 10] rfl ?_
                  first
                    | omega
                    | (have hw := ih (by omega) S2 ⟨hx, hE⟩
                       have e : sumZ (fun i => chi (vr P c n i) (vr P c n (i + 1)) T) (k + 1) = sumZ (fun i => chi (vr P c n i) (vr P c n (i + 1)) T) k + chi (P (c (k % n))) (P (c ((k + 1) % n))) T := rfl
                       first
                         | (have ec : chi (P (c (k % n))) (P (c ((k + 1) % n))) T = 1 := by unfold chi; rw [if_pos (by omega)]
                            rw [show sumZ (fun i => chi (vr P c n i) (vr P c n (i + 1)) T) n - sumZ (fun i => chi (vr P c n i) (vr P c n (i + 1)) T) (k + 1) + 1 = sumZ (fun i => chi (vr P c n i) (vr P c n (i + 1)) T) n - sumZ (fun i => chi (vr P c n i) (vr P c n (i + 1)) T) k by omega]; exact hw)
                         | (have ec : chi (P (c (k % n))) (P (c ((k + 1) % n))) T = -1 := by unfold chi; rw [if_neg (by omega), if_pos (by omega)]
                            rw [show sumZ (fun i => chi (vr P c n i) (vr P c n (i + 1)) T) n - sumZ (fun i => chi (vr P c n i) (vr P c n (i + 1)) T) (k + 1) + -1 = sumZ (fun i => chi (vr P c n i) (vr P c n (i + 1)) T) n - sumZ (fun i => chi (vr P c n i) (vr P c n (i + 1)) T) k by omega]; exact hw)
                         | (have ec : chi (P (c (k % n))) (P (c ((k + 1) % n))) T = 0 := by unfold chi; rw [if_neg (by omega), if_neg (by omega)]
                            rw [show sumZ (fun i => chi (vr P c n i) (vr P c n (i + 1)) T) n - sumZ (fun i => chi (vr P c n i) (vr P c n (i + 1)) T) (k + 1) = sumZ (fun i => chi (vr P c n i) (vr P c n (i + 1)) T) n - sumZ (fun i => chi (vr P c n i) (vr P c n (i + 1)) T) k by omega]; exact hw))
                · refine x_iload eX9_lies_147 rfl ?_
                  refine x_if_geS eX9_lies_149 (fun c_149 => ?_) (fun c_149 => ?_)
                  · refine x_iinc (lv' := [_, _, _, _, _, _, _, _, _, _, _]) eX9_lies_155 rfl (nI_dec _) (by decide) rfl ?_
                    refine x_goto eX9_lies_158 ?_
                    refine x_pick [0, 6, 7, 8, 9, 10] rfl ?_
                    first
                      | omega
                      | (have hw := ih (by omega) S2 ⟨hx, hE⟩
                         have e : sumZ (fun i => chi (vr P c n i) (vr P c n (i + 1)) T) (k + 1) = sumZ (fun i => chi (vr P c n i) (vr P c n (i + 1)) T) k + chi (P (c (k % n))) (P (c ((k + 1) % n))) T := rfl
                         first
                           | (have ec : chi (P (c (k % n))) (P (c ((k + 1) % n))) T = 1 := by unfold chi; rw [if_pos (by omega)]
                              rw [show sumZ (fun i => chi (vr P c n i) (vr P c n (i + 1)) T) n - sumZ (fun i => chi (vr P c n i) (vr P c n (i + 1)) T) (k + 1) + 1 = sumZ (fun i => chi (vr P c n i) (vr P c n (i + 1)) T) n - sumZ (fun i => chi (vr P c n i) (vr P c n (i + 1)) T) k by omega]; exact hw)
                           | (have ec : chi (P (c (k % n))) (P (c ((k + 1) % n))) T = -1 := by unfold chi; rw [if_neg (by omega), if_pos (by omega)]
                              rw [show sumZ (fun i => chi (vr P c n i) (vr P c n (i + 1)) T) n - sumZ (fun i => chi (vr P c n i) (vr P c n (i + 1)) T) (k + 1) + -1 = sumZ (fun i => chi (vr P c n i) (vr P c n (i + 1)) T) n - sumZ (fun i => chi (vr P c n i) (vr P c n (i + 1)) T) k by omega]; exact hw)
                           | (have ec : chi (P (c (k % n))) (P (c ((k + 1) % n))) T = 0 := by unfold chi; rw [if_neg (by omega), if_neg (by omega)]
                              rw [show sumZ (fun i => chi (vr P c n i) (vr P c n (i + 1)) T) n - sumZ (fun i => chi (vr P c n i) (vr P c n (i + 1)) T) (k + 1) = sumZ (fun i => chi (vr P c n i) (vr P c n (i + 1)) T) n - sumZ (fun i => chi (vr P c n i) (vr P c n (i + 1)) T) k by omega]; exact hw))
                  · refine x_iinc (lv' := [_, _, _, _, _, _, _, _, _, _, _]) eX9_lies_152 rfl (iI_dec _) (by decide) rfl ?_
                    refine x_iinc (lv' := [_, _, _, _, _, _, _, _, _, _, _]) eX9_lies_155 rfl (nI_dec _) (by decide) rfl ?_
                    refine x_goto eX9_lies_158 ?_
                    refine x_pick [0, 1, 7, 8, 9, 10] rfl ?_
                    first
                      | omega
                      | (have hw := ih (by omega) S2 ⟨hx, hE⟩
                         have e : sumZ (fun i => chi (vr P c n i) (vr P c n (i + 1)) T) (k + 1) = sumZ (fun i => chi (vr P c n i) (vr P c n (i + 1)) T) k + chi (P (c (k % n))) (P (c ((k + 1) % n))) T := rfl
                         first
                           | (have ec : chi (P (c (k % n))) (P (c ((k + 1) % n))) T = 1 := by unfold chi; rw [if_pos (by omega)]
                              rw [show sumZ (fun i => chi (vr P c n i) (vr P c n (i + 1)) T) n - sumZ (fun i => chi (vr P c n i) (vr P c n (i + 1)) T) (k + 1) + 1 = sumZ (fun i => chi (vr P c n i) (vr P c n (i + 1)) T) n - sumZ (fun i => chi (vr P c n i) (vr P c n (i + 1)) T) k by omega]; exact hw)
                           | (have ec : chi (P (c (k % n))) (P (c ((k + 1) % n))) T = -1 := by unfold chi; rw [if_neg (by omega), if_pos (by omega)]
                              rw [show sumZ (fun i => chi (vr P c n i) (vr P c n (i + 1)) T) n - sumZ (fun i => chi (vr P c n i) (vr P c n (i + 1)) T) (k + 1) + -1 = sumZ (fun i => chi (vr P c n i) (vr P c n (i + 1)) T) n - sumZ (fun i => chi (vr P c n i) (vr P c n (i + 1)) T) k by omega]; exact hw)
                           | (have ec : chi (P (c (k % n))) (P (c ((k + 1) % n))) T = 0 := by unfold chi; rw [if_neg (by omega), if_neg (by omega)]
                              rw [show sumZ (fun i => chi (vr P c n i) (vr P c n (i + 1)) T) n - sumZ (fun i => chi (vr P c n i) (vr P c n (i + 1)) T) (k + 1) = sumZ (fun i => chi (vr P c n i) (vr P c n (i + 1)) T) n - sumZ (fun i => chi (vr P c n i) (vr P c n (i + 1)) T) k by omega]; exact hw))
            · refine x_iload eX9_lies_124 rfl ?_
              refine x_if_neN eX9_lies_126 (by omega) (fun c_126 => ?_) (fun c_126 => ?_)
              · refine x_iload eX9_lies_137 rfl ?_
                refine x_if_neN eX9_lies_139 (by omega) (fun c_139 => ?_) (fun c_139 => ?_)
                · refine x_iinc (lv' := [_, _, _, _, _, _, _, _, _, _, _]) eX9_lies_155 rfl (nI_dec _) (by decide) rfl ?_
                  refine x_goto eX9_lies_158 ?_
                  refine x_pick [0, 6, 7, 8, 9, 10] rfl ?_
                  first
                    | omega
                    | (have hw := ih (by omega) S2 ⟨hx, hE⟩
                       have e : sumZ (fun i => chi (vr P c n i) (vr P c n (i + 1)) T) (k + 1) = sumZ (fun i => chi (vr P c n i) (vr P c n (i + 1)) T) k + chi (P (c (k % n))) (P (c ((k + 1) % n))) T := rfl
                       first
                         | (have ec : chi (P (c (k % n))) (P (c ((k + 1) % n))) T = 1 := by unfold chi; rw [if_pos (by omega)]
                            rw [show sumZ (fun i => chi (vr P c n i) (vr P c n (i + 1)) T) n - sumZ (fun i => chi (vr P c n i) (vr P c n (i + 1)) T) (k + 1) + 1 = sumZ (fun i => chi (vr P c n i) (vr P c n (i + 1)) T) n - sumZ (fun i => chi (vr P c n i) (vr P c n (i + 1)) T) k by omega]; exact hw)
                         | (have ec : chi (P (c (k % n))) (P (c ((k + 1) % n))) T = -1 := by unfold chi; rw [if_neg (by omega), if_pos (by omega)]
                            rw [show sumZ (fun i => chi (vr P c n i) (vr P c n (i + 1)) T) n - sumZ (fun i => chi (vr P c n i) (vr P c n (i + 1)) T) (k + 1) + -1 = sumZ (fun i => chi (vr P c n i) (vr P c n (i + 1)) T) n - sumZ (fun i => chi (vr P c n i) (vr P c n (i + 1)) T) k by omega]; exact hw)
                         | (have ec : chi (P (c (k % n))) (P (c ((k + 1) % n))) T = 0 := by unfold chi; rw [if_neg (by omega), if_neg (by omega)]
                            rw [show sumZ (fun i => chi (vr P c n i) (vr P c n (i + 1)) T) n - sumZ (fun i => chi (vr P c n i) (vr P c n (i + 1)) T) (k + 1) = sumZ (fun i => chi (vr P c n i) (vr P c n (i + 1)) T) n - sumZ (fun i => chi (vr P c n i) (vr P c n (i + 1)) T) k by omega]; exact hw))
                · refine x_iload eX9_lies_142 rfl ?_
                  refine x_if_eqN eX9_lies_144 (by omega) (fun c_144 => ?_) (fun c_144 => ?_)
                  · refine x_iinc (lv' := [_, _, _, _, _, _, _, _, _, _, _]) eX9_lies_155 rfl (nI_dec _) (by decide) rfl ?_
                    refine x_goto eX9_lies_158 ?_
                    refine x_pick [0, 6, 7, 8, 9, 10] rfl ?_
                    first
                      | omega
                      | (have hw := ih (by omega) S2 ⟨hx, hE⟩
                         have e : sumZ (fun i => chi (vr P c n i) (vr P c n (i + 1)) T) (k + 1) = sumZ (fun i => chi (vr P c n i) (vr P c n (i + 1)) T) k + chi (P (c (k % n))) (P (c ((k + 1) % n))) T := rfl
                         first
                           | (have ec : chi (P (c (k % n))) (P (c ((k + 1) % n))) T = 1 := by unfold chi; rw [if_pos (by omega)]
                              rw [show sumZ (fun i => chi (vr P c n i) (vr P c n (i + 1)) T) n - sumZ (fun i => chi (vr P c n i) (vr P c n (i + 1)) T) (k + 1) + 1 = sumZ (fun i => chi (vr P c n i) (vr P c n (i + 1)) T) n - sumZ (fun i => chi (vr P c n i) (vr P c n (i + 1)) T) k by omega]; exact hw)
                           | (have ec : chi (P (c (k % n))) (P (c ((k + 1) % n))) T = -1 := by unfold chi; rw [if_neg (by omega), if_pos (by omega)]
                              rw [show sumZ (fun i => chi (vr P c n i) (vr P c n (i + 1)) T) n - sumZ (fun i => chi (vr P c n i) (vr P c n (i + 1)) T) (k + 1) + -1 = sumZ (fun i => chi (vr P c n i) (vr P c n (i + 1)) T) n - sumZ (fun i => chi (vr P c n i) (vr P c n (i + 1)) T) k by omega]; exact hw)
                           | (have ec : chi (P (c (k % n))) (P (c ((k + 1) % n))) T = 0 := by unfold chi; rw [if_neg (by omega), if_neg (by omega)]
                              rw [show sumZ (fun i => chi (vr P c n i) (vr P c n (i + 1)) T) n - sumZ (fun i => chi (vr P c n i) (vr P c n (i + 1)) T) (k + 1) = sumZ (fun i => chi (vr P c n i) (vr P c n (i + 1)) T) n - sumZ (fun i => chi (vr P c n i) (vr P c n (i + 1)) T) k by omega]; exact hw))
                  · refine x_iload eX9_lies_147 rfl ?_
                    refine x_if_geS eX9_lies_149 (fun c_149 => ?_) (fun c_149 => ?_)
                    · refine x_iinc (lv' := [_, _, _, _, _, _, _, _, _, _, _]) eX9_lies_155 rfl (nI_dec _) (by decide) rfl ?_
                      refine x_goto eX9_lies_158 ?_
                      refine x_pick [0, 6, 7, 8, 9, 10] rfl ?_
                      first
                        | omega
                        | (have hw := ih (by omega) S2 ⟨hx, hE⟩
                           have e : sumZ (fun i => chi (vr P c n i) (vr P c n (i + 1)) T) (k + 1) = sumZ (fun i => chi (vr P c n i) (vr P c n (i + 1)) T) k + chi (P (c (k % n))) (P (c ((k + 1) % n))) T := rfl
                           first
                             | (have ec : chi (P (c (k % n))) (P (c ((k + 1) % n))) T = 1 := by unfold chi; rw [if_pos (by omega)]
                                rw [show sumZ (fun i => chi (vr P c n i) (vr P c n (i + 1)) T) n - sumZ (fun i => chi (vr P c n i) (vr P c n (i + 1)) T) (k + 1) + 1 = sumZ (fun i => chi (vr P c n i) (vr P c n (i + 1)) T) n - sumZ (fun i => chi (vr P c n i) (vr P c n (i + 1)) T) k by omega]; exact hw)
                             | (have ec : chi (P (c (k % n))) (P (c ((k + 1) % n))) T = -1 := by unfold chi; rw [if_neg (by omega), if_pos (by omega)]
                                rw [show sumZ (fun i => chi (vr P c n i) (vr P c n (i + 1)) T) n - sumZ (fun i => chi (vr P c n i) (vr P c n (i + 1)) T) (k + 1) + -1 = sumZ (fun i => chi (vr P c n i) (vr P c n (i + 1)) T) n - sumZ (fun i => chi (vr P c n i) (vr P c n (i + 1)) T) k by omega]; exact hw)
                             | (have ec : chi (P (c (k % n))) (P (c ((k + 1) % n))) T = 0 := by unfold chi; rw [if_neg (by omega), if_neg (by omega)]
                                rw [show sumZ (fun i => chi (vr P c n i) (vr P c n (i + 1)) T) n - sumZ (fun i => chi (vr P c n i) (vr P c n (i + 1)) T) (k + 1) = sumZ (fun i => chi (vr P c n i) (vr P c n (i + 1)) T) n - sumZ (fun i => chi (vr P c n i) (vr P c n (i + 1)) T) k by omega]; exact hw))
                    · refine x_iinc (lv' := [_, _, _, _, _, _, _, _, _, _, _]) eX9_lies_152 rfl (iI_dec _) (by decide) rfl ?_
                      refine x_iinc (lv' := [_, _, _, _, _, _, _, _, _, _, _]) eX9_lies_155 rfl (nI_dec _) (by decide) rfl ?_
                      refine x_goto eX9_lies_158 ?_
                      refine x_pick [0, 1, 7, 8, 9, 10] rfl ?_
                      first
                        | omega
                        | (have hw := ih (by omega) S2 ⟨hx, hE⟩
                           have e : sumZ (fun i => chi (vr P c n i) (vr P c n (i + 1)) T) (k + 1) = sumZ (fun i => chi (vr P c n i) (vr P c n (i + 1)) T) k + chi (P (c (k % n))) (P (c ((k + 1) % n))) T := rfl
                           first
                             | (have ec : chi (P (c (k % n))) (P (c ((k + 1) % n))) T = 1 := by unfold chi; rw [if_pos (by omega)]
                                rw [show sumZ (fun i => chi (vr P c n i) (vr P c n (i + 1)) T) n - sumZ (fun i => chi (vr P c n i) (vr P c n (i + 1)) T) (k + 1) + 1 = sumZ (fun i => chi (vr P c n i) (vr P c n (i + 1)) T) n - sumZ (fun i => chi (vr P c n i) (vr P c n (i + 1)) T) k by omega]; exact hw)
                             | (have ec : chi (P (c (k % n))) (P (c ((k + 1) % n))) T = -1 := by unfold chi; rw [if_neg (by omega), if_pos (by omega)]
                                rw [show sumZ (fun i => chi (vr P c n i) (vr P c n (i + 1)) T) n - sumZ (fun i => chi (vr P c n i) (vr P c n (i + 1)) T) (k + 1) + -1 = sumZ (fun i => chi (vr P c n i) (vr P c n (i + 1)) T) n - sumZ (fun i => chi (vr P c n i) (vr P c n (i + 1)) T) k by omega]; exact hw)
                             | (have ec : chi (P (c (k % n))) (P (c ((k + 1) % n))) T = 0 := by unfold chi; rw [if_neg (by omega), if_neg (by omega)]
                                rw [show sumZ (fun i => chi (vr P c n i) (vr P c n (i + 1)) T) n - sumZ (fun i => chi (vr P c n i) (vr P c n (i + 1)) T) (k + 1) = sumZ (fun i => chi (vr P c n i) (vr P c n (i + 1)) T) n - sumZ (fun i => chi (vr P c n i) (vr P c n (i + 1)) T) k by omega]; exact hw))
              · refine x_iload eX9_lies_129 rfl ?_
                refine x_if_leS eX9_lies_131 (fun c_131 => ?_) (fun c_131 => ?_)
                · refine x_iload eX9_lies_137 rfl ?_
                  refine x_if_neN eX9_lies_139 (by omega) (fun c_139 => ?_) (fun c_139 => ?_)
                  · refine x_iinc (lv' := [_, _, _, _, _, _, _, _, _, _, _]) eX9_lies_155 rfl (nI_dec _) (by decide) rfl ?_
                    refine x_goto eX9_lies_158 ?_
                    refine x_pick [0, 6, 7, 8, 9, 10] rfl ?_
                    first
                      | omega
                      | (have hw := ih (by omega) S2 ⟨hx, hE⟩
                         have e : sumZ (fun i => chi (vr P c n i) (vr P c n (i + 1)) T) (k + 1) = sumZ (fun i => chi (vr P c n i) (vr P c n (i + 1)) T) k + chi (P (c (k % n))) (P (c ((k + 1) % n))) T := rfl
                         first
                           | (have ec : chi (P (c (k % n))) (P (c ((k + 1) % n))) T = 1 := by unfold chi; rw [if_pos (by omega)]
                              rw [show sumZ (fun i => chi (vr P c n i) (vr P c n (i + 1)) T) n - sumZ (fun i => chi (vr P c n i) (vr P c n (i + 1)) T) (k + 1) + 1 = sumZ (fun i => chi (vr P c n i) (vr P c n (i + 1)) T) n - sumZ (fun i => chi (vr P c n i) (vr P c n (i + 1)) T) k by omega]; exact hw)
                           | (have ec : chi (P (c (k % n))) (P (c ((k + 1) % n))) T = -1 := by unfold chi; rw [if_neg (by omega), if_pos (by omega)]
                              rw [show sumZ (fun i => chi (vr P c n i) (vr P c n (i + 1)) T) n - sumZ (fun i => chi (vr P c n i) (vr P c n (i + 1)) T) (k + 1) + -1 = sumZ (fun i => chi (vr P c n i) (vr P c n (i + 1)) T) n - sumZ (fun i => chi (vr P c n i) (vr P c n (i + 1)) T) k by omega]; exact hw)
                           | (have ec : chi (P (c (k % n))) (P (c ((k + 1) % n))) T = 0 := by unfold chi; rw [if_neg (by omega), if_neg (by omega)]
                              rw [show sumZ (fun i => chi (vr P c n i) (vr P c n (i + 1)) T) n - sumZ (fun i => chi (vr P c n i) (vr P c n (i + 1)) T) (k + 1) = sumZ (fun i => chi (vr P c n i) (vr P c n (i + 1)) T) n - sumZ (fun i => chi (vr P c n i) (vr P c n (i + 1)) T) k by omega]; exact hw))
                  · refine x_iload eX9_lies_142 rfl ?_
                    refine x_if_eqN eX9_lies_144 (by omega) (fun c_144 => ?_) (fun c_144 => ?_)
                    · refine x_iinc (lv' := [_, _, _, _, _, _, _, _, _, _, _]) eX9_lies_155 rfl (nI_dec _) (by decide) rfl ?_
                      refine x_goto eX9_lies_158 ?_
                      refine x_pick [0, 6, 7, 8, 9, 10] rfl ?_
                      first
                        | omega
                        | (have hw := ih (by omega) S2 ⟨hx, hE⟩
                           have e : sumZ (fun i => chi (vr P c n i) (vr P c n (i + 1)) T) (k + 1) = sumZ (fun i => chi (vr P c n i) (vr P c n (i + 1)) T) k + chi (P (c (k % n))) (P (c ((k + 1) % n))) T := rfl
                           first
                             | (have ec : chi (P (c (k % n))) (P (c ((k + 1) % n))) T = 1 := by unfold chi; rw [if_pos (by omega)]
                                rw [show sumZ (fun i => chi (vr P c n i) (vr P c n (i + 1)) T) n - sumZ (fun i => chi (vr P c n i) (vr P c n (i + 1)) T) (k + 1) + 1 = sumZ (fun i => chi (vr P c n i) (vr P c n (i + 1)) T) n - sumZ (fun i => chi (vr P c n i) (vr P c n (i + 1)) T) k by omega]; exact hw)
                             | (have ec : chi (P (c (k % n))) (P (c ((k + 1) % n))) T = -1 := by unfold chi; rw [if_neg (by omega), if_pos (by omega)]
                                rw [show sumZ (fun i => chi (vr P c n i) (vr P c n (i + 1)) T) n - sumZ (fun i => chi (vr P c n i) (vr P c n (i + 1)) T) (k + 1) + -1 = sumZ (fun i => chi (vr P c n i) (vr P c n (i + 1)) T) n - sumZ (fun i => chi (vr P c n i) (vr P c n (i + 1)) T) k by omega]; exact hw)
                             | (have ec : chi (P (c (k % n))) (P (c ((k + 1) % n))) T = 0 := by unfold chi; rw [if_neg (by omega), if_neg (by omega)]
                                rw [show sumZ (fun i => chi (vr P c n i) (vr P c n (i + 1)) T) n - sumZ (fun i => chi (vr P c n i) (vr P c n (i + 1)) T) (k + 1) = sumZ (fun i => chi (vr P c n i) (vr P c n (i + 1)) T) n - sumZ (fun i => chi (vr P c n i) (vr P c n (i + 1)) T) k by omega]; exact hw))
                    · refine x_iload eX9_lies_147 rfl ?_
                      refine x_if_geS eX9_lies_149 (fun c_149 => ?_) (fun c_149 => ?_)
                      · refine x_iinc (lv' := [_, _, _, _, _, _, _, _, _, _, _]) eX9_lies_155 rfl (nI_dec _) (by decide) rfl ?_
                        refine x_goto eX9_lies_158 ?_
                        refine x_pick [0, 6, 7, 8, 9, 10] rfl ?_
                        first
                          | omega
                          | (have hw := ih (by omega) S2 ⟨hx, hE⟩
                             have e : sumZ (fun i => chi (vr P c n i) (vr P c n (i + 1)) T) (k + 1) = sumZ (fun i => chi (vr P c n i) (vr P c n (i + 1)) T) k + chi (P (c (k % n))) (P (c ((k + 1) % n))) T := rfl
                             first
                               | (have ec : chi (P (c (k % n))) (P (c ((k + 1) % n))) T = 1 := by unfold chi; rw [if_pos (by omega)]
                                  rw [show sumZ (fun i => chi (vr P c n i) (vr P c n (i + 1)) T) n - sumZ (fun i => chi (vr P c n i) (vr P c n (i + 1)) T) (k + 1) + 1 = sumZ (fun i => chi (vr P c n i) (vr P c n (i + 1)) T) n - sumZ (fun i => chi (vr P c n i) (vr P c n (i + 1)) T) k by omega]; exact hw)
                               | (have ec : chi (P (c (k % n))) (P (c ((k + 1) % n))) T = -1 := by unfold chi; rw [if_neg (by omega), if_pos (by omega)]
                                  rw [show sumZ (fun i => chi (vr P c n i) (vr P c n (i + 1)) T) n - sumZ (fun i => chi (vr P c n i) (vr P c n (i + 1)) T) (k + 1) + -1 = sumZ (fun i => chi (vr P c n i) (vr P c n (i + 1)) T) n - sumZ (fun i => chi (vr P c n i) (vr P c n (i + 1)) T) k by omega]; exact hw)
                               | (have ec : chi (P (c (k % n))) (P (c ((k + 1) % n))) T = 0 := by unfold chi; rw [if_neg (by omega), if_neg (by omega)]
                                  rw [show sumZ (fun i => chi (vr P c n i) (vr P c n (i + 1)) T) n - sumZ (fun i => chi (vr P c n i) (vr P c n (i + 1)) T) (k + 1) = sumZ (fun i => chi (vr P c n i) (vr P c n (i + 1)) T) n - sumZ (fun i => chi (vr P c n i) (vr P c n (i + 1)) T) k by omega]; exact hw))
                      · refine x_iinc (lv' := [_, _, _, _, _, _, _, _, _, _, _]) eX9_lies_152 rfl (iI_dec _) (by decide) rfl ?_
                        refine x_iinc (lv' := [_, _, _, _, _, _, _, _, _, _, _]) eX9_lies_155 rfl (nI_dec _) (by decide) rfl ?_
                        refine x_goto eX9_lies_158 ?_
                        refine x_pick [0, 1, 7, 8, 9, 10] rfl ?_
                        first
                          | omega
                          | (have hw := ih (by omega) S2 ⟨hx, hE⟩
                             have e : sumZ (fun i => chi (vr P c n i) (vr P c n (i + 1)) T) (k + 1) = sumZ (fun i => chi (vr P c n i) (vr P c n (i + 1)) T) k + chi (P (c (k % n))) (P (c ((k + 1) % n))) T := rfl
                             first
                               | (have ec : chi (P (c (k % n))) (P (c ((k + 1) % n))) T = 1 := by unfold chi; rw [if_pos (by omega)]
                                  rw [show sumZ (fun i => chi (vr P c n i) (vr P c n (i + 1)) T) n - sumZ (fun i => chi (vr P c n i) (vr P c n (i + 1)) T) (k + 1) + 1 = sumZ (fun i => chi (vr P c n i) (vr P c n (i + 1)) T) n - sumZ (fun i => chi (vr P c n i) (vr P c n (i + 1)) T) k by omega]; exact hw)
                               | (have ec : chi (P (c (k % n))) (P (c ((k + 1) % n))) T = -1 := by unfold chi; rw [if_neg (by omega), if_pos (by omega)]
                                  rw [show sumZ (fun i => chi (vr P c n i) (vr P c n (i + 1)) T) n - sumZ (fun i => chi (vr P c n i) (vr P c n (i + 1)) T) (k + 1) + -1 = sumZ (fun i => chi (vr P c n i) (vr P c n (i + 1)) T) n - sumZ (fun i => chi (vr P c n i) (vr P c n (i + 1)) T) k by omega]; exact hw)
                               | (have ec : chi (P (c (k % n))) (P (c ((k + 1) % n))) T = 0 := by unfold chi; rw [if_neg (by omega), if_neg (by omega)]
                                  rw [show sumZ (fun i => chi (vr P c n i) (vr P c n (i + 1)) T) n - sumZ (fun i => chi (vr P c n i) (vr P c n (i + 1)) T) (k + 1) = sumZ (fun i => chi (vr P c n i) (vr P c n (i + 1)) T) n - sumZ (fun i => chi (vr P c n i) (vr P c n (i + 1)) T) k by omega]; exact hw))
                · refine x_iinc (lv' := [_, _, _, _, _, _, _, _, _, _, _]) eX9_lies_134 rfl (iI_inc _) (by decide) rfl ?_
                  refine x_iload eX9_lies_137 rfl ?_
                  refine x_if_neN eX9_lies_139 (by omega) (fun c_139 => ?_) (fun c_139 => ?_)
                  · refine x_iinc (lv' := [_, _, _, _, _, _, _, _, _, _, _]) eX9_lies_155 rfl (nI_dec _) (by decide) rfl ?_
                    refine x_goto eX9_lies_158 ?_
                    refine x_pick [0, 1, 7, 8, 9, 10] rfl ?_
                    first
                      | omega
                      | (have hw := ih (by omega) S2 ⟨hx, hE⟩
                         have e : sumZ (fun i => chi (vr P c n i) (vr P c n (i + 1)) T) (k + 1) = sumZ (fun i => chi (vr P c n i) (vr P c n (i + 1)) T) k + chi (P (c (k % n))) (P (c ((k + 1) % n))) T := rfl
                         first
                           | (have ec : chi (P (c (k % n))) (P (c ((k + 1) % n))) T = 1 := by unfold chi; rw [if_pos (by omega)]
                              rw [show sumZ (fun i => chi (vr P c n i) (vr P c n (i + 1)) T) n - sumZ (fun i => chi (vr P c n i) (vr P c n (i + 1)) T) (k + 1) + 1 = sumZ (fun i => chi (vr P c n i) (vr P c n (i + 1)) T) n - sumZ (fun i => chi (vr P c n i) (vr P c n (i + 1)) T) k by omega]; exact hw)
                           | (have ec : chi (P (c (k % n))) (P (c ((k + 1) % n))) T = -1 := by unfold chi; rw [if_neg (by omega), if_pos (by omega)]
                              rw [show sumZ (fun i => chi (vr P c n i) (vr P c n (i + 1)) T) n - sumZ (fun i => chi (vr P c n i) (vr P c n (i + 1)) T) (k + 1) + -1 = sumZ (fun i => chi (vr P c n i) (vr P c n (i + 1)) T) n - sumZ (fun i => chi (vr P c n i) (vr P c n (i + 1)) T) k by omega]; exact hw)
                           | (have ec : chi (P (c (k % n))) (P (c ((k + 1) % n))) T = 0 := by unfold chi; rw [if_neg (by omega), if_neg (by omega)]
                              rw [show sumZ (fun i => chi (vr P c n i) (vr P c n (i + 1)) T) n - sumZ (fun i => chi (vr P c n i) (vr P c n (i + 1)) T) (k + 1) = sumZ (fun i => chi (vr P c n i) (vr P c n (i + 1)) T) n - sumZ (fun i => chi (vr P c n i) (vr P c n (i + 1)) T) k by omega]; exact hw))
                  · refine x_iload eX9_lies_142 rfl ?_
                    refine x_if_eqN eX9_lies_144 (by omega) (fun c_144 => ?_) (fun c_144 => ?_)
                    · refine x_iinc (lv' := [_, _, _, _, _, _, _, _, _, _, _]) eX9_lies_155 rfl (nI_dec _) (by decide) rfl ?_
                      refine x_goto eX9_lies_158 ?_
                      refine x_pick [0, 1, 7, 8, 9, 10] rfl ?_
                      first
                        | omega
                        | (have hw := ih (by omega) S2 ⟨hx, hE⟩
                           have e : sumZ (fun i => chi (vr P c n i) (vr P c n (i + 1)) T) (k + 1) = sumZ (fun i => chi (vr P c n i) (vr P c n (i + 1)) T) k + chi (P (c (k % n))) (P (c ((k + 1) % n))) T := rfl
                           first
                             | (have ec : chi (P (c (k % n))) (P (c ((k + 1) % n))) T = 1 := by unfold chi; rw [if_pos (by omega)]
                                rw [show sumZ (fun i => chi (vr P c n i) (vr P c n (i + 1)) T) n - sumZ (fun i => chi (vr P c n i) (vr P c n (i + 1)) T) (k + 1) + 1 = sumZ (fun i => chi (vr P c n i) (vr P c n (i + 1)) T) n - sumZ (fun i => chi (vr P c n i) (vr P c n (i + 1)) T) k by omega]; exact hw)
                             | (have ec : chi (P (c (k % n))) (P (c ((k + 1) % n))) T = -1 := by unfold chi; rw [if_neg (by omega), if_pos (by omega)]
                                rw [show sumZ (fun i => chi (vr P c n i) (vr P c n (i + 1)) T) n - sumZ (fun i => chi (vr P c n i) (vr P c n (i + 1)) T) (k + 1) + -1 = sumZ (fun i => chi (vr P c n i) (vr P c n (i + 1)) T) n - sumZ (fun i => chi (vr P c n i) (vr P c n (i + 1)) T) k by omega]; exact hw)
                             | (have ec : chi (P (c (k % n))) (P (c ((k + 1) % n))) T = 0 := by unfold chi; rw [if_neg (by omega), if_neg (by omega)]
                                rw [show sumZ (fun i => chi (vr P c n i) (vr P c n (i + 1)) T) n - sumZ (fun i => chi (vr P c n i) (vr P c n (i + 1)) T) (k + 1) = sumZ (fun i => chi (vr P c n i) (vr P c n (i + 1)) T) n - sumZ (fun i => chi (vr P c n i) (vr P c n (i + 1)) T) k by omega]; exact hw))
                    · refine x_iload eX9_lies_147 rfl ?_
                      refine x_if_geS eX9_lies_149 (fun c_149 => ?_) (fun c_149 => ?_)
                      · refine x_iinc (lv' := [_, _, _, _, _, _, _, _, _, _, _]) eX9_lies_155 rfl (nI_dec _) (by decide) rfl ?_
                        refine x_goto eX9_lies_158 ?_
                        refine x_pick [0, 1, 7, 8, 9, 10] rfl ?_
                        first
                          | omega
                          | (have hw := ih (by omega) S2 ⟨hx, hE⟩
                             have e : sumZ (fun i => chi (vr P c n i) (vr P c n (i + 1)) T) (k + 1) = sumZ (fun i => chi (vr P c n i) (vr P c n (i + 1)) T) k + chi (P (c (k % n))) (P (c ((k + 1) % n))) T := rfl
                             first
                               | (have ec : chi (P (c (k % n))) (P (c ((k + 1) % n))) T = 1 := by unfold chi; rw [if_pos (by omega)]
                                  rw [show sumZ (fun i => chi (vr P c n i) (vr P c n (i + 1)) T) n - sumZ (fun i => chi (vr P c n i) (vr P c n (i + 1)) T) (k + 1) + 1 = sumZ (fun i => chi (vr P c n i) (vr P c n (i + 1)) T) n - sumZ (fun i => chi (vr P c n i) (vr P c n (i + 1)) T) k by omega]; exact hw)
                               | (have ec : chi (P (c (k % n))) (P (c ((k + 1) % n))) T = -1 := by unfold chi; rw [if_neg (by omega), if_pos (by omega)]
                                  rw [show sumZ (fun i => chi (vr P c n i) (vr P c n (i + 1)) T) n - sumZ (fun i => chi (vr P c n i) (vr P c n (i + 1)) T) (k + 1) + -1 = sumZ (fun i => chi (vr P c n i) (vr P c n (i + 1)) T) n - sumZ (fun i => chi (vr P c n i) (vr P c n (i + 1)) T) k by omega]; exact hw)
                               | (have ec : chi (P (c (k % n))) (P (c ((k + 1) % n))) T = 0 := by unfold chi; rw [if_neg (by omega), if_neg (by omega)]
                                  rw [show sumZ (fun i => chi (vr P c n i) (vr P c n (i + 1)) T) n - sumZ (fun i => chi (vr P c n i) (vr P c n (i + 1)) T) (k + 1) = sumZ (fun i => chi (vr P c n i) (vr P c n (i + 1)) T) n - sumZ (fun i => chi (vr P c n i) (vr P c n (i + 1)) T) k by omega]; exact hw))
                      · refine x_iinc (lv' := [_, _, _, _, _, _, _, _, _, _, _]) eX9_lies_152 rfl (iI_dec _) (by decide) rfl ?_
                        refine x_iinc (lv' := [_, _, _, _, _, _, _, _, _, _, _]) eX9_lies_155 rfl (nI_dec _) (by decide) rfl ?_
                        refine x_goto eX9_lies_158 ?_
                        refine x_pick [0, 1, 7, 8, 9, 10] rfl ?_
                        first
                          | omega
                          | (have hw := ih (by omega) S2 ⟨hx, hE⟩
                             have e : sumZ (fun i => chi (vr P c n i) (vr P c n (i + 1)) T) (k + 1) = sumZ (fun i => chi (vr P c n i) (vr P c n (i + 1)) T) k + chi (P (c (k % n))) (P (c ((k + 1) % n))) T := rfl
                             first
                               | (have ec : chi (P (c (k % n))) (P (c ((k + 1) % n))) T = 1 := by unfold chi; rw [if_pos (by omega)]
                                  rw [show sumZ (fun i => chi (vr P c n i) (vr P c n (i + 1)) T) n - sumZ (fun i => chi (vr P c n i) (vr P c n (i + 1)) T) (k + 1) + 1 = sumZ (fun i => chi (vr P c n i) (vr P c n (i + 1)) T) n - sumZ (fun i => chi (vr P c n i) (vr P c n (i + 1)) T) k by omega]; exact hw)
                               | (have ec : chi (P (c (k % n))) (P (c ((k + 1) % n))) T = -1 := by unfold chi; rw [if_neg (by omega), if_pos (by omega)]
                                  rw [show sumZ (fun i => chi (vr P c n i) (vr P c n (i + 1)) T) n - sumZ (fun i => chi (vr P c n i) (vr P c n (i + 1)) T) (k + 1) + -1 = sumZ (fun i => chi (vr P c n i) (vr P c n (i + 1)) T) n - sumZ (fun i => chi (vr P c n i) (vr P c n (i + 1)) T) k by omega]; exact hw)
                               | (have ec : chi (P (c (k % n))) (P (c ((k + 1) % n))) T = 0 := by unfold chi; rw [if_neg (by omega), if_neg (by omega)]
                                  rw [show sumZ (fun i => chi (vr P c n i) (vr P c n (i + 1)) T) n - sumZ (fun i => chi (vr P c n i) (vr P c n (i + 1)) T) (k + 1) = sumZ (fun i => chi (vr P c n i) (vr P c n (i + 1)) T) n - sumZ (fun i => chi (vr P c n i) (vr P c n (i + 1)) T) k by omega]; exact hw))
      refine x_iload eX9_lies_20 rfl ?_
      refine x_if_ltN eX9_lies_22 (by omega) ?_
      refine x_aload_n eX9_lies_25 rfl ?_
      refine x_iload_n eX9_lies_26 rfl ?_
      refine x_iload eX9_lies_27 rfl ?_
      refine s_callV1 (As := [_, _]) eX9_lies_29 kX9_241 ⟨by decide, by decide⟩ rfl (by decide) (by decide) rfl rfl (Nat.le_of_ble_eq_true rfl) (Nat.le_of_ble_eq_true rfl) (sp_X9_of _ g (by omega)) (fun S_29 h_29 => ?_)
      have h_29 := h_29.symm
      subst h_29
      refine x_istore (lv' := [_, _, _, _, _, _, _]) eX9_lies_32 (by decide) rfl ?_
      refine x_aload_n eX9_lies_34 rfl ?_
      refine x_iload_n eX9_lies_35 rfl ?_
      refine x_iload eX9_lies_36 rfl ?_
      refine x_iconst (v := nI 1) eX9_lies_38 (by decide) ?_
      first | refine x_iaddN eX9_lies_39 ?_ | refine x_iadd eX9_lies_39 ?_
      refine s_callV1 (As := [_, _]) eX9_lies_40 kX9_241 ⟨by decide, by decide⟩ rfl (by decide) (by decide) rfl rfl (Nat.le_of_ble_eq_true rfl) (Nat.le_of_ble_eq_true rfl) (sp_X9_of _ g (by omega)) (fun S_40 h_40 => ?_)
      have h_40 := h_40.symm
      subst h_40
      refine x_istore (lv' := [_, _, _, _, _, _, _, _]) eX9_lies_43 (by decide) rfl ?_
      refine x_aload_n eX9_lies_45 rfl ?_
      refine x_iload eX9_lies_46 rfl ?_
      refine x_iload eX9_lies_48 rfl ?_
      refine x_iload_n eX9_lies_50 rfl ?_
      refine s_callV1 (As := [_, _, _]) eX9_lies_51 kX9_162 ⟨by decide, by decide⟩ rfl (by decide) (by decide) rfl rfl (Nat.le_of_ble_eq_true rfl) (Nat.le_of_ble_eq_true rfl) (sp_X9_turn _ tA tB tT) (fun S_51 h_51 => ?_)
      have hx := hx.tr h_51.ox
      have tA := tA.ox h_51.ox
      have tB := tB.ox h_51.ox
      have tT := tT.ox h_51.ox
      have hE : oeK (vr P c n) n T (k + 1) (S_51.1 0 32) := by rw [h_51.1]; exact hE
      refine x_istore (lv' := [_, _, _, _, _, _, _, _, _]) eX9_lies_54 (by decide) rfl ?_
      refine x_iload eX9_lies_56 rfl ?_
      refine x_if_neS eX9_lies_58 (fun c_58 => ?_) (fun c_58 => ?_)
      · refine x_pick [0, 1, 2, 3, 4, 5, 6, 7, 8] rfl ?_
        first
          | (refine j79 _ (hx.tr (Ox.set _)) ?_
             rw [setF_at, upd_at]
             exact Or.inr ⟨k, Nat.le_refl _, by omega, by unfold onR onP; rw [show vr P c n k = P (c (k % n)) from rfl, show vr P c n (k + 1) = P (c ((k + 1) % n)) from rfl, decide_eq_true ((sg_eq0 _).mpr c_58), c_70]; rfl, fun j a b => by omega, rfl⟩)
          | (refine j79 _ hx (oeK_s hE ?_)
             unfold onR onP
             intro z
             rw [Bool.and_eq_true] at z
             first
               | exact c_58 ((sg_eq0 _).mp (of_decide_eq_true z.1))
               | (have z2 := z.2; rw [show btP (vr P c n k) (vr P c n (k + 1)) T = false from c_70] at z2; exact absurd z2 (by decide)))
      · refine x_aload_n eX9_lies_61 rfl ?_
        refine x_iload eX9_lies_62 rfl ?_
        refine x_iload eX9_lies_64 rfl ?_
        refine x_iload_n eX9_lies_66 rfl ?_
        refine s_callV1 (As := [_, _, _]) eX9_lies_67 kX9_166 ⟨by decide, by decide⟩ rfl (by decide) (by decide) rfl rfl (Nat.le_of_ble_eq_true rfl) (Nat.le_of_ble_eq_true rfl) (sp_X9_isBetween _ tA tB tT) (fun S_67 h_67 => ?_)
        have h_67 := h_67.symm
        subst h_67
        refine x_if_eqB eX9_lies_70 (fun c_70 => ?_) (fun c_70 => ?_)
        · refine x_pick [0, 1, 2, 3, 4, 5, 6, 7, 8] rfl ?_
          first
            | (refine j79 _ (hx.tr (Ox.set _)) ?_
               rw [setF_at, upd_at]
               exact Or.inr ⟨k, Nat.le_refl _, by omega, by unfold onR onP; rw [show vr P c n k = P (c (k % n)) from rfl, show vr P c n (k + 1) = P (c ((k + 1) % n)) from rfl, decide_eq_true ((sg_eq0 _).mpr c_58), c_70]; rfl, fun j a b => by omega, rfl⟩)
            | (refine j79 _ hx (oeK_s hE ?_)
               unfold onR onP
               intro z
               rw [Bool.and_eq_true] at z
               first
                 | exact c_58 ((sg_eq0 _).mp (of_decide_eq_true z.1))
                 | (have z2 := z.2; rw [show btP (vr P c n k) (vr P c n (k + 1)) T = false from c_70] at z2; exact absurd z2 (by decide)))
        · refine x_aload_n eX9_lies_73 rfl ?_
          refine x_iload eX9_lies_74 rfl ?_
          refine s_puti eX9_lies_76 fX9_238 wX9_32 rfl (by decide) (by decide) ?_
          refine x_pick [0, 1, 2, 3, 4, 5, 6, 7, 8] rfl ?_
          first
            | (refine j79 _ (hx.tr (Ox.set _)) ?_
               rw [setF_at, upd_at]
               exact Or.inr ⟨k, Nat.le_refl _, by omega, by unfold onR onP; rw [show vr P c n k = P (c (k % n)) from rfl, show vr P c n (k + 1) = P (c ((k + 1) % n)) from rfl, decide_eq_true ((sg_eq0 _).mpr c_58), c_70]; rfl, fun j a b => by omega, rfl⟩)
            | (refine j79 _ hx (oeK_s hE ?_)
               unfold onR onP
               intro z
               rw [Bool.and_eq_true] at z
               first
                 | exact c_58 ((sg_eq0 _).mp (of_decide_eq_true z.1))
                 | (have z2 := z.2; rw [show btP (vr P c n k) (vr P c n (k + 1)) T = false from c_70] at z2; exact absurd z2 (by decide)))
  show XP _ _ [_, _, _] _ _ _
  refine x_aload_n eX9_lies_0 rfl ?_
  refine s_getR (k := 15) eX9_lies_1 fX9_58 rfl (by decide) (by decide) rfl ?_
  refine x_iload_n eX9_lies_4 rfl ?_
  refine s_iald eX9_lies_5 rfl (by decide) rfl (show _ < 60 by omega) ?_
  rw [h.2.2.2.1]
  refine x_istore_n (lv' := [_, _, _, _]) eX9_lies_6 (by decide) rfl ?_
  refine x_iconst (v := nI 0) eX9_lies_7 (by decide) ?_
  refine x_istore (lv' := [_, _, _, _, _]) eX9_lies_8 (by decide) rfl ?_
  refine x_aload_n eX9_lies_10 rfl ?_
  refine x_iconst (v := -1) eX9_lies_11 (by decide) ?_
  refine s_puti eX9_lies_12 fX9_238 wX9_32 rfl (by decide) (by decide) ?_
  refine x_iload_n eX9_lies_15 rfl ?_
  refine x_iconst (v := nI 1) eX9_lies_16 (by decide) ?_
  first | refine x_isubN eX9_lies_17 (by omega) ?_ | refine x_isub eX9_lies_17 ?_
  refine x_istore (lv' := [_, _, _, _, _, _]) eX9_lies_18 (by decide) rfl ?_
  refine x_pick [0, 1, 2, 3, 4, 5] rfl ?_
  have := loop n (Nat.le_refl _) (setF S 0 (upd (S.1 0) 32 (-1))) ⟨Ox.set _, Or.inl ⟨fun i a b => by omega, by rw [setF_at, upd_at]⟩⟩
  rw [show dI n = nI (n - 1) by rw [show n = n - 1 + 1 by omega, dI_s]; rfl, Int.sub_self] at this
  exact this
