/-! ===== move, the reference's side ===== -/
/-- a row's first m places of parcel a -/
def blk (g : Nat → Int32) (a : Nat) (f : Nat → Int32) (m : Nat) : Nat → Int32 := fun j => if 12 * a ≤ j ∧ j < 12 * a + m then f (j - 12 * a) else g j
theorem blk_0 (g : Nat → Int32) (a : Nat) (f : Nat → Int32) : blk g a f 0 = g := by
  funext j
  exact if_neg (by omega)
theorem blk_s (g : Nat → Int32) (a : Nat) (f : Nat → Int32) (m : Nat) : upd (blk g a f m) (12 * a + m) (f m) = blk g a f (m + 1) := by
  funext j
  unfold blk
  by_cases z : j = 12 * a + m
  · subst z; rw [upd_at, if_pos (by omega), show 12 * a + m - 12 * a = m by omega]
  · rw [upd_ne _ _ z]
    by_cases y : 12 * a ≤ j ∧ j < 12 * a + m
    · rw [if_pos y, if_pos (by omega)]
    · rw [if_neg y, if_neg (by omega)]
theorem blk_off (g : Nat → Int32) (a : Nat) (f : Nat → Int32) (m : Nat) {j : Nat} (h : 12 * a + m ≤ j ∨ j < 12 * a) : blk g a f m j = g j := if_neg (by omega)
theorem blk_in (g : Nat → Int32) (a : Nat) (f : Nat → Int32) (m : Nat) {k : Nat} (h : k < m) : blk g a f m (12 * a + k) = f k := by
  unfold blk
  rw [if_pos (by omega), show 12 * a + k - 12 * a = k by omega]

theorem mv_save {S : xS} {a : Nat} (ha : a < 60) {v s c : Int32} {Q : Option Value → xS → Prop} (K : ∀ S1, Fx [] [23] [] [] S S1 → (∀ k, k < 12 → S1.2.1 23 k = S.2.1 16 (12 * a + k)) → XP mX9_move 111 [(4, .int v), (0, .ref 0), (1, .int (nI a)), (2, .int s), (3, .int c)] [] (xwS S1) (sQ Q)) : XP mX9_move 79 [(6, .int (nI 0)), (4, .int v), (0, .ref 0), (1, .int (nI a)), (2, .int s), (3, .int c)] [] (xwS S) (sQ Q) := by
  have loop : ∀ μ j, j + μ = 12 → ∀ S1, (Fx [] [23] [] [] S S1 ∧ ∀ k, k < j → S1.2.1 23 k = S.2.1 16 (12 * a + k)) → XP mX9_move 79 [(6, .int (nI j)), (4, .int v), (0, .ref 0), (1, .int (nI a)), (2, .int s), (3, .int c)] [] (xwS S1) (sQ Q) := by
    intro μ
    induction μ with
    | zero =>
      intro j hk S1 h1
      obtain ⟨hx, hr⟩ := h1
      refine x_iload eX9_move_79 rfl ?_
      refine x_bipush (v := nI 12) eX9_move_81 (by decide) ?_
      refine x_icmp_geN eX9_move_83 (by omega) (by omega) (fun c_83 => ?_) (fun c_83 => ?_)
      · refine x_pick [1, 2, 3, 4, 5] rfl ?_
        exact K S1 hx (fun k hk => hr k (by omega))
      · omega
    | succ μ ih =>
      intro j hk S1 h1
      obtain ⟨hx, hr⟩ := h1
      refine x_iload eX9_move_79 rfl ?_
      refine x_bipush (v := nI 12) eX9_move_81 (by decide) ?_
      refine x_icmp_geN eX9_move_83 (by omega) (by omega) (fun c_83 => ?_) (fun c_83 => ?_)
      · omega
      · refine x_aload_n eX9_move_86 rfl ?_
        refine s_getR (k := 23) eX9_move_87 fX9_82 rfl (by decide) (by decide) rfl ?_
        refine x_iload eX9_move_90 rfl ?_
        refine x_aload_n eX9_move_92 rfl ?_
        refine s_getR (k := 16) eX9_move_93 fX9_61 rfl (by decide) (by decide) rfl ?_
        refine x_bipush (v := nI 12) eX9_move_96 (by decide) ?_
        refine x_iload_n eX9_move_98 rfl ?_
        first | refine x_imulN eX9_move_99 ?_ | refine x_imul eX9_move_99 ?_
        refine x_iload eX9_move_100 rfl ?_
        first | refine x_iaddN eX9_move_102 ?_ | refine x_iadd eX9_move_102 ?_
        refine s_iald eX9_move_103 rfl (by decide) rfl (show _ < 720 by omega) ?_
        refine s_iast eX9_move_104 rfl (by decide) rfl (show _ < 12 by omega) ?_
        refine x_iinc (lv' := [_, _, _, _, _, _]) eX9_move_105 rfl (by first | exact nI_inc _ | exact rfl) (by decide) rfl ?_
        refine x_goto eX9_move_108 ?_
        refine x_pick [0, 1, 2, 3, 4, 5] rfl ?_
        refine ih (j + 1) (by omega) _ ⟨hx.tr (Fx.sI (by simp)), fun k hk => ?_⟩
        rw [setI_at]
        by_cases z : k = j
        · subst z; rw [upd_at, hx.2.1 16 (by simp)]
        · rw [upd_ne _ _ z]; exact hr k (by omega)
  exact loop 12 0 (by omega) S ⟨Fx.rf _ _ _ _ _, fun k hk => by omega⟩
theorem mv_swap {S : xS} {a : Nat} (ha : a < 60) {u v s c : Int32} {Q : Option Value → xS → Prop} (K : ∀ S1, Fx [] [11, 16] [] [] S S1 → S1.2.1 16 = blk (S.2.1 16) a (S.2.1 23) 12 → (∀ k, k < 12 → S1.2.1 11 k = S.2.1 16 (12 * a + k)) → XP mX9_move 184 [(6, .int u), (4, .int v), (0, .ref 0), (1, .int (nI a)), (2, .int s), (3, .int c)] [] (xwS S1) (sQ Q)) : XP mX9_move 133 [(7, .int (nI 0)), (6, .int u), (4, .int v), (0, .ref 0), (1, .int (nI a)), (2, .int s), (3, .int c)] [] (xwS S) (sQ Q) := by
  have loop : ∀ μ j, j + μ = 12 → ∀ S1, (Fx [] [11, 16] [] [] S S1 ∧ S1.2.1 16 = blk (S.2.1 16) a (S.2.1 23) j ∧ ∀ k, k < j → S1.2.1 11 k = S.2.1 16 (12 * a + k)) → XP mX9_move 133 [(7, .int (nI j)), (6, .int u), (4, .int v), (0, .ref 0), (1, .int (nI a)), (2, .int s), (3, .int c)] [] (xwS S1) (sQ Q) := by
    intro μ
    induction μ with
    | zero =>
      intro j hk S1 h1
      obtain ⟨hx, h16, hr⟩ := h1
      refine x_iload eX9_move_133 rfl ?_
      refine x_bipush (v := nI 12) eX9_move_135 (by decide) ?_
      refine x_icmp_geN eX9_move_137 (by omega) (by omega) (fun c_137 => ?_) (fun c_137 => ?_)
      · refine x_pick [1, 2, 3, 4, 5, 6] rfl ?_
        obtain rfl : j = 12 := by omega
        exact K S1 hx h16 (fun k hk => hr k (by omega))
      · omega
    | succ μ ih =>
      intro j hk S1 h1
      obtain ⟨hx, h16, hr⟩ := h1
      refine x_iload eX9_move_133 rfl ?_
      refine x_bipush (v := nI 12) eX9_move_135 (by decide) ?_
      refine x_icmp_geN eX9_move_137 (by omega) (by omega) (fun c_137 => ?_) (fun c_137 => ?_)
      · omega
      · refine x_aload_n eX9_move_140 rfl ?_
        refine s_getR (k := 11) eX9_move_141 fX9_45 rfl (by decide) (by decide) rfl ?_
        refine x_iload eX9_move_144 rfl ?_
        refine x_aload_n eX9_move_146 rfl ?_
        refine s_getR (k := 16) eX9_move_147 fX9_61 rfl (by decide) (by decide) rfl ?_
        refine x_bipush (v := nI 12) eX9_move_150 (by decide) ?_
        refine x_iload_n eX9_move_152 rfl ?_
        first | refine x_imulN eX9_move_153 ?_ | refine x_imul eX9_move_153 ?_
        refine x_iload eX9_move_154 rfl ?_
        first | refine x_iaddN eX9_move_156 ?_ | refine x_iadd eX9_move_156 ?_
        refine s_iald eX9_move_157 rfl (by decide) rfl (show _ < 720 by omega) ?_
        refine s_iast eX9_move_158 rfl (by decide) rfl (show _ < 24 by omega) ?_
        refine x_aload_n eX9_move_159 rfl ?_
        refine s_getR (k := 16) eX9_move_160 fX9_61 rfl (by decide) (by decide) rfl ?_
        refine x_bipush (v := nI 12) eX9_move_163 (by decide) ?_
        refine x_iload_n eX9_move_165 rfl ?_
        first | refine x_imulN eX9_move_166 ?_ | refine x_imul eX9_move_166 ?_
        refine x_iload eX9_move_167 rfl ?_
        first | refine x_iaddN eX9_move_169 ?_ | refine x_iadd eX9_move_169 ?_
        refine x_aload_n eX9_move_170 rfl ?_
        refine s_getR (k := 23) eX9_move_171 fX9_82 rfl (by decide) (by decide) rfl ?_
        refine x_iload eX9_move_174 rfl ?_
        refine s_iald eX9_move_176 rfl (by decide) rfl (show _ < 12 by omega) ?_
        refine s_iast eX9_move_177 rfl (by decide) rfl (show _ < 720 by omega) ?_
        refine x_iinc (lv' := [_, _, _, _, _, _, _]) eX9_move_178 rfl (by first | exact nI_inc _ | exact rfl) (by decide) rfl ?_
        refine x_goto eX9_move_181 ?_
        refine x_pick [0, 1, 2, 3, 4, 5, 6] rfl ?_
        refine ih (j + 1) (by omega) _ ⟨(hx.tr (Fx.sI (by simp))).tr (Fx.sI (by simp)), ?_, fun k hk => ?_⟩
        · rw [setI_at, setI_ne _ _ (by decide), setI_ne _ _ (by decide), h16, hx.2.1 23 (by simp)]; exact blk_s _ _ _ _
        · rw [setI_ne _ _ (by decide), setI_at]
          by_cases z : k = j
          · subst z; rw [upd_at, h16]; exact blk_off _ _ _ _ (by omega)
          · rw [upd_ne _ _ z]; exact hr k (by omega)
  exact loop 12 0 (by omega) S ⟨Fx.rf _ _ _ _ _, (blk_0 _ _ _).symm, fun k hk => by omega⟩
theorem mv_back {S : xS} {a : Nat} (ha : a < 60) {u v s c : Int32} {Q : Option Value → xS → Prop} (K : ∀ S1, Fx [] [16] [] [] S S1 → S1.2.1 16 = blk (S.2.1 16) a (S.2.1 11) 12 → XP mX9_move 239 [(6, .int u), (4, .int v), (0, .ref 0), (1, .int (nI a)), (2, .int s), (3, .int c)] [] (xwS S1) (sQ Q)) : XP mX9_move 207 [(7, .int (nI 0)), (6, .int u), (4, .int v), (0, .ref 0), (1, .int (nI a)), (2, .int s), (3, .int c)] [] (xwS S) (sQ Q) := by
  have loop : ∀ μ j, j + μ = 12 → ∀ S1, (Fx [] [16] [] [] S S1 ∧ S1.2.1 16 = blk (S.2.1 16) a (S.2.1 11) j) → XP mX9_move 207 [(7, .int (nI j)), (6, .int u), (4, .int v), (0, .ref 0), (1, .int (nI a)), (2, .int s), (3, .int c)] [] (xwS S1) (sQ Q) := by
    intro μ
    induction μ with
    | zero =>
      intro j hk S1 h1
      obtain ⟨hx, h16⟩ := h1
      refine x_iload eX9_move_207 rfl ?_
      refine x_bipush (v := nI 12) eX9_move_209 (by decide) ?_
      refine x_icmp_geN eX9_move_211 (by omega) (by omega) (fun c_211 => ?_) (fun c_211 => ?_)
      · refine x_pick [1, 2, 3, 4, 5, 6] rfl ?_
        obtain rfl : j = 12 := by omega
        exact K S1 hx h16
      · omega
    | succ μ ih =>
      intro j hk S1 h1
      obtain ⟨hx, h16⟩ := h1
      refine x_iload eX9_move_207 rfl ?_
      refine x_bipush (v := nI 12) eX9_move_209 (by decide) ?_
      refine x_icmp_geN eX9_move_211 (by omega) (by omega) (fun c_211 => ?_) (fun c_211 => ?_)
      · omega
      · refine x_aload_n eX9_move_214 rfl ?_
        refine s_getR (k := 16) eX9_move_215 fX9_61 rfl (by decide) (by decide) rfl ?_
        refine x_bipush (v := nI 12) eX9_move_218 (by decide) ?_
        refine x_iload_n eX9_move_220 rfl ?_
        first | refine x_imulN eX9_move_221 ?_ | refine x_imul eX9_move_221 ?_
        refine x_iload eX9_move_222 rfl ?_
        first | refine x_iaddN eX9_move_224 ?_ | refine x_iadd eX9_move_224 ?_
        refine x_aload_n eX9_move_225 rfl ?_
        refine s_getR (k := 11) eX9_move_226 fX9_45 rfl (by decide) (by decide) rfl ?_
        refine x_iload eX9_move_229 rfl ?_
        refine s_iald eX9_move_231 rfl (by decide) rfl (show _ < 24 by omega) ?_
        refine s_iast eX9_move_232 rfl (by decide) rfl (show _ < 720 by omega) ?_
        refine x_iinc (lv' := [_, _, _, _, _, _, _]) eX9_move_233 rfl (by first | exact nI_inc _ | exact rfl) (by decide) rfl ?_
        refine x_goto eX9_move_236 ?_
        refine x_pick [0, 1, 2, 3, 4, 5, 6] rfl ?_
        refine ih (j + 1) (by omega) _ ⟨hx.tr (Fx.sI (by simp)), ?_⟩
        rw [setI_at, h16, hx.2.1 11 (by simp)]; exact blk_s _ _ _ _
  exact loop 12 0 (by omega) S ⟨Fx.rf _ _ _ _ _, (blk_0 _ _ _).symm⟩
theorem m_move_no {S : xS} {X : LM} (w : wf X) (h : RM S X) {a i c : Nat} (ha : a < xNp X) (ta : xTh X a = true) (hi : i < xSz X a) (hc : c < xNc X) (hf : (xFi X (xSz X a) (mvR X a i c) (nI (xLy X a)) (nI a)).1 ≠ 0) : Sp mX9_move [.ref 0, .int (nI a), .int (nI i), .int (nI c)] S (fun r S' => r = some (.int (xFi X (xSz X a) (mvR X a i c) (nI (xLy X a)) (nI a)).1) ∧ RM S' (uS X (xFi X (xSz X a) (mvR X a i c) (nI (xLy X a)) (nI a)).2 (xSu X) (xEd X)) ∧ frM S S') := by
  have n60 : xNp X ≤ 60 := w.2.2.2.2.1.1
  have n200 := w.1
  have n12 : xSz X a ≤ 12 := (wf_good w ta).2.1
  have ya : hasP (xNp X) (tTh (xTb X)) (nI a) := ⟨a, ha, rfl, ta⟩
  have hcc := mvR_lt w ta (i := i) hc
  have own := rg_own (xTb X) a (xSz X a) (xSt X (xSz X a) (mvR X a i c))
  have z184 : (xFt X (xSz X a) (mvR X a i c)).1 = 0 → ∀ S7, Zx X S S7 → S7.1 0 12 = xWh X → (∀ k, k < xSz X a → S7.2.1 11 k = nI ((xSt X (xSz X a) (mvR X a i c)) k)) → XP mX9_move 184 [(6, .int (match fst1 (xOv X (xSz X a) (xSt X (xSz X a) (mvR X a i c)) (nI (xLy X a)) (nI a)) (xNp X) with | some q => nI q | none => -1)), (4, .int (nI (xRg X a i))), (0, .ref 0), (1, .int (nI a)), (2, .int (nI i)), (3, .int (nI c))] [] (xwS S7) (sQ (fun r S' => r = some (.int (xFi X (xSz X a) (mvR X a i c) (nI (xLy X a)) (nI a)).1) ∧ RM S' (uS X (xFi X (xSz X a) (mvR X a i c) (nI (xLy X a)) (nI a)).2 (xSu X) (xEd X)) ∧ frM S S')) := by
    intro f0 S7 z7 e12 r11
    refine x_iload eX9_move_184 rfl ?_
    refine x_iconst (v := -1) eX9_move_186 (by decide) ?_
    refine x_icmp_eq eX9_move_187 (fun c_187 => ?_) (fun c_187 => ?_)
    · exfalso
      apply hf
      unfold xFi
      rw [if_neg (fun z => z f0)]
      rcases fst1_cases (xOv X (xSz X a) (xSt X (xSz X a) (mvR X a i c)) (nI (xLy X a)) (nI a)) (xNp X) with ⟨q, hq, -, -, e⟩ | ⟨-, e⟩
      · simp only [e] at c_187; exact absurd c_187 (nI_ne_m1 (by omega))
      · simp only [e]
    · refine x_aload_n eX9_move_190 rfl ?_
      refine x_sipush (v := -204) eX9_move_191 (by decide) ?_
      refine x_iload eX9_move_194 rfl ?_
      refine s_callV1 (As := [_, _]) eX9_move_196 kX9_221 ⟨by decide, by decide⟩ rfl (by decide) (by decide) rfl rfl (Nat.le_of_ble_eq_true rfl) (Nat.le_of_ble_eq_true rfl) (sp_X9_fault _ _ _) (fun S_196 h_196 => ?_)
      subst h_196
      rcases fst1_cases (xOv X (xSz X a) (xSt X (xSz X a) (mvR X a i c)) (nI (xLy X a)) (nI a)) (xNp X) with ⟨q, hq, -, -, e⟩ | ⟨-, e⟩
      · have ef : (xFi X (xSz X a) (mvR X a i c) (nI (xLy X a)) (nI a)) = (-204, nI q) := by unfold xFi; rw [if_neg (fun z => z f0)]; simp only [e]
        have z8 := z7.tr (Wx.zx (X := X) (Wx.set (S := S7) (nI q)))
        refine s_iret eX9_move_199 rfl rfl ⟨?_, ?_, ?_⟩
        · rw [ef] <;> rfl
        · rw [ef]; simp only [e]; exact RM_Z w h z8 (by rw [setF_at, upd_at])
        · simp only [e]; exact z8.2.2.2.2.2.2
      · simp only [e] at c_187; exact absurd trivial c_187
  have z111 : (xFt X (xSz X a) (mvR X a i c)).1 = 0 → ∀ S3, Zx X S S3 → S3.1 0 12 = xWh X → mrg S3 (xSz X a) (xSt X (xSz X a) (mvR X a i c)) → ∀ S4, Fx [] [23] [] [] S3 S4 → (∀ k, k < 12 → S4.2.1 23 k = S3.2.1 16 (12 * a + k)) → XP mX9_move 111 [(4, .int (nI (xRg X a i))), (0, .ref 0), (1, .int (nI a)), (2, .int (nI i)), (3, .int (nI c))] [] (xwS S4) (sQ (fun r S' => r = some (.int (xFi X (xSz X a) (mvR X a i c) (nI (xLy X a)) (nI a)).1) ∧ RM S' (uS X (xFi X (xSz X a) (mvR X a i c) (nI (xLy X a)) (nI a)).2 (xSu X) (xEd X)) ∧ frM S S')) := by
    intro f0 S3 z3 e12 mr3 S4 x4 r23
    have sg := st_good w hcc f0
    have h3 : RM S3 X := RM_Z w h z3 e12
    have mr4 : mrg S4 (xSz X a) (xSt X (xSz X a) (mvR X a i c)) := mr3.zx (by rw [x4.1 0 (by simp)]) (x4.2.1 10 (by simp))
    have t3 := h3.tab w
    obtain ⟨T, hT⟩ := h3.pts w
    have eR : fst1 (fun q => q ≠ a ∧ tTh (setRg (xTb X) a (xSz X a) (xSt X (xSz X a) (mvR X a i c))) q = true ∧ nI (tLy (setRg (xTb X) a (xSz X a) (xSt X (xSz X a) (mvR X a i c))) q) = nI (xLy X a) ∧ ovP (vr (dbl (PT (PX X) T)) (xSt X (xSz X a) (mvR X a i c)) (xSz X a)) (xSz X a) (vr (dbl (PT (PX X) T)) (tRg (setRg (xTb X) a (xSz X a) (xSt X (xSz X a) (mvR X a i c))) q) (tSz (setRg (xTb X) a (xSz X a) (xSt X (xSz X a) (mvR X a i c))) q)) (tSz (setRg (xTb X) a (xSz X a) (xSt X (xSz X a) (mvR X a i c))) q)) (xNp X) = fst1 (xOv X (xSz X a) (xSt X (xSz X a) (mvR X a i c)) (nI (xLy X a)) (nI a)) (xNp X) := fst1_congr (fun q hq => by
      constructor
      · rintro ⟨ne, x, b, d⟩
        have ag := rg_ag (t := xTb X) (n := xSz X a) (c := (xSt X (xSz X a) (mvR X a i c))) ne
        rw [ag.2.2.2.1, ag.2.2.2.2] at d
        have d : ovP (vr (dbl (PT (PX X) T)) (xSt X (xSz X a) (mvR X a i c)) (xSz X a)) (xSz X a) (vr (dbl (PT (PX X) T)) (xRg X q) (xSz X q)) (xSz X q) := d
        rw [ov_PT w T sg x] at d
        exact ⟨fun z => ne ((nI_eq (by omega) (by omega)).mp z), x, b, d⟩
      · rintro ⟨ne, x, b, d⟩
        have ne : q ≠ a := fun z => ne (by rw [z])
        have ag := rg_ag (t := xTb X) (n := xSz X a) (c := (xSt X (xSz X a) (mvR X a i c))) ne
        rw [← ov_PT w T sg x] at d
        refine ⟨ne, x, b, ?_⟩
        rw [ag.2.2.2.1, ag.2.2.2.2]; exact d)
    refine x_aload_n eX9_move_111 rfl ?_
    refine x_iload_n eX9_move_112 rfl ?_
    refine s_callV0 (As := [_]) eX9_move_113 kX9_234 ⟨by decide, by decide⟩ rfl (by decide) (by decide) rfl rfl (Nat.le_of_ble_eq_true rfl) (Nat.le_of_ble_eq_true rfl) (sp_X9_store S4 (p := a) (by omega) mr4 sg.2.1) (fun S_113 h_113 => ?_)
    obtain ⟨x5, r15, r16⟩ := h_113
    have pr := store_own (by omega) mr4 (by have := sg.1; omega) sg.2.1 r15 r16
    have i5 : ∀ r, r = 12 ∨ r = 13 ∨ r = 14 → S_113.2.1 r = S3.2.1 r := fun r hr => (x5.2.1 r (by simp; omega)).trans (x4.2.1 r (by simp; omega))
    have r15b : ∀ j, S_113.2.1 15 j = if j = a then nI (xSz X a) else S3.2.1 15 j := fun j => by rw [r15, x4.2.1 15 (by simp)]
    have r16b : ∀ j, S_113.2.1 16 j = if 12 * a ≤ j ∧ j < 12 * a + xSz X a then nI ((xSt X (xSz X a) (mvR X a i c)) (j - 12 * a)) else S3.2.1 16 j := fun j => by rw [r16, x4.2.1 16 (by simp)]
    have t5 : mtab S_113 (xNp X) (tTh (setRg (xTb X) a (xSz X a) (xSt X (xSz X a) (mvR X a i c)))) (tLy (setRg (xTb X) a (xSz X a) (xSt X (xSz X a) (mvR X a i c)))) (tOw (setRg (xTb X) a (xSz X a) (xSt X (xSz X a) (mvR X a i c)))) (tSz (setRg (xTb X) a (xSz X a) (xSt X (xSz X a) (mvR X a i c)))) (tRg (setRg (xTb X) a (xSz X a) (xSt X (xSz X a) (mvR X a i c)))) := by
      refine ⟨by rw [x5.1 0 (by simp), x4.1 0 (by simp)]; exact t3.1, n60, fun q hq => ?_⟩
      have m := t3.2.2 q hq
      refine ⟨by rw [i5 12 (by simp)]; exact m.1, fun th => ?_⟩
      have b := m.2 th
      refine ⟨by rw [i5 13 (by simp)]; exact b.1, by rw [i5 14 (by simp)]; exact b.2.1, ?_⟩
      by_cases z : q = a
      · subst z; rw [own.1, own.2]; exact pr
      · have ag := rg_ag (t := xTb X) (n := xSz X a) (c := (xSt X (xSz X a) (mvR X a i c))) z
        rw [ag.2.2.2.1, ag.2.2.2.2]
        obtain ⟨b1, b2, b3, b4, b5⟩ := b.2.2
        exact ⟨b1, b2, b3, by rw [r15b, if_neg z]; exact b4, fun k hk => by rw [r16b, if_neg (by omega)]; exact b5 k hk⟩
    have hT5 : mps S_113 (xNc X) (dbl (PT (PX X) T)) := (hT.fx x4 (by decide) (by decide)).fx x5 (by decide) (by decide)
    have ok2 : ∀ q, q < xNp X → tTh (setRg (xTb X) a (xSz X a) (xSt X (xSz X a) (mvR X a i c))) q = true → RGd (xNc X) (dbl (PT (PX X) T)) (tSz (setRg (xTb X) a (xSz X a) (xSt X (xSz X a) (mvR X a i c))) q) (tRg (setRg (xTb X) a (xSz X a) (xSt X (xSz X a) (mvR X a i c))) q) := fun q _ th => good_RGd (good_PT w.1 ((tab_setRg w.2.2.2.2.1.2.1 sg) q th).2)
    refine x_aload_n eX9_move_116 rfl ?_
    refine x_iload_n eX9_move_117 rfl ?_
    refine x_aload_n eX9_move_118 rfl ?_
    refine s_getR (k := 13) eX9_move_119 fX9_52 rfl (by decide) (by decide) rfl ?_
    refine x_iload_n eX9_move_122 rfl ?_
    refine s_iald eX9_move_123 rfl (by decide) rfl (show _ < 60 by omega) ?_
    rw [show S_113.2.1 13 a = nI (xLy X a) by rw [i5 13 (by simp)]; exact ((t3.2.2 a ha).2 ta).1]
    refine x_iload_n eX9_move_124 rfl ?_
    refine s_callV1 (As := [_, _, _]) eX9_move_125 kX9_275 ⟨by decide, by decide⟩ rfl (by decide) (by decide) rfl rfl (Nat.le_of_ble_eq_true rfl) (Nat.le_of_ble_eq_true rfl) (sp_X9_overOf t5 hT5 (MP_X w T) pr (good_RGd (good_PT w.1 sg)) ok2 (nI (xLy X a)) (nI a) (Or.inr rfl)) (fun S_125 h_125 => ?_)
    rw [eR]
    have gx := h_125
    refine x_istore (lv' := [_, _, _, _, _, _]) eX9_move_128 (by decide) rfl ?_
    refine x_iconst (v := nI 0) eX9_move_130 (by decide) ?_
    refine x_istore (lv' := [_, _, _, _, _, _, _]) eX9_move_131 (by decide) rfl ?_
    refine x_pick [0, 1, 2, 3, 4, 5, 6] rfl ?_
    refine mv_swap (by omega) (fun S7 x7 e16 e11 => ?_)
    have q16 : ∀ j, S7.2.1 16 j = S3.2.1 16 j := fun j => by
      rw [e16]
      unfold blk
      by_cases z : 12 * a ≤ j ∧ j < 12 * a + 12
      · rw [if_pos z, gx.2.2.1 23 (by decide), x5.2.1 23 (by simp), r23 _ (by omega), show 12 * a + (j - 12 * a) = j by omega]
      · rw [if_neg z, gx.2.2.1 16 (by decide), r16b, if_neg (by omega)]
    have q15 : ∀ j, S7.2.1 15 j = S3.2.1 15 j := fun j => by
      rw [x7.2.1 15 (by simp), gx.2.2.1 15 (by decide), r15b]
      by_cases z : j = a
      · subst z; rw [if_pos rfl]; exact ((t3.2.2 j ha).2 ta).2.2.2.2.2.1.symm
      · rw [if_neg z]
    have y35 : Fx [] [15, 16, 23] [] [] S3 S_113 := (x4.mono (by simp) (by simp) (by simp) (by simp)).tr (x5.mono (by simp) (by simp) (by simp) (by simp))
    have z7 : Zx X S3 S7 := by
      refine ⟨fun f hf => ?_, fun r hr => ?_, fun j _ => q15 j, fun j _ => q16 j, fun p hp => ?_, fun s P hs g => ?_, ((y35.frM (by simp) (by simp) (by simp) (by simp)).tr gx.frM).tr (x7.frM (by simp) (by simp) (by simp) (by simp))⟩
      · rw [x7.1 0 (by simp), gx.2.1 f (by simp at hf; omega) (by simp at hf; omega) (by simp at hf; omega), y35.1 0 (by simp)]
      · rw [x7.2.1 r (by simp at hr ⊢; omega), gx.2.2.1 r (by simp at hr; omega), y35.2.1 r (by simp at hr ⊢; omega)]
      · rw [x7.2.2.1 p (by simp), gx.2.2.2.2.1 p (by simp; omega), y35.2.2.1 p (by simp)]
      · obtain ⟨a1, a2, a3, a4, a5⟩ := g
        have g2 : pt S_113 s P := ⟨fun i hi => by rw [y35.2.2.1 3 (by simp)]; exact a1 i hi, fun i hi => by rw [y35.2.2.1 4 (by simp)]; exact a2 i hi, a3, a4, a5⟩
        obtain ⟨c1, c2, c3, c4, c5⟩ := g2.gx gx hs
        exact ⟨fun i hi => by rw [x7.2.2.1 3 (by simp)]; exact c1 i hi, fun i hi => by rw [x7.2.2.1 4 (by simp)]; exact c2 i hi, c3, c4, c5⟩
    refine z184 f0 S7 (z3.tr z7) ?_ (fun k hk => ?_)
    · rw [x7.1 0 (by simp), gx.2.1 12 (by decide) (by decide) (by decide), y35.1 0 (by simp)]; exact e12
    · rw [e11 k (by omega), gx.2.2.1 16 (by decide), r16b, if_pos (by omega), show 12 * a + k - 12 * a = k by omega]
  show XP _ _ [_, _, _, _] _ _ _
  refine x_aload_n eX9_move_0 rfl ?_
  refine x_iload_n eX9_move_1 rfl ?_
  refine s_callV1 (As := [_]) eX9_move_2 kX9_284 ⟨by decide, by decide⟩ rfl (by decide) (by decide) rfl rfl (Nat.le_of_ble_eq_true rfl) (Nat.le_of_ble_eq_true rfl) (sp_X9_isParcel (h.tab w) (nI a)) (fun S_2 h_2 => ?_)
  have h_2 := h_2.symm
  subst h_2
  refine x_if_eqT eX9_move_5 (fun c_5 => ?_) (fun c_5 => ?_)
  · exact absurd ya c_5
  · refine x_aload_n eX9_move_8 rfl ?_
    refine x_iload_n eX9_move_9 rfl ?_
    refine s_callV1 (As := [_]) eX9_move_10 kX9_184 ⟨by decide, by decide⟩ rfl (by decide) (by decide) rfl rfl (Nat.le_of_ble_eq_true rfl) (Nat.le_of_ble_eq_true rfl) (sp_X9_isCorner _ h.1.1 n200 (nI c)) (fun S_10 h_10 => ?_)
    have h_10 := h_10.symm
    subst h_10
    refine x_if_neB eX9_move_13 (fun c_13 => ?_) (fun c_13 => ?_)
    · refine x_iload_n eX9_move_19 rfl ?_
      refine x_iconst (v := nI 0) eX9_move_20 (by decide) ?_
      refine x_aload_n eX9_move_21 rfl ?_
      refine s_getR (k := 15) eX9_move_22 fX9_58 rfl (by decide) (by decide) rfl ?_
      refine x_iload_n eX9_move_25 rfl ?_
      refine s_iald eX9_move_26 rfl (by decide) rfl (show _ < 60 by omega) ?_
      rw [((h.tab w).2.2 a ha).2 ta |>.2.2.2.2.2.1]
      refine x_iconst (v := nI 1) eX9_move_27 (by decide) ?_
      refine x_isub eX9_move_28 ?_
      refine s_callS1 (As := [_, _, _]) eX9_move_29 kX9_173 ⟨by decide, by decide⟩ rfl rfl (Nat.le_of_ble_eq_true rfl) (Nat.le_of_ble_eq_true rfl) (sp_X9_in _ _ _ _) (fun S_29 h_29 => ?_)
      have h_29 := h_29.symm
      subst h_29
      rw [show decide (nI 0 ≤ nI i ∧ nI i ≤ nI (tSz (xTb X) a) - nI 1) = _ from hasP_iff (show tSz (xTb X) a ≤ 60 by have : tSz (xTb X) a ≤ 12 := n12; omega) (nI i)]
      refine x_if_neB eX9_move_32 (fun c_32 => ?_) (fun c_32 => ?_)
      · refine x_aload_n eX9_move_38 rfl ?_
        refine x_iload_n eX9_move_39 rfl ?_
        refine s_callV0 (As := [_]) eX9_move_40 kX9_297 ⟨by decide, by decide⟩ rfl (by decide) (by decide) rfl rfl (Nat.le_of_ble_eq_true rfl) (Nat.le_of_ble_eq_true rfl) (sp_X9_load _ (h.pr w ha ta)) (fun S_40 h_40 => ?_)
        obtain ⟨x1, f1, m1⟩ := h_40
        refine x_aload_n eX9_move_43 rfl ?_
        refine s_getR (k := 10) eX9_move_44 fX9_42 rfl (by decide) (by decide) rfl ?_
        refine x_iload_n eX9_move_47 rfl ?_
        refine s_iald eX9_move_48 rfl (by decide) rfl (show _ < 24 by omega) ?_
        rw [(m1.2.2 i hi).1]
        refine x_istore (lv' := [_, _, _, _, _]) eX9_move_49 (by decide) rfl ?_
        refine x_aload_n eX9_move_51 rfl ?_
        refine s_getR (k := 10) eX9_move_52 fX9_42 rfl (by decide) (by decide) rfl ?_
        refine x_iload_n eX9_move_55 rfl ?_
        refine x_iload_n eX9_move_56 rfl ?_
        refine s_iast eX9_move_57 rfl (by decide) rfl (show _ < 24 by omega) ?_
        have m2 : mrg (setI S_40 10 (upd (S_40.2.1 10) i (nI c))) (xSz X a) (mvR X a i c) := by
          refine ⟨m1.1, m1.2.1, fun j hj => ?_⟩
          rw [setI_at]
          unfold mvR
          by_cases z : j = i
          · subst z; rw [upd_at, if_pos rfl]; exact ⟨rfl, by omega⟩
          · rw [upd_ne _ _ z, if_neg z]; exact m1.2.2 j hj
        have x2 := x1.tr (Fx.sI (p := 10) (g := upd (S_40.2.1 10) i (nI c)) (by simp))
        have z2 : Zx X S (setI S_40 10 (upd (S_40.2.1 10) i (nI c))) := Fx.zx (x2.mono (by simp) (by simp) (by simp) (by simp)) (fun f a _ => f1 f a) (fun j _ => by rw [x2.2.1 15 (by simp)]) (fun j _ => by rw [x2.2.1 16 (by simp)])
        have e12 : (setI S_40 10 (upd (S_40.2.1 10) i (nI c))).1 0 12 = xWh X := (f1 12 (by decide)).trans h.2.2.1.1
        have h2 : RM (setI S_40 10 (upd (S_40.2.1 10) i (nI c))) X := RM_Z w h z2 e12
        obtain ⟨T, hT⟩ := h2.pts w
        have eft := ftM_PT w T hcc
        generalize setI S_40 10 (upd (S_40.2.1 10) i (nI c)) = S2 at *
        refine x_aload_n eX9_move_58 rfl ?_
        refine s_callV1 (As := []) eX9_move_59 kX9_268 ⟨by decide, by decide⟩ rfl (by decide) (by decide) rfl rfl (Nat.le_of_ble_eq_true rfl) (Nat.le_of_ble_eq_true rfl) (sp_X9_faultOf _ hT m2 hcc) (fun S_59 h_59 => ?_)
        rw [eft] at h_59 ⊢
        obtain ⟨wx, f12⟩ := h_59
        have z3 := z2.tr wx.zx
        refine x_istore (lv' := [_, _, _, _, _, _]) eX9_move_62 (by decide) rfl ?_
        refine x_iload eX9_move_64 rfl ?_
        refine x_if_eq eX9_move_66 (fun c_66 => ?_) (fun c_66 => ?_)
        · have f0 := c_66
          have sg := st_good w hcc f0
          have mr2 : mrg S_59 (xSz X a) (mvR X a i c) := m2.zx (wx.2.1 14 (by decide)) (by rw [wx.2.2.1])
          have e12b : S_59.1 0 12 = xWh X := by rw [f12, if_pos f0]; exact e12
          have h3 : RM S_59 X := RM_Z w h z3 e12b
          obtain ⟨T3, hT3⟩ := h3.pts w
          refine x_aload_n eX9_move_72 rfl ?_
          refine s_callV0 (As := []) eX9_move_73 kX9_272 ⟨by decide, by decide⟩ rfl (by decide) (by decide) rfl rfl (Nat.le_of_ble_eq_true rfl) (Nat.le_of_ble_eq_true rfl) (sp_X9_turnLeft _ hT3 mr2 hcc (by have := sg.1; omega)) (fun S_73 h_73 => ?_)
          obtain ⟨x3, mr3⟩ := h_73
          rw [stM_PT w T3 hcc f0] at mr3
          have z4 : Zx X S S_73 := z3.tr (Fx.zx (x3.mono (by simp) (by simp) (by simp) (by simp)) (fun f _ _ => by rw [x3.1 0 (by simp)]) (fun j _ => by rw [x3.2.1 15 (by simp)]) (fun j _ => by rw [x3.2.1 16 (by simp)]))
          refine x_iconst (v := nI 0) eX9_move_76 (by decide) ?_
          refine x_istore (lv' := [_, _, _, _, _, _, _]) eX9_move_77 (by decide) rfl ?_
          refine x_pick [0, 2, 3, 4, 5, 6] rfl ?_
          exact mv_save (by omega) (fun S4 x4 r23 => z111 f0 S_73 z4 (by rw [x3.1 0 (by simp)]; exact e12b) mr3 S4 x4 r23)
        · refine x_iload eX9_move_69 rfl ?_
          have ef : (xFi X (xSz X a) (mvR X a i c) (nI (xLy X a)) (nI a)) = xFt X (xSz X a) (mvR X a i c) := by unfold xFi; rw [if_pos c_66]
          exact s_iret eX9_move_71 rfl rfl ⟨by rw [ef], RM_Z w h z3 (by rw [f12, if_neg c_66, ef]), z3.2.2.2.2.2.2⟩
      · exact absurd ⟨i, hi, rfl⟩ (of_decide_eq_false c_32)
    · exact absurd ⟨c, hc, rfl⟩ (of_decide_eq_false c_13)
theorem m_move_yes {S : xS} {X : LM} (w : wf X) (h : RM S X) {a i c : Nat} (ha : a < xNp X) (ta : xTh X a = true) (hi : i < xSz X a) (hc : c < xNc X) (hf : (xFi X (xSz X a) (mvR X a i c) (nI (xLy X a)) (nI a)).1 = 0) : Sp mX9_move [.ref 0, .int (nI a), .int (nI i), .int (nI c)] S (fun r S' => r = some (.int (nI (xRg X a i))) ∧ RM S' (uT X (xNp X) (setRg (xTb X) a (xSz X a) (xSt X (xSz X a) (mvR X a i c)))) ∧ frM S S') := by
  have n60 : xNp X ≤ 60 := w.2.2.2.2.1.1
  have n200 := w.1
  have n12 : xSz X a ≤ 12 := (wf_good w ta).2.1
  have ya : hasP (xNp X) (tTh (xTb X)) (nI a) := ⟨a, ha, rfl, ta⟩
  have hcc := mvR_lt w ta (i := i) hc
  have own := rg_own (xTb X) a (xSz X a) (xSt X (xSz X a) (mvR X a i c))
  have z184 : (xFt X (xSz X a) (mvR X a i c)).1 = 0 → ∀ S7, Zx X S S7 → S7.1 0 12 = xWh X → (∀ k, k < xSz X a → S7.2.1 11 k = nI ((xSt X (xSz X a) (mvR X a i c)) k)) → XP mX9_move 184 [(6, .int (match fst1 (xOv X (xSz X a) (xSt X (xSz X a) (mvR X a i c)) (nI (xLy X a)) (nI a)) (xNp X) with | some q => nI q | none => -1)), (4, .int (nI (xRg X a i))), (0, .ref 0), (1, .int (nI a)), (2, .int (nI i)), (3, .int (nI c))] [] (xwS S7) (sQ (fun r S' => r = some (.int (nI (xRg X a i))) ∧ RM S' (uT X (xNp X) (setRg (xTb X) a (xSz X a) (xSt X (xSz X a) (mvR X a i c)))) ∧ frM S S')) := by
    intro f0 S7 z7 e12 r11
    refine x_iload eX9_move_184 rfl ?_
    refine x_iconst (v := -1) eX9_move_186 (by decide) ?_
    refine x_icmp_eq eX9_move_187 (fun c_187 => ?_) (fun c_187 => ?_)
    · refine x_aload_n eX9_move_200 rfl ?_
      refine s_callV0 (As := []) eX9_move_201 kX9_278 ⟨by decide, by decide⟩ rfl (by decide) (by decide) rfl rfl (Nat.le_of_ble_eq_true rfl) (Nat.le_of_ble_eq_true rfl) (sp_mkp w (show RM S7 X from RM_Z w h z7 e12)) (fun S_201 h_201 => ?_)
      have k1 := h_201
      have h7 : RM S7 X := RM_Z w h z7 e12
      refine x_iconst (v := nI 0) eX9_move_204 (by decide) ?_
      refine x_istore (lv' := [_, _, _, _, _, _, _]) eX9_move_205 (by decide) rfl ?_
      refine x_pick [0, 1, 2, 3, 4, 5, 6] rfl ?_
      refine mv_back (by omega) (fun S9 x9 e16 => ?_)
      refine x_iload eX9_move_239 rfl ?_
      have x9b : Fx [0] [10, 11, 12, 13, 14, 15, 16, 23] [5, 6, 7] [] S_201 S9 := x9.mono (by simp) (by simp) (by simp) (by simp)
      have ir : ∀ r, r = 12 ∨ r = 13 ∨ r = 14 ∨ r = 15 → S9.2.1 r = S7.2.1 r := fun r hr => (x9.2.1 r (by simp; omega)).trans (k1.1.2.1 r (by simp; omega))
      have e11 : S_201.2.1 11 = S7.2.1 11 := k1.1.2.1 11 (by simp)
      have e16b : S_201.2.1 16 = S7.2.1 16 := k1.1.2.1 16 (by simp)
      rw [e11, e16b] at e16
      refine s_iret eX9_move_241 rfl rfl ⟨rfl, RM_mut w h7 k1 x9b (fun f _ _ => by rw [x9.1 0 (by simp)]) (by rw [x9.1 0 (by simp), k1.2.2.1 16 (by decide) (by decide)]; exact h7.2.2.2.1.1) (fun e he => ?_), (z7.2.2.2.2.2.2.tr (k1.1.frM (by simp) (by simp) (by simp) (by simp))).tr (x9b.frM (by simp) (by simp) (by simp) (by simp))⟩
      have m := h7.2.2.2.1.2 e he
      refine ⟨by rw [ir 12 (by simp)]; exact m.1, fun q => ?_⟩
      have b := m.2 q
      by_cases z : e = a
      · subst z
        refine ⟨by rw [ir 13 (by simp)]; exact b.1, by rw [ir 14 (by simp)]; exact b.2.1, by rw [ir 15 (by simp), own.1]; exact b.2.2.1, fun k hk => ?_⟩
        rw [own.1] at hk
        rw [own.2, e16, blk_in _ _ _ _ (by omega)]; exact r11 k hk
      · have ag := rg_ag (t := xTb X) (n := xSz X a) (c := (xSt X (xSz X a) (mvR X a i c))) z
        have sz : tSz (xTb X) e ≤ 12 := (wf_good w (show xTh X e = true from q)).2.1
        refine ⟨by rw [ir 13 (by simp)]; exact b.1, by rw [ir 14 (by simp)]; exact b.2.1, by rw [ir 15 (by simp), ag.2.2.2.1]; exact b.2.2.1, fun k hk => ?_⟩
        rw [ag.2.2.2.1] at hk
        rw [ag.2.2.2.2, e16, blk_off _ _ _ _ (by omega)]; exact b.2.2.2 k hk
    · exfalso
      have hf2 := hf
      unfold xFi at hf2
      rw [if_neg (fun z => z f0)] at hf2
      rcases fst1_cases (xOv X (xSz X a) (xSt X (xSz X a) (mvR X a i c)) (nI (xLy X a)) (nI a)) (xNp X) with ⟨q, hq, -, -, e⟩ | ⟨-, e⟩
      · simp only [e] at hf2; exact absurd hf2 (by decide)
      · simp only [e] at c_187; exact absurd trivial c_187
  have z111 : (xFt X (xSz X a) (mvR X a i c)).1 = 0 → ∀ S3, Zx X S S3 → S3.1 0 12 = xWh X → mrg S3 (xSz X a) (xSt X (xSz X a) (mvR X a i c)) → ∀ S4, Fx [] [23] [] [] S3 S4 → (∀ k, k < 12 → S4.2.1 23 k = S3.2.1 16 (12 * a + k)) → XP mX9_move 111 [(4, .int (nI (xRg X a i))), (0, .ref 0), (1, .int (nI a)), (2, .int (nI i)), (3, .int (nI c))] [] (xwS S4) (sQ (fun r S' => r = some (.int (nI (xRg X a i))) ∧ RM S' (uT X (xNp X) (setRg (xTb X) a (xSz X a) (xSt X (xSz X a) (mvR X a i c)))) ∧ frM S S')) := by
    intro f0 S3 z3 e12 mr3 S4 x4 r23
    have sg := st_good w hcc f0
    have h3 : RM S3 X := RM_Z w h z3 e12
    have mr4 : mrg S4 (xSz X a) (xSt X (xSz X a) (mvR X a i c)) := mr3.zx (by rw [x4.1 0 (by simp)]) (x4.2.1 10 (by simp))
    have t3 := h3.tab w
    obtain ⟨T, hT⟩ := h3.pts w
    have eR : fst1 (fun q => q ≠ a ∧ tTh (setRg (xTb X) a (xSz X a) (xSt X (xSz X a) (mvR X a i c))) q = true ∧ nI (tLy (setRg (xTb X) a (xSz X a) (xSt X (xSz X a) (mvR X a i c))) q) = nI (xLy X a) ∧ ovP (vr (dbl (PT (PX X) T)) (xSt X (xSz X a) (mvR X a i c)) (xSz X a)) (xSz X a) (vr (dbl (PT (PX X) T)) (tRg (setRg (xTb X) a (xSz X a) (xSt X (xSz X a) (mvR X a i c))) q) (tSz (setRg (xTb X) a (xSz X a) (xSt X (xSz X a) (mvR X a i c))) q)) (tSz (setRg (xTb X) a (xSz X a) (xSt X (xSz X a) (mvR X a i c))) q)) (xNp X) = fst1 (xOv X (xSz X a) (xSt X (xSz X a) (mvR X a i c)) (nI (xLy X a)) (nI a)) (xNp X) := fst1_congr (fun q hq => by
      constructor
      · rintro ⟨ne, x, b, d⟩
        have ag := rg_ag (t := xTb X) (n := xSz X a) (c := (xSt X (xSz X a) (mvR X a i c))) ne
        rw [ag.2.2.2.1, ag.2.2.2.2] at d
        have d : ovP (vr (dbl (PT (PX X) T)) (xSt X (xSz X a) (mvR X a i c)) (xSz X a)) (xSz X a) (vr (dbl (PT (PX X) T)) (xRg X q) (xSz X q)) (xSz X q) := d
        rw [ov_PT w T sg x] at d
        exact ⟨fun z => ne ((nI_eq (by omega) (by omega)).mp z), x, b, d⟩
      · rintro ⟨ne, x, b, d⟩
        have ne : q ≠ a := fun z => ne (by rw [z])
        have ag := rg_ag (t := xTb X) (n := xSz X a) (c := (xSt X (xSz X a) (mvR X a i c))) ne
        rw [← ov_PT w T sg x] at d
        refine ⟨ne, x, b, ?_⟩
        rw [ag.2.2.2.1, ag.2.2.2.2]; exact d)
    refine x_aload_n eX9_move_111 rfl ?_
    refine x_iload_n eX9_move_112 rfl ?_
    refine s_callV0 (As := [_]) eX9_move_113 kX9_234 ⟨by decide, by decide⟩ rfl (by decide) (by decide) rfl rfl (Nat.le_of_ble_eq_true rfl) (Nat.le_of_ble_eq_true rfl) (sp_X9_store S4 (p := a) (by omega) mr4 sg.2.1) (fun S_113 h_113 => ?_)
    obtain ⟨x5, r15, r16⟩ := h_113
    have pr := store_own (by omega) mr4 (by have := sg.1; omega) sg.2.1 r15 r16
    have i5 : ∀ r, r = 12 ∨ r = 13 ∨ r = 14 → S_113.2.1 r = S3.2.1 r := fun r hr => (x5.2.1 r (by simp; omega)).trans (x4.2.1 r (by simp; omega))
    have r15b : ∀ j, S_113.2.1 15 j = if j = a then nI (xSz X a) else S3.2.1 15 j := fun j => by rw [r15, x4.2.1 15 (by simp)]
    have r16b : ∀ j, S_113.2.1 16 j = if 12 * a ≤ j ∧ j < 12 * a + xSz X a then nI ((xSt X (xSz X a) (mvR X a i c)) (j - 12 * a)) else S3.2.1 16 j := fun j => by rw [r16, x4.2.1 16 (by simp)]
    have t5 : mtab S_113 (xNp X) (tTh (setRg (xTb X) a (xSz X a) (xSt X (xSz X a) (mvR X a i c)))) (tLy (setRg (xTb X) a (xSz X a) (xSt X (xSz X a) (mvR X a i c)))) (tOw (setRg (xTb X) a (xSz X a) (xSt X (xSz X a) (mvR X a i c)))) (tSz (setRg (xTb X) a (xSz X a) (xSt X (xSz X a) (mvR X a i c)))) (tRg (setRg (xTb X) a (xSz X a) (xSt X (xSz X a) (mvR X a i c)))) := by
      refine ⟨by rw [x5.1 0 (by simp), x4.1 0 (by simp)]; exact t3.1, n60, fun q hq => ?_⟩
      have m := t3.2.2 q hq
      refine ⟨by rw [i5 12 (by simp)]; exact m.1, fun th => ?_⟩
      have b := m.2 th
      refine ⟨by rw [i5 13 (by simp)]; exact b.1, by rw [i5 14 (by simp)]; exact b.2.1, ?_⟩
      by_cases z : q = a
      · subst z; rw [own.1, own.2]; exact pr
      · have ag := rg_ag (t := xTb X) (n := xSz X a) (c := (xSt X (xSz X a) (mvR X a i c))) z
        rw [ag.2.2.2.1, ag.2.2.2.2]
        obtain ⟨b1, b2, b3, b4, b5⟩ := b.2.2
        exact ⟨b1, b2, b3, by rw [r15b, if_neg z]; exact b4, fun k hk => by rw [r16b, if_neg (by omega)]; exact b5 k hk⟩
    have hT5 : mps S_113 (xNc X) (dbl (PT (PX X) T)) := (hT.fx x4 (by decide) (by decide)).fx x5 (by decide) (by decide)
    have ok2 : ∀ q, q < xNp X → tTh (setRg (xTb X) a (xSz X a) (xSt X (xSz X a) (mvR X a i c))) q = true → RGd (xNc X) (dbl (PT (PX X) T)) (tSz (setRg (xTb X) a (xSz X a) (xSt X (xSz X a) (mvR X a i c))) q) (tRg (setRg (xTb X) a (xSz X a) (xSt X (xSz X a) (mvR X a i c))) q) := fun q _ th => good_RGd (good_PT w.1 ((tab_setRg w.2.2.2.2.1.2.1 sg) q th).2)
    refine x_aload_n eX9_move_116 rfl ?_
    refine x_iload_n eX9_move_117 rfl ?_
    refine x_aload_n eX9_move_118 rfl ?_
    refine s_getR (k := 13) eX9_move_119 fX9_52 rfl (by decide) (by decide) rfl ?_
    refine x_iload_n eX9_move_122 rfl ?_
    refine s_iald eX9_move_123 rfl (by decide) rfl (show _ < 60 by omega) ?_
    rw [show S_113.2.1 13 a = nI (xLy X a) by rw [i5 13 (by simp)]; exact ((t3.2.2 a ha).2 ta).1]
    refine x_iload_n eX9_move_124 rfl ?_
    refine s_callV1 (As := [_, _, _]) eX9_move_125 kX9_275 ⟨by decide, by decide⟩ rfl (by decide) (by decide) rfl rfl (Nat.le_of_ble_eq_true rfl) (Nat.le_of_ble_eq_true rfl) (sp_X9_overOf t5 hT5 (MP_X w T) pr (good_RGd (good_PT w.1 sg)) ok2 (nI (xLy X a)) (nI a) (Or.inr rfl)) (fun S_125 h_125 => ?_)
    rw [eR]
    have gx := h_125
    refine x_istore (lv' := [_, _, _, _, _, _]) eX9_move_128 (by decide) rfl ?_
    refine x_iconst (v := nI 0) eX9_move_130 (by decide) ?_
    refine x_istore (lv' := [_, _, _, _, _, _, _]) eX9_move_131 (by decide) rfl ?_
    refine x_pick [0, 1, 2, 3, 4, 5, 6] rfl ?_
    refine mv_swap (by omega) (fun S7 x7 e16 e11 => ?_)
    have q16 : ∀ j, S7.2.1 16 j = S3.2.1 16 j := fun j => by
      rw [e16]
      unfold blk
      by_cases z : 12 * a ≤ j ∧ j < 12 * a + 12
      · rw [if_pos z, gx.2.2.1 23 (by decide), x5.2.1 23 (by simp), r23 _ (by omega), show 12 * a + (j - 12 * a) = j by omega]
      · rw [if_neg z, gx.2.2.1 16 (by decide), r16b, if_neg (by omega)]
    have q15 : ∀ j, S7.2.1 15 j = S3.2.1 15 j := fun j => by
      rw [x7.2.1 15 (by simp), gx.2.2.1 15 (by decide), r15b]
      by_cases z : j = a
      · subst z; rw [if_pos rfl]; exact ((t3.2.2 j ha).2 ta).2.2.2.2.2.1.symm
      · rw [if_neg z]
    have y35 : Fx [] [15, 16, 23] [] [] S3 S_113 := (x4.mono (by simp) (by simp) (by simp) (by simp)).tr (x5.mono (by simp) (by simp) (by simp) (by simp))
    have z7 : Zx X S3 S7 := by
      refine ⟨fun f hf => ?_, fun r hr => ?_, fun j _ => q15 j, fun j _ => q16 j, fun p hp => ?_, fun s P hs g => ?_, ((y35.frM (by simp) (by simp) (by simp) (by simp)).tr gx.frM).tr (x7.frM (by simp) (by simp) (by simp) (by simp))⟩
      · rw [x7.1 0 (by simp), gx.2.1 f (by simp at hf; omega) (by simp at hf; omega) (by simp at hf; omega), y35.1 0 (by simp)]
      · rw [x7.2.1 r (by simp at hr ⊢; omega), gx.2.2.1 r (by simp at hr; omega), y35.2.1 r (by simp at hr ⊢; omega)]
      · rw [x7.2.2.1 p (by simp), gx.2.2.2.2.1 p (by simp; omega), y35.2.2.1 p (by simp)]
      · obtain ⟨a1, a2, a3, a4, a5⟩ := g
        have g2 : pt S_113 s P := ⟨fun i hi => by rw [y35.2.2.1 3 (by simp)]; exact a1 i hi, fun i hi => by rw [y35.2.2.1 4 (by simp)]; exact a2 i hi, a3, a4, a5⟩
        obtain ⟨c1, c2, c3, c4, c5⟩ := g2.gx gx hs
        exact ⟨fun i hi => by rw [x7.2.2.1 3 (by simp)]; exact c1 i hi, fun i hi => by rw [x7.2.2.1 4 (by simp)]; exact c2 i hi, c3, c4, c5⟩
    refine z184 f0 S7 (z3.tr z7) ?_ (fun k hk => ?_)
    · rw [x7.1 0 (by simp), gx.2.1 12 (by decide) (by decide) (by decide), y35.1 0 (by simp)]; exact e12
    · rw [e11 k (by omega), gx.2.2.1 16 (by decide), r16b, if_pos (by omega), show 12 * a + k - 12 * a = k by omega]
  show XP _ _ [_, _, _, _] _ _ _
  refine x_aload_n eX9_move_0 rfl ?_
  refine x_iload_n eX9_move_1 rfl ?_
  refine s_callV1 (As := [_]) eX9_move_2 kX9_284 ⟨by decide, by decide⟩ rfl (by decide) (by decide) rfl rfl (Nat.le_of_ble_eq_true rfl) (Nat.le_of_ble_eq_true rfl) (sp_X9_isParcel (h.tab w) (nI a)) (fun S_2 h_2 => ?_)
  have h_2 := h_2.symm
  subst h_2
  refine x_if_eqT eX9_move_5 (fun c_5 => ?_) (fun c_5 => ?_)
  · exact absurd ya c_5
  · refine x_aload_n eX9_move_8 rfl ?_
    refine x_iload_n eX9_move_9 rfl ?_
    refine s_callV1 (As := [_]) eX9_move_10 kX9_184 ⟨by decide, by decide⟩ rfl (by decide) (by decide) rfl rfl (Nat.le_of_ble_eq_true rfl) (Nat.le_of_ble_eq_true rfl) (sp_X9_isCorner _ h.1.1 n200 (nI c)) (fun S_10 h_10 => ?_)
    have h_10 := h_10.symm
    subst h_10
    refine x_if_neB eX9_move_13 (fun c_13 => ?_) (fun c_13 => ?_)
    · refine x_iload_n eX9_move_19 rfl ?_
      refine x_iconst (v := nI 0) eX9_move_20 (by decide) ?_
      refine x_aload_n eX9_move_21 rfl ?_
      refine s_getR (k := 15) eX9_move_22 fX9_58 rfl (by decide) (by decide) rfl ?_
      refine x_iload_n eX9_move_25 rfl ?_
      refine s_iald eX9_move_26 rfl (by decide) rfl (show _ < 60 by omega) ?_
      rw [((h.tab w).2.2 a ha).2 ta |>.2.2.2.2.2.1]
      refine x_iconst (v := nI 1) eX9_move_27 (by decide) ?_
      refine x_isub eX9_move_28 ?_
      refine s_callS1 (As := [_, _, _]) eX9_move_29 kX9_173 ⟨by decide, by decide⟩ rfl rfl (Nat.le_of_ble_eq_true rfl) (Nat.le_of_ble_eq_true rfl) (sp_X9_in _ _ _ _) (fun S_29 h_29 => ?_)
      have h_29 := h_29.symm
      subst h_29
      rw [show decide (nI 0 ≤ nI i ∧ nI i ≤ nI (tSz (xTb X) a) - nI 1) = _ from hasP_iff (show tSz (xTb X) a ≤ 60 by have : tSz (xTb X) a ≤ 12 := n12; omega) (nI i)]
      refine x_if_neB eX9_move_32 (fun c_32 => ?_) (fun c_32 => ?_)
      · refine x_aload_n eX9_move_38 rfl ?_
        refine x_iload_n eX9_move_39 rfl ?_
        refine s_callV0 (As := [_]) eX9_move_40 kX9_297 ⟨by decide, by decide⟩ rfl (by decide) (by decide) rfl rfl (Nat.le_of_ble_eq_true rfl) (Nat.le_of_ble_eq_true rfl) (sp_X9_load _ (h.pr w ha ta)) (fun S_40 h_40 => ?_)
        obtain ⟨x1, f1, m1⟩ := h_40
        refine x_aload_n eX9_move_43 rfl ?_
        refine s_getR (k := 10) eX9_move_44 fX9_42 rfl (by decide) (by decide) rfl ?_
        refine x_iload_n eX9_move_47 rfl ?_
        refine s_iald eX9_move_48 rfl (by decide) rfl (show _ < 24 by omega) ?_
        rw [(m1.2.2 i hi).1]
        refine x_istore (lv' := [_, _, _, _, _]) eX9_move_49 (by decide) rfl ?_
        refine x_aload_n eX9_move_51 rfl ?_
        refine s_getR (k := 10) eX9_move_52 fX9_42 rfl (by decide) (by decide) rfl ?_
        refine x_iload_n eX9_move_55 rfl ?_
        refine x_iload_n eX9_move_56 rfl ?_
        refine s_iast eX9_move_57 rfl (by decide) rfl (show _ < 24 by omega) ?_
        have m2 : mrg (setI S_40 10 (upd (S_40.2.1 10) i (nI c))) (xSz X a) (mvR X a i c) := by
          refine ⟨m1.1, m1.2.1, fun j hj => ?_⟩
          rw [setI_at]
          unfold mvR
          by_cases z : j = i
          · subst z; rw [upd_at, if_pos rfl]; exact ⟨rfl, by omega⟩
          · rw [upd_ne _ _ z, if_neg z]; exact m1.2.2 j hj
        have x2 := x1.tr (Fx.sI (p := 10) (g := upd (S_40.2.1 10) i (nI c)) (by simp))
        have z2 : Zx X S (setI S_40 10 (upd (S_40.2.1 10) i (nI c))) := Fx.zx (x2.mono (by simp) (by simp) (by simp) (by simp)) (fun f a _ => f1 f a) (fun j _ => by rw [x2.2.1 15 (by simp)]) (fun j _ => by rw [x2.2.1 16 (by simp)])
        have e12 : (setI S_40 10 (upd (S_40.2.1 10) i (nI c))).1 0 12 = xWh X := (f1 12 (by decide)).trans h.2.2.1.1
        have h2 : RM (setI S_40 10 (upd (S_40.2.1 10) i (nI c))) X := RM_Z w h z2 e12
        obtain ⟨T, hT⟩ := h2.pts w
        have eft := ftM_PT w T hcc
        generalize setI S_40 10 (upd (S_40.2.1 10) i (nI c)) = S2 at *
        refine x_aload_n eX9_move_58 rfl ?_
        refine s_callV1 (As := []) eX9_move_59 kX9_268 ⟨by decide, by decide⟩ rfl (by decide) (by decide) rfl rfl (Nat.le_of_ble_eq_true rfl) (Nat.le_of_ble_eq_true rfl) (sp_X9_faultOf _ hT m2 hcc) (fun S_59 h_59 => ?_)
        rw [eft] at h_59 ⊢
        obtain ⟨wx, f12⟩ := h_59
        have z3 := z2.tr wx.zx
        refine x_istore (lv' := [_, _, _, _, _, _]) eX9_move_62 (by decide) rfl ?_
        refine x_iload eX9_move_64 rfl ?_
        refine x_if_eq eX9_move_66 (fun c_66 => ?_) (fun c_66 => ?_)
        · have f0 := c_66
          have sg := st_good w hcc f0
          have mr2 : mrg S_59 (xSz X a) (mvR X a i c) := m2.zx (wx.2.1 14 (by decide)) (by rw [wx.2.2.1])
          have e12b : S_59.1 0 12 = xWh X := by rw [f12, if_pos f0]; exact e12
          have h3 : RM S_59 X := RM_Z w h z3 e12b
          obtain ⟨T3, hT3⟩ := h3.pts w
          refine x_aload_n eX9_move_72 rfl ?_
          refine s_callV0 (As := []) eX9_move_73 kX9_272 ⟨by decide, by decide⟩ rfl (by decide) (by decide) rfl rfl (Nat.le_of_ble_eq_true rfl) (Nat.le_of_ble_eq_true rfl) (sp_X9_turnLeft _ hT3 mr2 hcc (by have := sg.1; omega)) (fun S_73 h_73 => ?_)
          obtain ⟨x3, mr3⟩ := h_73
          rw [stM_PT w T3 hcc f0] at mr3
          have z4 : Zx X S S_73 := z3.tr (Fx.zx (x3.mono (by simp) (by simp) (by simp) (by simp)) (fun f _ _ => by rw [x3.1 0 (by simp)]) (fun j _ => by rw [x3.2.1 15 (by simp)]) (fun j _ => by rw [x3.2.1 16 (by simp)]))
          refine x_iconst (v := nI 0) eX9_move_76 (by decide) ?_
          refine x_istore (lv' := [_, _, _, _, _, _, _]) eX9_move_77 (by decide) rfl ?_
          refine x_pick [0, 2, 3, 4, 5, 6] rfl ?_
          exact mv_save (by omega) (fun S4 x4 r23 => z111 f0 S_73 z4 (by rw [x3.1 0 (by simp)]; exact e12b) mr3 S4 x4 r23)
        · exact absurd (FI_ft hf) c_66
      · exact absurd ⟨i, hi, rfl⟩ (of_decide_eq_false c_32)
    · exact absurd ⟨c, hc, rfl⟩ (of_decide_eq_false c_13)
theorem b_move {X : LM} (w : wf X) (p i c : Int32) : both X mX8_move mX9_move [.int p, .int i, .int c] := by
  have n60 : xNp X ≤ 60 := w.2.2.2.2.1.1
  have n200 := w.1
  by_cases hp : xHas X p
  rotate_left
  · refine ⟨.int (-101), X, w, fun S h => ?_, fun S h => ?_⟩
    · show XP _ _ [_, _, _, _] _ _ _
      refine x_aload_n eX8_move_0 rfl ?_
      refine s_getR (k := 37) eX8_move_1 fX8_28 rfl (by decide) (by decide) rfl ?_
      refine x_iload_n eX8_move_4 rfl ?_
      refine s_callV1 (As := [_]) eX8_move_5 kX8_144 ⟨by decide, by decide⟩ rfl (by decide) (by decide) rfl rfl (Nat.le_of_ble_eq_true rfl) (Nat.le_of_ble_eq_true rfl) (sp_X3_has (h.tab w) p) (fun S_5 h_5 => ?_)
      have h_5 := h_5.symm
      subst h_5
      refine x_if_eqT eX8_move_8 (fun c_8 => ?_) (fun c_8 => ?_)
      · refine x_bipush (v := -101) eX8_move_22 (by decide) ?_
        exact s_iret eX8_move_24 rfl rfl ⟨rfl, h, frC.rf _⟩
      · exact absurd c_8 hp
    · show XP _ _ [_, _, _, _] _ _ _
      refine x_aload_n eX9_move_0 rfl ?_
      refine x_iload_n eX9_move_1 rfl ?_
      refine s_callV1 (As := [_]) eX9_move_2 kX9_284 ⟨by decide, by decide⟩ rfl (by decide) (by decide) rfl rfl (Nat.le_of_ble_eq_true rfl) (Nat.le_of_ble_eq_true rfl) (sp_X9_isParcel (h.tab w) p) (fun S_2 h_2 => ?_)
      have h_2 := h_2.symm
      subst h_2
      refine x_if_eqT eX9_move_5 (fun c_5 => ?_) (fun c_5 => ?_)
      · refine x_bipush (v := -101) eX9_move_16 (by decide) ?_
        exact s_iret eX9_move_18 rfl rfl ⟨rfl, h, frM.rf _⟩
      · exact absurd c_5 hp
  obtain ⟨a, ha, rfl, ta⟩ := hp
  have ya : hasP (xNp X) (tTh (xTb X)) (nI a) := ⟨a, ha, rfl, ta⟩
  have n12 : xSz X a ≤ 12 := (wf_good w ta).2.1
  by_cases hc : ∃ k, k < xNc X ∧ c = nI k
  rotate_left
  · refine ⟨.int (-101), X, w, fun S h => ?_, fun S h => ?_⟩
    · show XP _ _ [_, _, _, _] _ _ _
      refine x_aload_n eX8_move_0 rfl ?_
      refine s_getR (k := 37) eX8_move_1 fX8_28 rfl (by decide) (by decide) rfl ?_
      refine x_iload_n eX8_move_4 rfl ?_
      refine s_callV1 (As := [_]) eX8_move_5 kX8_144 ⟨by decide, by decide⟩ rfl (by decide) (by decide) rfl rfl (Nat.le_of_ble_eq_true rfl) (Nat.le_of_ble_eq_true rfl) (sp_X3_has (h.tab w) (nI a)) (fun S_5 h_5 => ?_)
      have h_5 := h_5.symm
      subst h_5
      refine x_if_eqT eX8_move_8 (fun c_8 => ?_) (fun c_8 => ?_)
      · exact absurd ya c_8
      · refine x_aload_n eX8_move_11 rfl ?_
        refine s_getR (k := 32) eX8_move_12 fX8_12 rfl (by decide) (by decide) rfl ?_
        refine x_iload_n eX8_move_15 rfl ?_
        refine s_callV1 (As := [_]) eX8_move_16 kX8_88 ⟨by decide, by decide⟩ rfl (by decide) (by decide) rfl rfl (Nat.le_of_ble_eq_true rfl) (Nat.le_of_ble_eq_true rfl) (sp_X2_has _ h.1.1 n200 c) (fun S_16 h_16 => ?_)
        have h_16 := h_16.symm
        subst h_16
        refine x_if_neT eX8_move_19 (fun c_19 => ?_) (fun c_19 => ?_)
        · exact absurd c_19 hc
        · refine x_bipush (v := -101) eX8_move_22 (by decide) ?_
          exact s_iret eX8_move_24 rfl rfl ⟨rfl, h, frC.rf _⟩
    · show XP _ _ [_, _, _, _] _ _ _
      refine x_aload_n eX9_move_0 rfl ?_
      refine x_iload_n eX9_move_1 rfl ?_
      refine s_callV1 (As := [_]) eX9_move_2 kX9_284 ⟨by decide, by decide⟩ rfl (by decide) (by decide) rfl rfl (Nat.le_of_ble_eq_true rfl) (Nat.le_of_ble_eq_true rfl) (sp_X9_isParcel (h.tab w) (nI a)) (fun S_2 h_2 => ?_)
      have h_2 := h_2.symm
      subst h_2
      refine x_if_eqT eX9_move_5 (fun c_5 => ?_) (fun c_5 => ?_)
      · exact absurd ya c_5
      · refine x_aload_n eX9_move_8 rfl ?_
        refine x_iload_n eX9_move_9 rfl ?_
        refine s_callV1 (As := [_]) eX9_move_10 kX9_184 ⟨by decide, by decide⟩ rfl (by decide) (by decide) rfl rfl (Nat.le_of_ble_eq_true rfl) (Nat.le_of_ble_eq_true rfl) (sp_X9_isCorner _ h.1.1 n200 c) (fun S_10 h_10 => ?_)
        have h_10 := h_10.symm
        subst h_10
        refine x_if_neB eX9_move_13 (fun c_13 => ?_) (fun c_13 => ?_)
        · exact absurd (of_decide_eq_true c_13) hc
        · refine x_bipush (v := -101) eX9_move_16 (by decide) ?_
          exact s_iret eX9_move_18 rfl rfl ⟨rfl, h, frM.rf _⟩
  obtain ⟨c, hc, rfl⟩ := hc
  by_cases zi : ∃ k, k < xSz X a ∧ i = nI k
  rotate_left
  · refine ⟨.int (-102), X, w, fun S h => ?_, fun S h => ?_⟩
    · show XP _ _ [_, _, _, _] _ _ _
      refine x_aload_n eX8_move_0 rfl ?_
      refine s_getR (k := 37) eX8_move_1 fX8_28 rfl (by decide) (by decide) rfl ?_
      refine x_iload_n eX8_move_4 rfl ?_
      refine s_callV1 (As := [_]) eX8_move_5 kX8_144 ⟨by decide, by decide⟩ rfl (by decide) (by decide) rfl rfl (Nat.le_of_ble_eq_true rfl) (Nat.le_of_ble_eq_true rfl) (sp_X3_has (h.tab w) (nI a)) (fun S_5 h_5 => ?_)
      have h_5 := h_5.symm
      subst h_5
      refine x_if_eqT eX8_move_8 (fun c_8 => ?_) (fun c_8 => ?_)
      · exact absurd ya c_8
      · refine x_aload_n eX8_move_11 rfl ?_
        refine s_getR (k := 32) eX8_move_12 fX8_12 rfl (by decide) (by decide) rfl ?_
        refine x_iload_n eX8_move_15 rfl ?_
        refine s_callV1 (As := [_]) eX8_move_16 kX8_88 ⟨by decide, by decide⟩ rfl (by decide) (by decide) rfl rfl (Nat.le_of_ble_eq_true rfl) (Nat.le_of_ble_eq_true rfl) (sp_X2_has _ h.1.1 n200 (nI c)) (fun S_16 h_16 => ?_)
        have h_16 := h_16.symm
        subst h_16
        refine x_if_neT eX8_move_19 (fun c_19 => ?_) (fun c_19 => ?_)
        · refine x_aload_n eX8_move_25 rfl ?_
          refine s_getR (k := 37) eX8_move_26 fX8_28 rfl (by decide) (by decide) rfl ?_
          refine s_getR (k := 38) eX8_move_29 fX8_145 rfl (by decide) (by decide) rfl ?_
          refine x_iload_n eX8_move_32 rfl ?_
          refine s_raldR eX8_move_33 (by first | exact Or.inl rfl | exact Or.inr rfl) (by decide) rfl (show _ < 60 by omega) (rf_parcels a) ?_
          refine x_astore (lv' := [_, _, _, _, _]) eX8_move_34 (by decide) rfl ?_
          refine x_iload_n eX8_move_36 rfl ?_
          refine x_if_lt eX8_move_37 (fun c_37 => ?_) (fun c_37 => ?_)
          · refine x_bipush (v := -102) eX8_move_52 (by decide) ?_
            exact s_iret eX8_move_54 rfl rfl ⟨rfl, h, frC.rf _⟩
          · refine x_iload_n eX8_move_40 rfl ?_
            refine x_aload eX8_move_41 rfl ?_
            refine s_getR (k := (45 + 2 * a)) eX8_move_43 fX8_157 (kd_parcel (by omega)) (show _ < 365 by omega) (by decide) (rf_parcel (by omega)) ?_
            refine s_geti eX8_move_46 fX8_115 (kd_ring (by omega)) (show _ < 365 by omega) (by decide) ?_
            rw [(h.cr w ha ta).1.2.2.1]
            refine x_icmp_lt eX8_move_49 (fun c_49 => ?_) (fun c_49 => ?_)
            · obtain ⟨k, hk, rfl⟩ := nI_of c_37
              exact absurd ⟨k, (nI_ltI hk (by omega)).mp c_49, rfl⟩ zi
            · refine x_bipush (v := -102) eX8_move_52 (by decide) ?_
              exact s_iret eX8_move_54 rfl rfl ⟨rfl, h, frC.rf _⟩
        · exact absurd ⟨c, hc, rfl⟩ c_19
    · show XP _ _ [_, _, _, _] _ _ _
      refine x_aload_n eX9_move_0 rfl ?_
      refine x_iload_n eX9_move_1 rfl ?_
      refine s_callV1 (As := [_]) eX9_move_2 kX9_284 ⟨by decide, by decide⟩ rfl (by decide) (by decide) rfl rfl (Nat.le_of_ble_eq_true rfl) (Nat.le_of_ble_eq_true rfl) (sp_X9_isParcel (h.tab w) (nI a)) (fun S_2 h_2 => ?_)
      have h_2 := h_2.symm
      subst h_2
      refine x_if_eqT eX9_move_5 (fun c_5 => ?_) (fun c_5 => ?_)
      · exact absurd ya c_5
      · refine x_aload_n eX9_move_8 rfl ?_
        refine x_iload_n eX9_move_9 rfl ?_
        refine s_callV1 (As := [_]) eX9_move_10 kX9_184 ⟨by decide, by decide⟩ rfl (by decide) (by decide) rfl rfl (Nat.le_of_ble_eq_true rfl) (Nat.le_of_ble_eq_true rfl) (sp_X9_isCorner _ h.1.1 n200 (nI c)) (fun S_10 h_10 => ?_)
        have h_10 := h_10.symm
        subst h_10
        refine x_if_neB eX9_move_13 (fun c_13 => ?_) (fun c_13 => ?_)
        · refine x_iload_n eX9_move_19 rfl ?_
          refine x_iconst (v := nI 0) eX9_move_20 (by decide) ?_
          refine x_aload_n eX9_move_21 rfl ?_
          refine s_getR (k := 15) eX9_move_22 fX9_58 rfl (by decide) (by decide) rfl ?_
          refine x_iload_n eX9_move_25 rfl ?_
          refine s_iald eX9_move_26 rfl (by decide) rfl (show _ < 60 by omega) ?_
          rw [((h.tab w).2.2 a ha).2 ta |>.2.2.2.2.2.1]
          refine x_iconst (v := nI 1) eX9_move_27 (by decide) ?_
          refine x_isub eX9_move_28 ?_
          refine s_callS1 (As := [_, _, _]) eX9_move_29 kX9_173 ⟨by decide, by decide⟩ rfl rfl (Nat.le_of_ble_eq_true rfl) (Nat.le_of_ble_eq_true rfl) (sp_X9_in _ _ _ _) (fun S_29 h_29 => ?_)
          have h_29 := h_29.symm
          subst h_29
          rw [show decide (nI 0 ≤ i ∧ i ≤ nI (tSz (xTb X) a) - nI 1) = _ from hasP_iff (show tSz (xTb X) a ≤ 60 by have : tSz (xTb X) a ≤ 12 := n12; omega) i]
          refine x_if_neB eX9_move_32 (fun c_32 => ?_) (fun c_32 => ?_)
          · exact absurd (of_decide_eq_true c_32) zi
          · refine x_bipush (v := -102) eX9_move_35 (by decide) ?_
            exact s_iret eX9_move_37 rfl rfl ⟨rfl, h, frM.rf _⟩
        · exact absurd ⟨c, hc, rfl⟩ (of_decide_eq_false c_13)
  obtain ⟨i, hi, rfl⟩ := zi
  by_cases hf : (xFi X (xSz X a) (mvR X a i c) (nI (xLy X a)) (nI a)).1 = 0
  · exact ⟨.int (nI (xRg X a i)), (uT X (xNp X) (setRg (xTb X) a (xSz X a) (xSt X (xSz X a) (mvR X a i c)))), wf_setRg w (st_good w (mvR_lt w ta hc) (FI_ft hf)), fun S h => c_move_yes w h ha ta hi hc hf, fun S h => m_move_yes w h ha ta hi hc hf⟩
  · exact ⟨.int (xFi X (xSz X a) (mvR X a i c) (nI (xLy X a)) (nI a)).1, uS X (xFi X (xSz X a) (mvR X a i c) (nI (xLy X a)) (nI a)).2 (xSu X) (xEd X), wf_uS w _ _ _, fun S h => c_move_no w h ha ta hi hc hf, fun S h => m_move_no w h ha ta hi hc hf⟩
