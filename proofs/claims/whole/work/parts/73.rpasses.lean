/-! ===== the reference's passes ===== -/
def stI (S : xS) (nc m : Nat) (s : Nat → Nat) : Prop := ∀ j, j ≤ m → S.2.1 22 j = nI (s j) ∧ s j < nc
def insN (s : Nat → Nat) (k a : Nat) : Nat → Nat := fun j => if j < k then s j else if j = k then a else s (j - 1)
theorem insN_P (P : Nat → Pt) (s : Nat → Nat) (k a : Nat) : (fun j => P (insN s k a j)) = insAt (fun j => P (s j)) k (P a) := by
  funext j
  unfold insN insAt
  split
  · rfl
  · split <;> rfl
theorem bet_line {U W x y : Pt} (hne : U ≠ W) (hx : bet U W x) (hy : bet U W y) : orP U x y = 0 := by
  obtain ⟨s, t, hc⟩ := bet_comb hx
  have e1 := comb_or hc y U
  have : orP U W y = 0 := hy.1
  have e2 : orP y U U = 0 := or_self2 y U
  have e3 : orP y U W = orP U W y := or_cyc y U W
  have e4 : orP y U x = orP U x y := or_cyc y U x
  rw [e2, e3, e4, this, Int.mul_zero, Int.mul_zero] at e1
  rcases Int.mul_eq_zero.mp e1 with h | h
  · have := hc.2.2.1; omega
  · exact h
/-- the stops while the corners below a are done -/
def pinv (S S1 : xS) (nc n : Nat) (P : Nat → Pt) (c : Nat → Nat) (U W : Pt) (a m : Nat) (s : Nat → Nat) : Prop := Gx S S1 ∧ S1.1 0 29 = 0 ∧ S1.1 0 30 = 0 ∧ stI S1 nc m s ∧ m ≤ a ∧ srt U W m (fun j => P (s j)) ∧ (∀ j, 0 < j → j ≤ m → ∃ i, i < a ∧ s j = c i) ∧ (∀ i, i < a → bet U W (vr P c n i) → vr P c n i ≠ U → vr P c n i ≠ W → ∃ j, j ≤ m ∧ P (s j) = vr P c n i) ∧ ∀ k, k < a → comP U W (vr P c n k) (vr P c n (k + 1)) ≠ 1
theorem pinv_skip {S S1 S2 : xS} {nc n : Nat} {P : Nat → Pt} {c : Nat → Nat} {U W : Pt} {a m : Nat} {s : Nat → Nat} (h : pinv S S1 nc n P c U W a m s) (hx : Lx [5, 6, 7] S1 S2) (hc : comP U W (vr P c n a) (vr P c n (a + 1)) ≠ 1) (hs : bet U W (vr P c n a) → vr P c n a ≠ U → vr P c n a ≠ W → False) : pinv S S2 nc n P c U W (a + 1) m s := by
  obtain ⟨h1, h2, h3, h4, h5, h6, h7, h8, h9⟩ := h
  refine ⟨h1.tr hx.gx, by rw [hx.1]; exact h2, by rw [hx.1]; exact h3, fun j hj => by rw [hx.2.1]; exact h4 j hj, by omega, h6, fun j a1 a2 => ?_, fun i hi b n1 n2 => ?_, fun k hk => ?_⟩
  · obtain ⟨i, hi, e⟩ := h7 j a1 a2; exact ⟨i, by omega, e⟩
  · by_cases q : i = a
    · subst q; exact (hs b n1 n2).elim
    · exact h8 i (by omega) b n1 n2
  · by_cases q : k = a
    · subst q; exact hc
    · exact h9 k (by omega)
theorem ex_last {R : Nat → Prop} {k : Nat} (h : ¬ ∃ j, j < k ∧ R j) (hk : ¬ R k) : ¬ ∃ j, j < k + 1 ∧ R j := by
  rintro ⟨j, hj, e⟩
  by_cases q : j = k
  · subst q; exact hk e
  · exact h ⟨j, by omega, e⟩
/-- what the middles tell -/
theorem pass_res {v : Nat → Pt} {n : Nat} {U W : Pt} {m : Nat} {s mm : Nat → Pt} (h : soundS v n) (hl : lefty v) (hs : stopsOf v U W m s) (hx : ∀ k, k < n → comP U W (v k) (v (k + 1)) ≠ 1) (hm : ∀ k, k < m → mid (s k) (s (k + 1)) (mm k)) : ((∃ k, k < m ∧ lie v n (mm k) = 1) ↔ goesP v n U W) ∧ ((∃ k, k < m ∧ lie v n (mm k) ≠ 0) ↔ ¬ alongP v n U W) := by
  have off_iff : ∀ T, fst1 (onR v T) n = none ↔ off v n T := by
    intro T
    rcases fst1_cases (onR v T) n with ⟨k, hk, r, -, e⟩ | ⟨no, e⟩
    · rw [e]
      constructor
      · intro z; cases z
      · intro z; exact absurd (bet_on.mp r) (z k hk)
    · rw [e]
      exact ⟨fun _ k hk b => no k hk (bet_on.mpr b), fun _ => rfl⟩
  have l1 : ∀ T, lie v n T = 1 ↔ inn v n T := by
    intro T
    unfold lie
    rcases fst1_cases (onR v T) n with ⟨k, hk, r, -, e⟩ | ⟨no, e⟩
    · rw [e]
      constructor
      · intro z; exact absurd (show (0 : Int32) = 1 from z) (by decide)
      · intro z; exact absurd (bet_on.mp r) (z.1 k hk)
    · rw [e]
      have ho := (off_iff T).mp e
      have w01 := wnd01 h hl ho
      show (if wnd v n T ≠ 0 then (1 : Int32) else -1) = 1 ↔ _
      constructor
      · intro z
        refine ⟨ho, ?_⟩
        by_cases q : wnd v n T ≠ 0
        · omega
        · rw [if_neg q] at z; exact absurd z (by decide)
      · intro z; rw [if_pos (by have := z.2; omega)]
  have l0 : ∀ T, lie v n T ≠ 0 ↔ off v n T := by
    intro T
    unfold lie
    rcases fst1_cases (onR v T) n with ⟨k, hk, r, -, e⟩ | ⟨no, e⟩
    · rw [e]
      constructor
      · intro z; exact absurd rfl z
      · intro z; exact absurd (bet_on.mp r) (z k hk)
    · rw [e]
      refine ⟨fun _ => (off_iff T).mp e, fun _ => ?_⟩
      show (if wnd v n T ≠ 0 then (1 : Int32) else -1) ≠ 0
      split <;> decide
  constructor
  · have := pass_iff h hl hs hx hm
    constructor
    · rintro ⟨k, hk, e⟩
      exact Or.inr (this.mp ⟨k, hk, (l1 _).mp e⟩)
    · rintro (⟨k, hk, e⟩ | g)
      · exact absurd e (hx k hk)
      · obtain ⟨k, hk, e⟩ := this.mpr g
        exact ⟨k, hk, (l1 _).mpr e⟩
  · constructor
    · rintro ⟨k, hk, e⟩ al
      exact on_mids hs hm (fun y b => al 1 y (by decide) (by rw [sc_one, sc_one]; exact b)) hk ((l0 _).mp e)
    · intro na
      refine Classical.byContradiction fun no => na (fun N y hN b => ?_)
      exact on_all h hs hx hm (fun k hk ho => no ⟨k, hk, (l0 _).mpr ho⟩) hN b

theorem sp_X9_passes (S : xS) {nc p n u w : Nat} {c : Nat → Nat} {P P0 : Nat → Pt} (hp : mps S nc P) (hnc : nc ≤ 200) (h : mpr S p n c) (hc : ∀ i, i < n → c i < nc) (hev : ∀ x, x < nc → P x = scP 2 (P0 x)) (hinj : ∀ x y, x < nc → y < nc → P x = P y → x = y) (hcd : ∀ i j, i < n → j < n → c i = c j → i = j) (hso : soundS (vr P c n) n) (hle : lefty (vr P c n)) (hu : u < nc) (hw : w < nc) (huw : u ≠ w) : Sp mX9_passes [.ref 0, .int (nI u), .int (nI w), .int (nI p)] S (fun r S' => r = none ∧ Gx S S' ∧ S'.1 0 29 = tI (goesP (vr P c n) n (P u) (P w)) ∧ (¬ goesP (vr P c n) n (P u) (P w) → S'.1 0 30 = tI (¬ alongP (vr P c n) n (P u) (P w)))) := by
  have p60 := h.1
  have n0 := h.2.1
  have n12 := h.2.2.1
  have n3 := hso.1
  have hne : P u ≠ P w := fun e => huw (hinj _ _ hu hw e)
  have loop2 : ∀ (m : Nat) (s : Nat → Nat), stopsOf (vr P c n) (P u) (P w) m (fun j => P (s j)) → (∀ k, k < n → comP (P u) (P w) (vr P c n k) (vr P c n (k + 1)) ≠ 1) → (∀ j, j < m → mid (P (s j)) (P (s (j + 1))) (((P (s j)).1 + (P (s (j + 1))).1) / 2, ((P (s j)).2 + (P (s (j + 1))).2) / 2)) → m < 15 → ∀ μ k, k + μ = m → ∀ S1, (Gx S S1 ∧ stI S1 nc m s ∧ S1.1 0 29 = tI (∃ j, j < k ∧ lie (vr P c n) n (((P (s j)).1 + (P (s (j + 1))).1) / 2, ((P (s j)).2 + (P (s (j + 1))).2) / 2) = 1) ∧ S1.1 0 30 = tI (∃ j, j < k ∧ lie (vr P c n) n (((P (s j)).1 + (P (s (j + 1))).1) / 2, ((P (s j)).2 + (P (s (j + 1))).2) / 2) ≠ 0)) → XP mX9_passes 189 [(6, .int (nI k)), (5, .int (nI m)), (0, .ref 0), (3, .int (nI p))] [] (xwS S1) (sQ (fun r S' => r = none ∧ Gx S S' ∧ S'.1 0 29 = tI (goesP (vr P c n) n (P u) (P w)) ∧ (¬ goesP (vr P c n) n (P u) (P w) → S'.1 0 30 = tI (¬ alongP (vr P c n) n (P u) (P w))))) := by
    intro m s hst hnx hmid m15 μ
    induction μ with
    | zero =>
      intro k hk S1 h1
      obtain ⟨hg, hs, f29, f30⟩ := h1
      refine x_iload eX9_passes_189 rfl ?_
      refine x_iload eX9_passes_191 rfl ?_
      refine x_icmp_geN eX9_passes_193 (by omega) (by omega) (fun c_193 => ?_) (fun c_193 => ?_)
      · have ek : k = m := by omega
        subst ek
        have pr := pass_res hso hle hst hnx (mm := fun j => (((P (s j)).1 + (P (s (j + 1))).1) / 2, ((P (s j)).2 + (P (s (j + 1))).2) / 2)) hmid
        refine s_vret eX9_passes_275 rfl ⟨rfl, hg, by rw [f29]; exact tI_iff pr.1, fun _ => by rw [f30]; exact tI_iff pr.2⟩
      · omega
    | succ μ ih =>
      intro k hk S1 h1
      obtain ⟨hg, hs, f29, f30⟩ := h1
      refine x_iload eX9_passes_189 rfl ?_
      refine x_iload eX9_passes_191 rfl ?_
      refine x_icmp_geN eX9_passes_193 (by omega) (by omega) (fun c_193 => ?_) (fun c_193 => ?_)
      · omega
      · refine x_aload_n eX9_passes_196 rfl ?_
        refine x_aload_n eX9_passes_197 rfl ?_
        refine s_getR (k := 22) eX9_passes_198 fX9_79 rfl (by decide) (by decide) rfl ?_
        refine x_iload eX9_passes_201 rfl ?_
        refine s_iald eX9_passes_203 rfl (by decide) rfl (show _ < 16 by omega) ?_
        rw [(hs k (by omega)).1]
        refine x_aload_n eX9_passes_204 rfl ?_
        refine s_getR (k := 22) eX9_passes_205 fX9_79 rfl (by decide) (by decide) rfl ?_
        refine x_iload eX9_passes_208 rfl ?_
        refine x_iconst (v := nI 1) eX9_passes_210 (by decide) ?_
        first | refine x_iaddN eX9_passes_211 ?_ | refine x_iadd eX9_passes_211 ?_
        refine s_iald eX9_passes_212 rfl (by decide) rfl (show _ < 16 by omega) ?_
        rw [(hs (k + 1) (by omega)).1]
        refine s_callV0 (As := [_, _]) eX9_passes_213 kX9_253 ⟨by decide, by decide⟩ rfl (by decide) (by decide) rfl rfl (Nat.le_of_ble_eq_true rfl) (Nat.le_of_ble_eq_true rfl) (sp_X9_middle _ ((hp.gx hnc hg) _ (Or.inl (hs k (by omega)).2)) ((hp.gx hnc hg) _ (Or.inl (hs (k + 1) (by omega)).2)) (by have := (hs k (by omega)).2; omega) (by have := (hs (k + 1) (by omega)).2; omega)) (fun S_213 h_213 => ?_)
        obtain ⟨g1, pm, ef, ei⟩ := h_213
        have hg1 := hg.tr g1
        refine x_aload_n eX9_passes_216 rfl ?_
        refine x_iload_n eX9_passes_217 rfl ?_
        refine x_sipush (v := nI 201) eX9_passes_218 (by decide) ?_
        refine s_callV1 (As := [_, _]) eX9_passes_221 kX9_257 ⟨by decide, by decide⟩ rfl (by decide) (by decide) rfl rfl (Nat.le_of_ble_eq_true rfl) (Nat.le_of_ble_eq_true rfl) (sp_X9_lies _ (hp.gx hnc hg1) (h.gx hg1) hc pm) (fun S_221 h_221 => ?_)
        obtain ⟨ox, -⟩ := h_221
        have hg2 := hg1.tr ox.gx
        have e29 : S_221.1 0 29 = tI (∃ j, j < k ∧ lie (vr P c n) n (((P (s j)).1 + (P (s (j + 1))).1) / 2, ((P (s j)).2 + (P (s (j + 1))).2) / 2) = 1) := by rw [ox.2.1 _ (by decide), ef]; exact f29
        have e30 : S_221.1 0 30 = tI (∃ j, j < k ∧ lie (vr P c n) n (((P (s j)).1 + (P (s (j + 1))).1) / 2, ((P (s j)).2 + (P (s (j + 1))).2) / 2) ≠ 0) := by rw [ox.2.1 _ (by decide), ef]; exact f30
        refine x_istore (lv' := [_, _, _, _, _]) eX9_passes_224 (by decide) rfl ?_
        refine x_aload_n eX9_passes_226 rfl ?_
        refine x_aload_n eX9_passes_227 rfl ?_
        refine s_geti eX9_passes_228 fX9_244 rfl (by decide) (by decide) ?_
        rw [e29]
        refine x_if_neT eX9_passes_231 (fun c_231 => ?_) (fun c_231 => ?_)
        · refine x_iconst (v := nI 1) eX9_passes_240 (by decide) ?_
          refine x_goto eX9_passes_241 ?_
          refine s_putz eX9_passes_245 fX9_244 wX9_29 rfl (by decide) (by decide) (by first | exact Or.inl rfl | exact Or.inr rfl | exact bI_01 _) ?_
          refine x_aload_n eX9_passes_248 rfl ?_
          refine x_aload_n eX9_passes_249 rfl ?_
          refine s_geti eX9_passes_250 fX9_247 rfl (by decide) (by decide) ?_
          rw [show (setF S_221 0 (upd (S_221.1 0) 29 _)).1 0 30 = S_221.1 0 30 by rw [setF_at, upd_ne _ _ (by decide)]]
          rw [e30]
          refine x_if_neT eX9_passes_253 (fun c_253 => ?_) (fun c_253 => ?_)
          · refine x_iconst (v := nI 1) eX9_passes_261 (by decide) ?_
            refine x_goto eX9_passes_262 ?_
            refine s_putz eX9_passes_266 fX9_247 wX9_30 rfl (by decide) (by decide) (by first | exact Or.inl rfl | exact Or.inr rfl | exact bI_01 _) ?_
            refine x_iinc (lv' := [_, _, _, _, _]) eX9_passes_269 rfl (by first | exact nI_inc _ | exact rfl) (by decide) rfl ?_
            refine x_goto eX9_passes_272 ?_
            refine x_pick [0, 2, 3, 4] rfl ?_
            refine ih (k + 1) (by omega) _ ⟨hg2.tr ?_, fun j hj => ?_, ?_, ?_⟩
            · refine ⟨fun q hq => by rw [setF_ne _ _ hq, setF_ne _ _ hq], fun f a b d => by rw [setF_at, upd_ne _ _ b, setF_at, upd_ne _ _ a], fun _ _ => rfl, rfl, fun _ _ => rfl, fun _ _ _ _ => rfl⟩
            · show S_221.2.1 22 j = _ ∧ _
              rw [ox.2.2.1, ei]; exact hs j hj
            · rw [setF_at, upd_ne _ _ (by decide), setF_at, upd_at]
              first
                | (refine (tI_t ?_).symm; obtain ⟨j, hj, e⟩ := c_231; exact ⟨j, by omega, e⟩)
                | (refine (tI_t ?_).symm; exact ⟨k, by omega, c_237⟩)
                | exact (tI_f (ex_last c_231 c_237)).symm
            · rw [setF_at, upd_at]
              first
                | (refine (tI_t ?_).symm; obtain ⟨j, hj, e⟩ := c_253; exact ⟨j, by omega, e⟩)
                | (refine (tI_t ?_).symm; exact ⟨k, by omega, c_258⟩)
                | exact (tI_f (ex_last c_253 (fun e => e c_258))).symm
          · refine x_iload eX9_passes_256 rfl ?_
            refine x_if_eq eX9_passes_258 (fun c_258 => ?_) (fun c_258 => ?_)
            · refine x_iconst (v := nI 0) eX9_passes_265 (by decide) ?_
              refine s_putz eX9_passes_266 fX9_247 wX9_30 rfl (by decide) (by decide) (by first | exact Or.inl rfl | exact Or.inr rfl | exact bI_01 _) ?_
              refine x_iinc (lv' := [_, _, _, _, _]) eX9_passes_269 rfl (by first | exact nI_inc _ | exact rfl) (by decide) rfl ?_
              refine x_goto eX9_passes_272 ?_
              refine x_pick [0, 2, 3, 4] rfl ?_
              refine ih (k + 1) (by omega) _ ⟨hg2.tr ?_, fun j hj => ?_, ?_, ?_⟩
              · refine ⟨fun q hq => by rw [setF_ne _ _ hq, setF_ne _ _ hq], fun f a b d => by rw [setF_at, upd_ne _ _ b, setF_at, upd_ne _ _ a], fun _ _ => rfl, rfl, fun _ _ => rfl, fun _ _ _ _ => rfl⟩
              · show S_221.2.1 22 j = _ ∧ _
                rw [ox.2.2.1, ei]; exact hs j hj
              · rw [setF_at, upd_ne _ _ (by decide), setF_at, upd_at]
                first
                  | (refine (tI_t ?_).symm; obtain ⟨j, hj, e⟩ := c_231; exact ⟨j, by omega, e⟩)
                  | (refine (tI_t ?_).symm; exact ⟨k, by omega, c_237⟩)
                  | exact (tI_f (ex_last c_231 c_237)).symm
              · rw [setF_at, upd_at]
                first
                  | (refine (tI_t ?_).symm; obtain ⟨j, hj, e⟩ := c_253; exact ⟨j, by omega, e⟩)
                  | (refine (tI_t ?_).symm; exact ⟨k, by omega, c_258⟩)
                  | exact (tI_f (ex_last c_253 (fun e => e c_258))).symm
            · refine x_iconst (v := nI 1) eX9_passes_261 (by decide) ?_
              refine x_goto eX9_passes_262 ?_
              refine s_putz eX9_passes_266 fX9_247 wX9_30 rfl (by decide) (by decide) (by first | exact Or.inl rfl | exact Or.inr rfl | exact bI_01 _) ?_
              refine x_iinc (lv' := [_, _, _, _, _]) eX9_passes_269 rfl (by first | exact nI_inc _ | exact rfl) (by decide) rfl ?_
              refine x_goto eX9_passes_272 ?_
              refine x_pick [0, 2, 3, 4] rfl ?_
              refine ih (k + 1) (by omega) _ ⟨hg2.tr ?_, fun j hj => ?_, ?_, ?_⟩
              · refine ⟨fun q hq => by rw [setF_ne _ _ hq, setF_ne _ _ hq], fun f a b d => by rw [setF_at, upd_ne _ _ b, setF_at, upd_ne _ _ a], fun _ _ => rfl, rfl, fun _ _ => rfl, fun _ _ _ _ => rfl⟩
              · show S_221.2.1 22 j = _ ∧ _
                rw [ox.2.2.1, ei]; exact hs j hj
              · rw [setF_at, upd_ne _ _ (by decide), setF_at, upd_at]
                first
                  | (refine (tI_t ?_).symm; obtain ⟨j, hj, e⟩ := c_231; exact ⟨j, by omega, e⟩)
                  | (refine (tI_t ?_).symm; exact ⟨k, by omega, c_237⟩)
                  | exact (tI_f (ex_last c_231 c_237)).symm
              · rw [setF_at, upd_at]
                first
                  | (refine (tI_t ?_).symm; obtain ⟨j, hj, e⟩ := c_253; exact ⟨j, by omega, e⟩)
                  | (refine (tI_t ?_).symm; exact ⟨k, by omega, c_258⟩)
                  | exact (tI_f (ex_last c_253 (fun e => e c_258))).symm
        · refine x_iload eX9_passes_234 rfl ?_
          refine x_iconst (v := nI 1) eX9_passes_236 (by decide) ?_
          refine x_icmp_ne eX9_passes_237 (fun c_237 => ?_) (fun c_237 => ?_)
          · refine x_iconst (v := nI 0) eX9_passes_244 (by decide) ?_
            refine s_putz eX9_passes_245 fX9_244 wX9_29 rfl (by decide) (by decide) (by first | exact Or.inl rfl | exact Or.inr rfl | exact bI_01 _) ?_
            refine x_aload_n eX9_passes_248 rfl ?_
            refine x_aload_n eX9_passes_249 rfl ?_
            refine s_geti eX9_passes_250 fX9_247 rfl (by decide) (by decide) ?_
            rw [show (setF S_221 0 (upd (S_221.1 0) 29 _)).1 0 30 = S_221.1 0 30 by rw [setF_at, upd_ne _ _ (by decide)]]
            rw [e30]
            refine x_if_neT eX9_passes_253 (fun c_253 => ?_) (fun c_253 => ?_)
            · refine x_iconst (v := nI 1) eX9_passes_261 (by decide) ?_
              refine x_goto eX9_passes_262 ?_
              refine s_putz eX9_passes_266 fX9_247 wX9_30 rfl (by decide) (by decide) (by first | exact Or.inl rfl | exact Or.inr rfl | exact bI_01 _) ?_
              refine x_iinc (lv' := [_, _, _, _, _]) eX9_passes_269 rfl (by first | exact nI_inc _ | exact rfl) (by decide) rfl ?_
              refine x_goto eX9_passes_272 ?_
              refine x_pick [0, 2, 3, 4] rfl ?_
              refine ih (k + 1) (by omega) _ ⟨hg2.tr ?_, fun j hj => ?_, ?_, ?_⟩
              · refine ⟨fun q hq => by rw [setF_ne _ _ hq, setF_ne _ _ hq], fun f a b d => by rw [setF_at, upd_ne _ _ b, setF_at, upd_ne _ _ a], fun _ _ => rfl, rfl, fun _ _ => rfl, fun _ _ _ _ => rfl⟩
              · show S_221.2.1 22 j = _ ∧ _
                rw [ox.2.2.1, ei]; exact hs j hj
              · rw [setF_at, upd_ne _ _ (by decide), setF_at, upd_at]
                first
                  | (refine (tI_t ?_).symm; obtain ⟨j, hj, e⟩ := c_231; exact ⟨j, by omega, e⟩)
                  | (refine (tI_t ?_).symm; exact ⟨k, by omega, c_237⟩)
                  | exact (tI_f (ex_last c_231 c_237)).symm
              · rw [setF_at, upd_at]
                first
                  | (refine (tI_t ?_).symm; obtain ⟨j, hj, e⟩ := c_253; exact ⟨j, by omega, e⟩)
                  | (refine (tI_t ?_).symm; exact ⟨k, by omega, c_258⟩)
                  | exact (tI_f (ex_last c_253 (fun e => e c_258))).symm
            · refine x_iload eX9_passes_256 rfl ?_
              refine x_if_eq eX9_passes_258 (fun c_258 => ?_) (fun c_258 => ?_)
              · refine x_iconst (v := nI 0) eX9_passes_265 (by decide) ?_
                refine s_putz eX9_passes_266 fX9_247 wX9_30 rfl (by decide) (by decide) (by first | exact Or.inl rfl | exact Or.inr rfl | exact bI_01 _) ?_
                refine x_iinc (lv' := [_, _, _, _, _]) eX9_passes_269 rfl (by first | exact nI_inc _ | exact rfl) (by decide) rfl ?_
                refine x_goto eX9_passes_272 ?_
                refine x_pick [0, 2, 3, 4] rfl ?_
                refine ih (k + 1) (by omega) _ ⟨hg2.tr ?_, fun j hj => ?_, ?_, ?_⟩
                · refine ⟨fun q hq => by rw [setF_ne _ _ hq, setF_ne _ _ hq], fun f a b d => by rw [setF_at, upd_ne _ _ b, setF_at, upd_ne _ _ a], fun _ _ => rfl, rfl, fun _ _ => rfl, fun _ _ _ _ => rfl⟩
                · show S_221.2.1 22 j = _ ∧ _
                  rw [ox.2.2.1, ei]; exact hs j hj
                · rw [setF_at, upd_ne _ _ (by decide), setF_at, upd_at]
                  first
                    | (refine (tI_t ?_).symm; obtain ⟨j, hj, e⟩ := c_231; exact ⟨j, by omega, e⟩)
                    | (refine (tI_t ?_).symm; exact ⟨k, by omega, c_237⟩)
                    | exact (tI_f (ex_last c_231 c_237)).symm
                · rw [setF_at, upd_at]
                  first
                    | (refine (tI_t ?_).symm; obtain ⟨j, hj, e⟩ := c_253; exact ⟨j, by omega, e⟩)
                    | (refine (tI_t ?_).symm; exact ⟨k, by omega, c_258⟩)
                    | exact (tI_f (ex_last c_253 (fun e => e c_258))).symm
              · refine x_iconst (v := nI 1) eX9_passes_261 (by decide) ?_
                refine x_goto eX9_passes_262 ?_
                refine s_putz eX9_passes_266 fX9_247 wX9_30 rfl (by decide) (by decide) (by first | exact Or.inl rfl | exact Or.inr rfl | exact bI_01 _) ?_
                refine x_iinc (lv' := [_, _, _, _, _]) eX9_passes_269 rfl (by first | exact nI_inc _ | exact rfl) (by decide) rfl ?_
                refine x_goto eX9_passes_272 ?_
                refine x_pick [0, 2, 3, 4] rfl ?_
                refine ih (k + 1) (by omega) _ ⟨hg2.tr ?_, fun j hj => ?_, ?_, ?_⟩
                · refine ⟨fun q hq => by rw [setF_ne _ _ hq, setF_ne _ _ hq], fun f a b d => by rw [setF_at, upd_ne _ _ b, setF_at, upd_ne _ _ a], fun _ _ => rfl, rfl, fun _ _ => rfl, fun _ _ _ _ => rfl⟩
                · show S_221.2.1 22 j = _ ∧ _
                  rw [ox.2.2.1, ei]; exact hs j hj
                · rw [setF_at, upd_ne _ _ (by decide), setF_at, upd_at]
                  first
                    | (refine (tI_t ?_).symm; obtain ⟨j, hj, e⟩ := c_231; exact ⟨j, by omega, e⟩)
                    | (refine (tI_t ?_).symm; exact ⟨k, by omega, c_237⟩)
                    | exact (tI_f (ex_last c_231 c_237)).symm
                · rw [setF_at, upd_at]
                  first
                    | (refine (tI_t ?_).symm; obtain ⟨j, hj, e⟩ := c_253; exact ⟨j, by omega, e⟩)
                    | (refine (tI_t ?_).symm; exact ⟨k, by omega, c_258⟩)
                    | exact (tI_f (ex_last c_253 (fun e => e c_258))).symm
          · refine x_iconst (v := nI 1) eX9_passes_240 (by decide) ?_
            refine x_goto eX9_passes_241 ?_
            refine s_putz eX9_passes_245 fX9_244 wX9_29 rfl (by decide) (by decide) (by first | exact Or.inl rfl | exact Or.inr rfl | exact bI_01 _) ?_
            refine x_aload_n eX9_passes_248 rfl ?_
            refine x_aload_n eX9_passes_249 rfl ?_
            refine s_geti eX9_passes_250 fX9_247 rfl (by decide) (by decide) ?_
            rw [show (setF S_221 0 (upd (S_221.1 0) 29 _)).1 0 30 = S_221.1 0 30 by rw [setF_at, upd_ne _ _ (by decide)]]
            rw [e30]
            refine x_if_neT eX9_passes_253 (fun c_253 => ?_) (fun c_253 => ?_)
            · refine x_iconst (v := nI 1) eX9_passes_261 (by decide) ?_
              refine x_goto eX9_passes_262 ?_
              refine s_putz eX9_passes_266 fX9_247 wX9_30 rfl (by decide) (by decide) (by first | exact Or.inl rfl | exact Or.inr rfl | exact bI_01 _) ?_
              refine x_iinc (lv' := [_, _, _, _, _]) eX9_passes_269 rfl (by first | exact nI_inc _ | exact rfl) (by decide) rfl ?_
              refine x_goto eX9_passes_272 ?_
              refine x_pick [0, 2, 3, 4] rfl ?_
              refine ih (k + 1) (by omega) _ ⟨hg2.tr ?_, fun j hj => ?_, ?_, ?_⟩
              · refine ⟨fun q hq => by rw [setF_ne _ _ hq, setF_ne _ _ hq], fun f a b d => by rw [setF_at, upd_ne _ _ b, setF_at, upd_ne _ _ a], fun _ _ => rfl, rfl, fun _ _ => rfl, fun _ _ _ _ => rfl⟩
              · show S_221.2.1 22 j = _ ∧ _
                rw [ox.2.2.1, ei]; exact hs j hj
              · rw [setF_at, upd_ne _ _ (by decide), setF_at, upd_at]
                first
                  | (refine (tI_t ?_).symm; obtain ⟨j, hj, e⟩ := c_231; exact ⟨j, by omega, e⟩)
                  | (refine (tI_t ?_).symm; exact ⟨k, by omega, c_237⟩)
                  | exact (tI_f (ex_last c_231 c_237)).symm
              · rw [setF_at, upd_at]
                first
                  | (refine (tI_t ?_).symm; obtain ⟨j, hj, e⟩ := c_253; exact ⟨j, by omega, e⟩)
                  | (refine (tI_t ?_).symm; exact ⟨k, by omega, c_258⟩)
                  | exact (tI_f (ex_last c_253 (fun e => e c_258))).symm
            · refine x_iload eX9_passes_256 rfl ?_
              refine x_if_eq eX9_passes_258 (fun c_258 => ?_) (fun c_258 => ?_)
              · refine x_iconst (v := nI 0) eX9_passes_265 (by decide) ?_
                refine s_putz eX9_passes_266 fX9_247 wX9_30 rfl (by decide) (by decide) (by first | exact Or.inl rfl | exact Or.inr rfl | exact bI_01 _) ?_
                refine x_iinc (lv' := [_, _, _, _, _]) eX9_passes_269 rfl (by first | exact nI_inc _ | exact rfl) (by decide) rfl ?_
                refine x_goto eX9_passes_272 ?_
                refine x_pick [0, 2, 3, 4] rfl ?_
                refine ih (k + 1) (by omega) _ ⟨hg2.tr ?_, fun j hj => ?_, ?_, ?_⟩
                · refine ⟨fun q hq => by rw [setF_ne _ _ hq, setF_ne _ _ hq], fun f a b d => by rw [setF_at, upd_ne _ _ b, setF_at, upd_ne _ _ a], fun _ _ => rfl, rfl, fun _ _ => rfl, fun _ _ _ _ => rfl⟩
                · show S_221.2.1 22 j = _ ∧ _
                  rw [ox.2.2.1, ei]; exact hs j hj
                · rw [setF_at, upd_ne _ _ (by decide), setF_at, upd_at]
                  first
                    | (refine (tI_t ?_).symm; obtain ⟨j, hj, e⟩ := c_231; exact ⟨j, by omega, e⟩)
                    | (refine (tI_t ?_).symm; exact ⟨k, by omega, c_237⟩)
                    | exact (tI_f (ex_last c_231 c_237)).symm
                · rw [setF_at, upd_at]
                  first
                    | (refine (tI_t ?_).symm; obtain ⟨j, hj, e⟩ := c_253; exact ⟨j, by omega, e⟩)
                    | (refine (tI_t ?_).symm; exact ⟨k, by omega, c_258⟩)
                    | exact (tI_f (ex_last c_253 (fun e => e c_258))).symm
              · refine x_iconst (v := nI 1) eX9_passes_261 (by decide) ?_
                refine x_goto eX9_passes_262 ?_
                refine s_putz eX9_passes_266 fX9_247 wX9_30 rfl (by decide) (by decide) (by first | exact Or.inl rfl | exact Or.inr rfl | exact bI_01 _) ?_
                refine x_iinc (lv' := [_, _, _, _, _]) eX9_passes_269 rfl (by first | exact nI_inc _ | exact rfl) (by decide) rfl ?_
                refine x_goto eX9_passes_272 ?_
                refine x_pick [0, 2, 3, 4] rfl ?_
                refine ih (k + 1) (by omega) _ ⟨hg2.tr ?_, fun j hj => ?_, ?_, ?_⟩
                · refine ⟨fun q hq => by rw [setF_ne _ _ hq, setF_ne _ _ hq], fun f a b d => by rw [setF_at, upd_ne _ _ b, setF_at, upd_ne _ _ a], fun _ _ => rfl, rfl, fun _ _ => rfl, fun _ _ _ _ => rfl⟩
                · show S_221.2.1 22 j = _ ∧ _
                  rw [ox.2.2.1, ei]; exact hs j hj
                · rw [setF_at, upd_ne _ _ (by decide), setF_at, upd_at]
                  first
                    | (refine (tI_t ?_).symm; obtain ⟨j, hj, e⟩ := c_231; exact ⟨j, by omega, e⟩)
                    | (refine (tI_t ?_).symm; exact ⟨k, by omega, c_237⟩)
                    | exact (tI_f (ex_last c_231 c_237)).symm
                · rw [setF_at, upd_at]
                  first
                    | (refine (tI_t ?_).symm; obtain ⟨j, hj, e⟩ := c_253; exact ⟨j, by omega, e⟩)
                    | (refine (tI_t ?_).symm; exact ⟨k, by omega, c_258⟩)
                    | exact (tI_f (ex_last c_253 (fun e => e c_258))).symm
  have loop : ∀ μ a, a + μ = n → ∀ m s, ∀ S1, pinv S S1 nc n P c (P u) (P w) a m s → XP mX9_passes 34 [(6, .int (nI a)), (5, .int (nI (m + 1))), (4, .int (nI n)), (0, .ref 0), (1, .int (nI u)), (2, .int (nI w)), (3, .int (nI p))] [] (xwS S1) (sQ (fun r S' => r = none ∧ Gx S S' ∧ S'.1 0 29 = tI (goesP (vr P c n) n (P u) (P w)) ∧ (¬ goesP (vr P c n) n (P u) (P w) → S'.1 0 30 = tI (¬ alongP (vr P c n) n (P u) (P w))))) := by
    intro μ
    induction μ with
    | zero =>
      intro a ha m s S1 hinv
      obtain ⟨h1, h2, h3, h4, h5, h6, h7, h8, h9⟩ := hinv
      have ea : a = n := by omega
      subst ea
      refine x_iload eX9_passes_34 rfl ?_
      refine x_iload eX9_passes_36 rfl ?_
      refine x_icmp_geN eX9_passes_38 (by omega) (by omega) (fun c_38 => ?_) (fun c_38 => ?_)
      · refine x_aload_n eX9_passes_178 rfl ?_
        refine s_getR (k := 22) eX9_passes_179 fX9_79 rfl (by decide) (by decide) rfl ?_
        refine x_iload eX9_passes_182 rfl ?_
        refine x_iload_n eX9_passes_184 rfl ?_
        refine s_iast eX9_passes_185 rfl (by decide) rfl (show _ < 16 by omega) ?_
        refine x_iconst (v := nI 0) eX9_passes_186 (by decide) ?_
        refine x_istore (lv' := [_, _, _, _, _, _, _]) eX9_passes_187 (by decide) rfl ?_
        refine x_pick [0, 1, 3, 6] rfl ?_
        obtain ⟨s2, e2⟩ : ∃ s2 : Nat → Nat, s2 = fun j => if j = m + 1 then w else s j := ⟨_, rfl⟩
        have s2l : ∀ j, j ≤ m → s2 j = s j := fun j hj => by rw [e2]; exact if_neg (by omega)
        have s2m : s2 (m + 1) = w := by rw [e2]; exact if_pos rfl
        have sl : ∀ j, j ≤ m + 1 → s2 j < nc := fun j hj => by
          by_cases q : j = m + 1
          · rw [q, s2m]; exact hw
          · rw [s2l j (by omega)]; exact (h4 j (by omega)).2
        have per : ∀ i, ∃ i', i' < a ∧ vr P c a i = vr P c a i' := fun i => ⟨i % a, Nat.mod_lt _ n0, vr_mod P c a i⟩
        have hst : stopsOf (vr P c a) (P u) (P w) (m + 1) (fun j => P (s2 j)) := srt_end h6 (fun j a1 a2 => by obtain ⟨i, hi, e⟩ := h7 j a1 a2; exact ⟨i, by show P (s j) = P (c (i % a)); rw [e, Nat.mod_eq_of_lt hi]⟩) (fun i b n1 n2 => by obtain ⟨i2, hi2, e⟩ := per i; rw [e] at b n1 n2 ⊢; exact h8 i2 hi2 b n1 n2) (fun j hj => by show P (s2 j) = P (s j); rw [s2l j hj]) (by show P (s2 (m + 1)) = P w; rw [s2m])
        refine loop2 (m + 1) s2 hst h9 (fun j hj => ?_) (by omega) (m + 1) 0 (by omega) _ ⟨h1.tr ⟨fun _ _ => rfl, fun _ _ _ _ => rfl, fun q hq => setI_ne _ _ hq, rfl, fun _ _ => rfl, fun _ _ _ _ => rfl⟩, fun j hj => ?_, ?_, ?_⟩
        · have x1 := hev _ (sl j (by omega))
          have x2 := hev _ (sl (j + 1) (by omega))
          rw [x1, x2]
          constructor <;> simp only [scP] <;> omega
        · refine ⟨?_, sl j hj⟩
          rw [setI_at]
          by_cases q : j = m + 1
          · subst q; rw [upd_at, s2m]
          · rw [upd_ne _ _ q, s2l j (by omega)]; exact (h4 j (by omega)).1
        · show S1.1 0 29 = _
          rw [h2]; exact (tI_f (fun ⟨j, hj, _⟩ => by omega)).symm
        · show S1.1 0 30 = _
          rw [h3]; exact (tI_f (fun ⟨j, hj, _⟩ => by omega)).symm
      · omega
    | succ μ oh =>
      intro a ha m s S1 hinv
      have hr := h.gx hinv.1
      have hp0 := hp.gx hnc hinv.1
      have lc := h.lt a
      have m5 := hinv.2.2.2.2.1
      have adj : c (a % n) ≠ c ((a + 1) % n) := fun e => by
        have e2 := hcd _ _ (Nat.mod_lt _ n0) (Nat.mod_lt _ n0) e
        exact next_ne hso a (by show P (c (a % n)) = P (c ((a + 1) % n)); rw [e2])
      have cont : ∀ S1', Lx [5, 6, 7] S1 S1' → comP (P u) (P w) (P (c (a % n))) (P (c ((a + 1) % n))) ≠ nI 1 → onP (P u) (P w) (P (c (a % n))) = true → c (a % n) ≠ u → c (a % n) ≠ w → XP mX9_passes 113 [(9, .int (nI (m + 1))), (7, .int (nI (c (a % n)))), (6, .int (nI a)), (5, .int (nI (m + 1))), (4, .int (nI n)), (0, .ref 0), (1, .int (nI u)), (2, .int (nI w)), (3, .int (nI p))] [] (xwS S1') (sQ (fun r S' => r = none ∧ Gx S S' ∧ S'.1 0 29 = tI (goesP (vr P c n) n (P u) (P w)) ∧ (¬ goesP (vr P c n) n (P u) (P w) → S'.1 0 30 = tI (¬ alongP (vr P c n) n (P u) (P w))))) := by
       intro S1' XX hcx0 hon0 hau0 haw0
       have hcx : comP (P u) (P w) (vr P c n a) (vr P c n (a + 1)) ≠ 1 := hcx0
       have hon : bet (P u) (P w) (vr P c n a) := bet_on.mp hon0
       have nau : vr P c n a ≠ P u := fun e => hau0 (hinj _ _ (hc _ (Nat.mod_lt _ n0)) hu e)
       have naw : vr P c n a ≠ P w := fun e => haw0 (hinj _ _ (hc _ (Nat.mod_lt _ n0)) hw e)
       have hp1 : mps S1' nc P := fun x hx => (hp0 x hx).mv XX (by decide) (by decide)
       have hinv : pinv S S1' nc n P c (P u) (P w) a m s := ⟨hinv.1.tr XX.gx, by rw [XX.1]; exact hinv.2.1, by rw [XX.1]; exact hinv.2.2.1, fun j hj => by rw [XX.2.1]; exact hinv.2.2.2.1 j hj, hinv.2.2.2.2⟩
       have inner : ∀ k, 0 < k → k ≤ m + 1 → ∀ S2, (∀ q, q ≠ 22 → S2.2.1 q = S1'.2.1 q) ∧ S2.1 = S1'.1 ∧ S2.2.2 = S1'.2.2 ∧ (∀ j, j < k → S2.2.1 22 j = nI (s j)) ∧ (∀ j, k < j → j ≤ m + 1 → S2.2.1 22 j = nI (s (j - 1))) ∧ (∀ j, k ≤ j → j ≤ m → bet (P u) (P (s j)) (vr P c n a)) → XP mX9_passes 113 [(9, .int (nI k)), (7, .int (nI (c (a % n)))), (6, .int (nI a)), (5, .int (nI (m + 1))), (4, .int (nI n)), (0, .ref 0), (1, .int (nI u)), (2, .int (nI w)), (3, .int (nI p))] [] (xwS S2) (sQ (fun r S' => r = none ∧ Gx S S' ∧ S'.1 0 29 = tI (goesP (vr P c n) n (P u) (P w)) ∧ (¬ goesP (vr P c n) n (P u) (P w) → S'.1 0 30 = tI (¬ alongP (vr P c n) n (P u) (P w))))) := by
         intro k
         have fin : ∀ k, 0 < k → k ≤ m + 1 → (k = 1 ∨ ¬ bet (P u) (P (s (k - 1))) (vr P c n a)) → ∀ S2, (∀ q, q ≠ 22 → S2.2.1 q = S1'.2.1 q) ∧ S2.1 = S1'.1 ∧ S2.2.2 = S1'.2.2 ∧ (∀ j, j < k → S2.2.1 22 j = nI (s j)) ∧ (∀ j, k < j → j ≤ m + 1 → S2.2.1 22 j = nI (s (j - 1))) ∧ (∀ j, k ≤ j → j ≤ m → bet (P u) (P (s j)) (vr P c n a)) → XP mX9_passes 160 [(9, .int (nI k)), (7, .int (nI (c (a % n)))), (6, .int (nI a)), (5, .int (nI (m + 1))), (4, .int (nI n)), (0, .ref 0), (1, .int (nI u)), (2, .int (nI w)), (3, .int (nI p))] [] (xwS S2) (sQ (fun r S' => r = none ∧ Gx S S' ∧ S'.1 0 29 = tI (goesP (vr P c n) n (P u) (P w)) ∧ (¬ goesP (vr P c n) n (P u) (P w) → S'.1 0 30 = tI (¬ alongP (vr P c n) n (P u) (P w))))) := by
           intro k k0 km hk S2 hi
           obtain ⟨i1, i2, i3, i4, i5, i6⟩ := hi
           refine x_aload_n eX9_passes_160 rfl ?_
           refine s_getR (k := 22) eX9_passes_161 fX9_79 rfl (by decide) (by decide) rfl ?_
           refine x_iload eX9_passes_164 rfl ?_
           refine x_iload eX9_passes_166 rfl ?_
           refine s_iast eX9_passes_168 rfl (by decide) rfl (show _ < 16 by omega) ?_
           refine x_iinc (lv' := [_, _, _, _, _, _, _, _, _]) eX9_passes_169 rfl (by first | exact nI_inc _ | exact rfl) (by decide) rfl ?_
           refine x_iinc (lv' := [_, _, _, _, _, _, _, _, _]) eX9_passes_172 rfl (by first | exact nI_inc _ | exact rfl) (by decide) rfl ?_
           refine x_goto eX9_passes_175 ?_
           refine x_pick [0, 1, 4, 5, 6, 7, 8] rfl ?_
           obtain ⟨h1, h2, h3, h4, h5, h6, h7, h8, h9⟩ := hinv
           refine oh (a + 1) (by omega) (m + 1) (insN s k (c (a % n))) _ ⟨h1.tr ⟨fun q hq => by show S2.1 q = _; rw [i2], fun f _ _ _ => by show S2.1 0 f = _; rw [i2], fun q hq => by rw [setI_ne _ _ hq]; exact i1 q hq, by show S2.2.2.2 = _; rw [i3], fun q _ => by show S2.2.2.1 q = _; rw [i3], fun q j _ _ => by show S2.2.2.1 q j = _; rw [i3]⟩, by show S2.1 0 29 = 0; rw [i2]; exact h2, by show S2.1 0 30 = 0; rw [i2]; exact h3, fun j hj => ?_, by omega, ?_, fun j a1 a2 => ?_, fun i hi b n1 n2 => ?_, fun k hk => ?_⟩
           · rw [setI_at]
             unfold insN
             by_cases q1 : j < k
             · rw [if_pos q1, upd_ne _ _ (by omega), i4 j q1]; exact ⟨rfl, (h4 j (by omega)).2⟩
             · rw [if_neg q1]
               by_cases q2 : j = k
               · subst q2; rw [if_pos rfl, upd_at]; exact ⟨rfl, hc _ (Nat.mod_lt _ n0)⟩
               · rw [if_neg q2, upd_ne _ _ q2, i5 j (by omega) (by omega)]; exact ⟨rfl, (h4 (j - 1) (by omega)).2⟩
           · rw [insN_P]
             refine srt_ins h6 hon naw (fun j hj e => ?_) k0 km (srt_place h6 hon k0 km hk) i6
             by_cases j0 : j = 0
             · subst j0; exact nau (e.trans h6.1)
             · obtain ⟨i, hi, e2⟩ := h7 j (by omega) hj
               have e3 := hinj _ _ (hc _ (Nat.mod_lt _ n0)) (by rw [e2]; exact hc i (by omega)) e
               rw [e2, Nat.mod_eq_of_lt (show a < n by omega)] at e3
               have := hcd a i (by omega) (by omega) e3
               omega
           · unfold insN
             by_cases q1 : j < k
             · rw [if_pos q1]; obtain ⟨i, hi, e⟩ := h7 j a1 (by omega); exact ⟨i, by omega, e⟩
             · rw [if_neg q1]
               by_cases q2 : j = k
               · rw [if_pos q2]; exact ⟨a, by omega, by rw [Nat.mod_eq_of_lt (show a < n by omega)]⟩
               · rw [if_neg q2]; obtain ⟨i, hi, e⟩ := h7 (j - 1) (by omega) (by omega); exact ⟨i, by omega, e⟩
           · by_cases q : i = a
             · subst q; exact ⟨k, by omega, by unfold insN; rw [if_neg (by omega), if_pos rfl]; rfl⟩
             · obtain ⟨j, hj, e⟩ := h8 i (by omega) b n1 n2
               by_cases q1 : j < k
               · exact ⟨j, by omega, by unfold insN; rw [if_pos q1]; exact e⟩
               · exact ⟨j + 1, by omega, by unfold insN; rw [if_neg (by omega), if_neg (by omega)]; exact e⟩
           · by_cases q : k = a
             · subst q; exact hcx
             · exact h9 k (by omega)
         induction k with
         | zero => intro z; omega
         | succ k ih =>
           intro _ km S2 hi
           by_cases k1 : k = 0
           · subst k1
             refine x_iload eX9_passes_113 rfl ?_
             refine x_iconst (v := nI 1) eX9_passes_115 (by decide) ?_
             refine x_icmp_leN eX9_passes_116 (by omega) (by omega) (fun c_116 => ?_) (fun c_116 => ?_)
             · refine x_pick [0, 1, 2, 3, 4, 5, 6, 7, 8] rfl ?_
               exact fin 1 (by omega) (by omega) (Or.inl rfl) S2 hi
             · omega
           · obtain ⟨i1, i2, i3, i4, i5, i6⟩ := id hi
             have xx : ∀ x y, pt S1' x y → pt S2 x y := fun x y z => by
               obtain ⟨z1, z2, z3, z4, z5⟩ := z
               exact ⟨fun i hi => by show S2.2.2.1 3 _ = _; rw [i3]; exact z1 i hi, fun i hi => by show S2.2.2.1 4 _ = _; rw [i3]; exact z2 i hi, z3, z4, z5⟩
             have sk := (hinv.2.2.2.1 k (by omega)).2
             refine x_iload eX9_passes_113 rfl ?_
             refine x_iconst (v := nI 1) eX9_passes_115 (by decide) ?_
             refine x_icmp_leN eX9_passes_116 (by omega) (by omega) (fun c_116 => ?_) (fun c_116 => ?_)
             · omega
             · refine x_aload_n eX9_passes_119 rfl ?_
               refine x_iload_n eX9_passes_120 rfl ?_
               refine x_aload_n eX9_passes_121 rfl ?_
               refine s_getR (k := 22) eX9_passes_122 fX9_79 rfl (by decide) (by decide) rfl ?_
               refine x_iload eX9_passes_125 rfl ?_
               refine x_iconst (v := nI 1) eX9_passes_127 (by decide) ?_
               first | refine x_isubN eX9_passes_128 (by omega) ?_ | refine x_isub eX9_passes_128 ?_
               refine s_iald eX9_passes_129 rfl (by decide) rfl (show _ < 16 by omega) ?_
               rw [show k + 1 - 1 = k by omega, i4 k (by omega)]
               refine x_iload eX9_passes_130 rfl ?_
               refine s_callV1 (As := [_, _, _]) eX9_passes_132 kX9_166 ⟨by decide, by decide⟩ rfl (by decide) (by decide) rfl rfl (Nat.le_of_ble_eq_true rfl) (Nat.le_of_ble_eq_true rfl) (sp_X9_isBetween _ (xx _ _ (hp1 u (Or.inl hu))) (xx _ _ (hp1 _ (Or.inl sk))) (xx _ _ (hp1 _ (Or.inl (hc _ (Nat.mod_lt _ n0)))))) (fun S_132 h_132 => ?_)
               have h_132 := h_132.symm
               subst h_132
               refine x_if_eqB eX9_passes_135 (fun c_135 => ?_) (fun c_135 => ?_)
               · refine x_pick [0, 1, 2, 3, 4, 5, 6, 7, 8] rfl ?_
                 refine fin (k + 1) (by omega) (by omega) (Or.inr (fun z => ?_)) S2 hi
                 have := (bt_box z.1).mpr z.2
                 rw [show btP (P u) (P (s (k + 1 - 1))) (vr P c n a) = false from c_135] at this
                 exact absurd this (by decide)
               · refine x_aload_n eX9_passes_138 rfl ?_
                 refine s_getR (k := 22) eX9_passes_139 fX9_79 rfl (by decide) (by decide) rfl ?_
                 refine x_iload eX9_passes_142 rfl ?_
                 refine x_aload_n eX9_passes_144 rfl ?_
                 refine s_getR (k := 22) eX9_passes_145 fX9_79 rfl (by decide) (by decide) rfl ?_
                 refine x_iload eX9_passes_148 rfl ?_
                 refine x_iconst (v := nI 1) eX9_passes_150 (by decide) ?_
                 first | refine x_isubN eX9_passes_151 (by omega) ?_ | refine x_isub eX9_passes_151 ?_
                 refine s_iald eX9_passes_152 rfl (by decide) rfl (show _ < 16 by omega) ?_
                 rw [show k + 1 - 1 = k by omega, i4 k (by omega)]
                 refine s_iast eX9_passes_153 rfl (by decide) rfl (show _ < 16 by omega) ?_
                 refine x_iinc (lv' := [_, _, _, _, _, _, _, _, _]) eX9_passes_154 rfl (show nI (k + 1) + Int32.ofInt (-1) = nI k by rw [nI_dec, dI_s]) (by decide) rfl ?_
                 refine x_goto eX9_passes_157 ?_
                 refine x_pick [0, 1, 2, 3, 4, 5, 6, 7, 8] rfl ?_
                 refine ih (by omega) (by omega) _ ⟨fun q hq => by rw [setI_ne _ _ hq]; exact i1 q hq, i2, i3, fun j hj => ?_, fun j a1 a2 => ?_, fun j a1 a2 => ?_⟩
                 · rw [setI_at, upd_ne _ _ (by omega)]; exact i4 j (by omega)
                 · rw [setI_at]
                   by_cases q : j = k + 1
                   · subst q; rw [upd_at, show k + 1 - 1 = k by omega]
                   · rw [upd_ne _ _ q]; exact i5 j (by omega) a2
                 · by_cases q : j = k
                   · subst q; exact ⟨bet_line hne (hinv.2.2.2.2.2.1.2.2 j (by omega)).1 hon, (bt_box (bet_line hne (hinv.2.2.2.2.2.1.2.2 j (by omega)).1 hon)).mp c_135⟩
                   · exact i6 j (by omega) a2
       exact inner (m + 1) (by omega) (by omega) S1' ⟨fun _ _ => rfl, rfl, rfl, fun j hj => (hinv.2.2.2.1 j (by omega)).1, fun j a1 a2 => by omega, fun j a1 a2 => by omega⟩
      refine x_iload eX9_passes_34 rfl ?_
      refine x_iload eX9_passes_36 rfl ?_
      refine x_icmp_geN eX9_passes_38 (by omega) (by omega) (fun c_38 => ?_) (fun c_38 => ?_)
      · omega
      · refine x_aload_n eX9_passes_41 rfl ?_
        refine x_iload_n eX9_passes_42 rfl ?_
        refine x_iload eX9_passes_43 rfl ?_
        refine s_callV1 (As := [_, _]) eX9_passes_45 kX9_241 ⟨by decide, by decide⟩ rfl (by decide) (by decide) rfl rfl (Nat.le_of_ble_eq_true rfl) (Nat.le_of_ble_eq_true rfl) (sp_X9_of _ hr (by omega)) (fun S_45 h_45 => ?_)
        have h_45 := h_45.symm
        subst h_45
        refine x_istore (lv' := [_, _, _, _, _, _, _, _]) eX9_passes_48 (by decide) rfl ?_
        refine x_aload_n eX9_passes_50 rfl ?_
        refine x_iload_n eX9_passes_51 rfl ?_
        refine x_iload eX9_passes_52 rfl ?_
        refine x_iconst (v := nI 1) eX9_passes_54 (by decide) ?_
        first | refine x_iaddN eX9_passes_55 ?_ | refine x_iadd eX9_passes_55 ?_
        refine s_callV1 (As := [_, _]) eX9_passes_56 kX9_241 ⟨by decide, by decide⟩ rfl (by decide) (by decide) rfl rfl (Nat.le_of_ble_eq_true rfl) (Nat.le_of_ble_eq_true rfl) (sp_X9_of _ hr (by omega)) (fun S_56 h_56 => ?_)
        have h_56 := h_56.symm
        subst h_56
        refine x_istore (lv' := [_, _, _, _, _, _, _, _, _]) eX9_passes_59 (by decide) rfl ?_
        refine x_aload_n eX9_passes_61 rfl ?_
        refine x_iload_n eX9_passes_62 rfl ?_
        refine x_iload_n eX9_passes_63 rfl ?_
        refine x_iload eX9_passes_64 rfl ?_
        refine x_iload eX9_passes_66 rfl ?_
        refine s_callV1 (As := [_, _, _, _]) eX9_passes_68 kX9_204 ⟨by decide, by decide⟩ rfl (by decide) (by decide) rfl rfl (Nat.le_of_ble_eq_true rfl) (Nat.le_of_ble_eq_true rfl) (sp_X9_common _ (hp0 u (Or.inl hu)) (hp0 w (Or.inl hw)) (hp0 _ (Or.inl (hc _ (Nat.mod_lt _ n0)))) (hp0 _ (Or.inl (hc _ (Nat.mod_lt _ n0)))) huw adj) (fun S_68 h_68 => ?_)
        have XX := h_68
        refine x_iconst (v := nI 1) eX9_passes_71 (by decide) ?_
        refine x_icmp_ne eX9_passes_72 (fun c_72 => ?_) (fun c_72 => ?_)
        · refine x_iload eX9_passes_86 rfl ?_
          refine x_iload_n eX9_passes_88 rfl ?_
          refine x_icmp_eqN eX9_passes_89 (by omega) (by omega) (fun c_89 => ?_) (fun c_89 => ?_)
          · refine x_iinc (lv' := [_, _, _, _, _, _, _, _, _]) eX9_passes_172 rfl (by first | exact nI_inc _ | exact rfl) (by decide) rfl ?_
            refine x_goto eX9_passes_175 ?_
            refine x_pick [0, 3, 4, 5, 6, 7, 8] rfl ?_
            refine oh (a + 1) (by omega) m s _ (pinv_skip hinv XX c_72 (fun b n1 n2 => ?_))
            first
              | exact n1 (show vr P c n a = P u by show P (c (a % n)) = P u; rw [c_89])
              | exact n2 (show vr P c n a = P w by show P (c (a % n)) = P w; rw [c_95])
              | (have := bet_on.mpr b; rw [show onP (P u) (P w) (vr P c n a) = false from c_106] at this; exact absurd this (by decide))
          · refine x_iload eX9_passes_92 rfl ?_
            refine x_iload_n eX9_passes_94 rfl ?_
            refine x_icmp_eqN eX9_passes_95 (by omega) (by omega) (fun c_95 => ?_) (fun c_95 => ?_)
            · refine x_iinc (lv' := [_, _, _, _, _, _, _, _, _]) eX9_passes_172 rfl (by first | exact nI_inc _ | exact rfl) (by decide) rfl ?_
              refine x_goto eX9_passes_175 ?_
              refine x_pick [0, 3, 4, 5, 6, 7, 8] rfl ?_
              refine oh (a + 1) (by omega) m s _ (pinv_skip hinv XX c_72 (fun b n1 n2 => ?_))
              first
                | exact n1 (show vr P c n a = P u by show P (c (a % n)) = P u; rw [c_89])
                | exact n2 (show vr P c n a = P w by show P (c (a % n)) = P w; rw [c_95])
                | (have := bet_on.mpr b; rw [show onP (P u) (P w) (vr P c n a) = false from c_106] at this; exact absurd this (by decide))
            · refine x_aload_n eX9_passes_98 rfl ?_
              refine x_iload_n eX9_passes_99 rfl ?_
              refine x_iload_n eX9_passes_100 rfl ?_
              refine x_iload eX9_passes_101 rfl ?_
              refine s_callV1 (As := [_, _, _]) eX9_passes_103 kX9_250 ⟨by decide, by decide⟩ rfl (by decide) (by decide) rfl rfl (Nat.le_of_ble_eq_true rfl) (Nat.le_of_ble_eq_true rfl) (sp_X9_isOn _ ((hp0 u (Or.inl hu)).mv h_68 (by decide) (by decide)) ((hp0 w (Or.inl hw)).mv h_68 (by decide) (by decide)) ((hp0 _ (Or.inl (hc _ (Nat.mod_lt _ n0)))).mv h_68 (by decide) (by decide))) (fun S_103 h_103 => ?_)
              have XX := XX.tr h_103
              refine x_if_eqB eX9_passes_106 (fun c_106 => ?_) (fun c_106 => ?_)
              · refine x_iinc (lv' := [_, _, _, _, _, _, _, _, _]) eX9_passes_172 rfl (by first | exact nI_inc _ | exact rfl) (by decide) rfl ?_
                refine x_goto eX9_passes_175 ?_
                refine x_pick [0, 3, 4, 5, 6, 7, 8] rfl ?_
                refine oh (a + 1) (by omega) m s _ (pinv_skip hinv XX c_72 (fun b n1 n2 => ?_))
                first
                  | exact n1 (show vr P c n a = P u by show P (c (a % n)) = P u; rw [c_89])
                  | exact n2 (show vr P c n a = P w by show P (c (a % n)) = P w; rw [c_95])
                  | (have := bet_on.mpr b; rw [show onP (P u) (P w) (vr P c n a) = false from c_106] at this; exact absurd this (by decide))
              · refine x_iload eX9_passes_109 rfl ?_
                refine x_istore (lv' := [_, _, _, _, _, _, _, _, _, _]) eX9_passes_111 (by decide) rfl ?_
                refine x_pick [0, 2, 3, 4, 5, 6, 7, 8, 9] rfl ?_
                exact cont S_103 XX c_72 c_106 c_89 c_95
        · refine x_aload_n eX9_passes_75 rfl ?_
          refine x_iconst (v := nI 1) eX9_passes_76 (by decide) ?_
          refine s_putz eX9_passes_77 fX9_244 wX9_29 rfl (by decide) (by decide) (by first | exact Or.inl rfl | exact Or.inr rfl | exact bI_01 _) ?_
          refine x_aload_n eX9_passes_80 rfl ?_
          refine x_iconst (v := nI 1) eX9_passes_81 (by decide) ?_
          refine s_putz eX9_passes_82 fX9_247 wX9_30 rfl (by decide) (by decide) (by first | exact Or.inl rfl | exact Or.inr rfl | exact bI_01 _) ?_
          have gg : goesP (vr P c n) n (P u) (P w) := Or.inl ⟨a, by omega, c_72⟩
          refine s_vret eX9_passes_85 rfl ⟨rfl, (hinv.1.tr XX.gx).tr ?_, ?_, fun z => absurd gg z⟩
          · exact ⟨fun q hq => by rw [setF_ne _ _ hq, setF_ne _ _ hq], fun f x y z => by rw [setF_at, upd_ne _ _ y, setF_at, upd_ne _ _ x], fun _ _ => rfl, rfl, fun _ _ => rfl, fun _ _ _ _ => rfl⟩
          · rw [setF_at, upd_ne _ _ (by decide), setF_at, upd_at]; exact (tI_t gg).symm
  show XP _ _ [_, _, _, _] _ _ _
  refine x_aload_n eX9_passes_0 rfl ?_
  refine s_getR (k := 15) eX9_passes_1 fX9_58 rfl (by decide) (by decide) rfl ?_
  refine x_iload_n eX9_passes_4 rfl ?_
  refine s_iald eX9_passes_5 rfl (by decide) rfl (show _ < 60 by omega) ?_
  rw [h.2.2.2.1]
  refine x_istore (lv' := [_, _, _, _, _]) eX9_passes_6 (by decide) rfl ?_
  refine x_aload_n eX9_passes_8 rfl ?_
  refine x_iconst (v := nI 0) eX9_passes_9 (by decide) ?_
  refine s_putz eX9_passes_10 fX9_244 wX9_29 rfl (by decide) (by decide) (by first | exact Or.inl rfl | exact Or.inr rfl | exact bI_01 _) ?_
  refine x_aload_n eX9_passes_13 rfl ?_
  refine x_iconst (v := nI 0) eX9_passes_14 (by decide) ?_
  refine s_putz eX9_passes_15 fX9_247 wX9_30 rfl (by decide) (by decide) (by first | exact Or.inl rfl | exact Or.inr rfl | exact bI_01 _) ?_
  refine x_iconst (v := nI 0) eX9_passes_18 (by decide) ?_
  refine x_istore (lv' := [_, _, _, _, _, _]) eX9_passes_19 (by decide) rfl ?_
  refine x_aload_n eX9_passes_21 rfl ?_
  refine s_getR (k := 22) eX9_passes_22 fX9_79 rfl (by decide) (by decide) rfl ?_
  refine x_iconst (v := nI 0) eX9_passes_25 (by decide) ?_
  refine x_iload_n eX9_passes_26 rfl ?_
  refine s_iast eX9_passes_27 rfl (by decide) rfl (show _ < 16 by omega) ?_
  refine x_iconst (v := nI 1) eX9_passes_28 (by decide) ?_
  refine x_istore (lv' := [_, _, _, _, _, _]) eX9_passes_29 (by decide) rfl ?_
  refine x_iconst (v := nI 0) eX9_passes_31 (by decide) ?_
  refine x_istore (lv' := [_, _, _, _, _, _, _]) eX9_passes_32 (by decide) rfl ?_
  refine x_pick [0, 1, 2, 3, 4, 5, 6] rfl ?_
  refine loop n 0 (by omega) 0 (fun _ => u) _ ⟨?_, ?_, ?_, fun j hj => ?_, by omega, ⟨rfl, fun j k a1 a2 => by omega, fun k hk => ⟨bet_a _ _, hne⟩⟩, fun j a1 a2 => by omega, fun i hi => by omega, fun k hk => by omega⟩
  · exact ⟨fun q hq => by show (setF (setF S 0 _) 0 _).1 q = _; rw [setF_ne _ _ hq, setF_ne _ _ hq], fun f a b d => by show upd (upd (S.1 0) 29 (nI 0)) 30 (nI 0) f = _; rw [upd_ne _ _ b, upd_ne _ _ a], fun q hq => by rw [setI_ne _ _ hq]; rfl, rfl, fun _ _ => rfl, fun _ _ _ _ => rfl⟩
  · show upd (upd (S.1 0) 29 (nI 0)) 30 (nI 0) 29 = 0; rw [upd_ne _ _ (by decide), upd_at]; rfl
  · show upd (upd (S.1 0) 29 (nI 0)) 30 (nI 0) 30 = 0; rw [upd_at]; rfl
  · obtain rfl : j = 0 := by omega
    rw [setI_at]; exact ⟨upd_at _ _ _, hu⟩
