/-! ===== hull, both sides ===== -/
def srtd (P : Nat → Pt) (n : Nat) (f : Nat → Nat) : Prop := ∀ i i', i < i' → i' < n → ltP (P (f i)) (P (f i')) = true
theorem ins_pos {P : Nat → Pt} {f : Nat → Nat} {c : Nat} : ∀ n, srtd P n f → (∀ i, i < n → P (f i) ≠ P c) → ∃ k, k ≤ n ∧ (∀ i, i < k → ltP (P (f i)) (P c) = true) ∧ ∀ i, k ≤ i → i < n → ltP (P c) (P (f i)) = true := by
  intro n
  induction n with
  | zero => intro _ _; exact ⟨0, by omega, fun i h => by omega, fun i _ h => by omega⟩
  | succ n ih =>
    intro s ne
    rcases lt_tri (P (f n)) (P c) with z | z | z
    · refine ⟨n + 1, by omega, fun i hi => ?_, fun i h1 h2 => by omega⟩
      by_cases q : i = n
      · rw [q]; exact z
      · exact ltP_tr (s i n (by omega) (by omega)) z
    · exact absurd z (ne n (by omega))
    · obtain ⟨k, hk, a, b⟩ := ih (fun i i' h1 h2 => s i i' h1 (by omega)) (fun i hi => ne i (by omega))
      refine ⟨k, by omega, a, fun i h1 h2 => ?_⟩
      by_cases q : i = n
      · rw [q]; exact z
      · exact b i h1 (by omega)
theorem srt_ex {P : Nat → Pt} {In : Nat → Prop} : ∀ nc, (∀ s t, s < nc → t < nc → P s = P t → s = t) → ∃ n f, n ≤ nc ∧ (∀ x, (∃ i, i < n ∧ f i = x) ↔ (x < nc ∧ In x)) ∧ srtd P n f := by
  intro nc
  induction nc with
  | zero => intro _; exact ⟨0, (fun _ => 0), by omega, fun x => ⟨fun ⟨i, hi, _⟩ => by omega, fun h => by omega⟩, fun i i' h1 h2 => by omega⟩
  | succ nc ih =>
    intro inj
    obtain ⟨n, f, hn, mem, s⟩ := ih (fun a b h1 h2 => inj a b (by omega) (by omega))
    by_cases q : In nc
    · obtain ⟨k, hk, lo, up⟩ := ins_pos (c := nc) n s (fun i hi e => by
        have := (mem (f i)).mp ⟨i, hi, rfl⟩
        have := inj (f i) nc (by omega) (by omega) e
        omega)
      refine ⟨n + 1, insR f k nc, by omega, fun x => ?_, ins_srt s hk lo up⟩
      rw [ins_mem hk x, mem x]
      constructor
      · rintro (e | ⟨a, b⟩)
        · rw [e]; exact ⟨by omega, q⟩
        · exact ⟨by omega, b⟩
      · rintro ⟨a, b⟩
        by_cases e : x = nc
        · exact Or.inl e
        · exact Or.inr ⟨by omega, b⟩
    · refine ⟨n, f, by omega, fun x => ?_, s⟩
      rw [mem x]
      constructor
      · rintro ⟨a, b⟩; exact ⟨by omega, b⟩
      · rintro ⟨a, b⟩
        exact ⟨by have : x ≠ nc := fun e => q (e ▸ b)
                  omega, b⟩
theorem lt_2 (a b : Pt) : ltP (scP 2 a) (scP 2 b) = ltP a b := by
  unfold ltP scP
  apply decide_eq_decide.mpr
  constructor <;> intro h <;> dsimp only at * <;> omega
theorem fwd_cg {P Q : Nat → Pt} {f : Nat → Nat} {n : Nat} (srt : srtd P n f) (e : ∀ i, i < n → Q (f i) = P (f i)) : ∀ j, j ≤ n → fwd Q f j = fwd P f j := by
  intro j
  induction j with
  | zero => intro _; rfl
  | succ j ih =>
    intro hj
    have i1 := ih (by omega)
    have ep : pops Q (fwd P f j).2 (f j) 1 (fwd P f j).1 = pops P (fwd P f j).2 (f j) 1 (fwd P f j).1 := by
      by_cases q : j = 0
      · subst q; rfl
      · have mem := (fwd_HI srt j (by omega) (by omega)).2.2.2.2.2.2
        have er : ∀ i, i < (fwd P f j).1 → Q ((fwd P f j).2 i) = P ((fwd P f j).2 i) := fun i hi => by
          obtain ⟨m, hm, e1⟩ := mem i (by omega) hi
          rw [e1]; exact e m (by omega)
        exact pops_congr _ (fun _ _ => rfl) (fun a ha b hb => by rw [er a ha, er b hb, e j (by omega)])
    show cm Q (f j) 1 (fwd Q f j) = cm P (f j) 1 (fwd P f j)
    rw [i1]
    unfold cm
    rw [ep]
theorem bwd_cg {P Q : Nat → Pt} {f : Nat → Nat} {n nc : Nat} (n2 : 2 ≤ n) (srt : srtd P n f) (fc : ∀ i, i < n → f i < nc) (e : ∀ s, s < nc → Q s = P s) : ∀ j, j < n → bwd Q f n j = bwd P f n j := by
  have ef := fwd_cg (Q := Q) srt (fun i hi => e _ (fc i hi)) n (Nat.le_refl _)
  intro j
  induction j with
  | zero => intro _; exact ef
  | succ j ih =>
    intro hj
    have i1 := ih (by omega)
    have er : ∀ i, i < (bwd P f n j).1 → Q ((bwd P f n j).2 i) = P ((bwd P f n j).2 i) := fun i hi => e _ (bwd_nc n2 srt fc (by omega) i hi)
    have ep : pops Q (bwd P f n j).2 (f (n - 2 - j)) (fwd P f n).1 (bwd P f n j).1 = pops P (bwd P f n j).2 (f (n - 2 - j)) (fwd P f n).1 (bwd P f n j).1 := pops_congr _ (fun _ _ => rfl) (fun a ha b hb => by rw [er a ha, er b hb, e _ (fc _ (by omega))])
    show cm Q (f (n - 2 - j)) (fwd Q f n).1 (bwd Q f n j) = cm P (f (n - 2 - j)) (fwd P f n).1 (bwd P f n j)
    rw [i1, ef]
    unfold cm
    rw [ep]
def uH (X : LM) (k : Nat) (r : Nat → Nat) : LM := (X.1, X.2.1, X.2.2.1, X.2.2.2.1, X.2.2.2.2.1, (k, r))
theorem wf_uH {X : LM} (w : wf X) {k : Nat} {r : Nat → Nat} (hk : k ≤ 200) (hr : ∀ i, i < k → r i < xNc X) : wf (uH X k r) := ⟨w.1, w.2.1, w.2.2.1, w.2.2.2.1, w.2.2.2.2.1, w.2.2.2.2.2.1, hk, hr⟩
def MHx (S S' : xS) : Prop := Fx [0] [24, 25, 26] [5, 6, 7] [] S S' ∧ ∀ f, f ≠ 35 → S'.1 0 f = S.1 0 f
theorem RM_H {S S' : xS} {X : LM} (h : RM S X) (hx : MHx S S') {k : Nat} {r : Nat → Nat} (e4 : S'.1 0 35 = nI k) (er : ∀ i, i < k → S'.2.1 24 i = nI (r i)) : RM S' (uH X k r) := by
  obtain ⟨⟨p1, p2, T, p3⟩, ⟨d1, d2⟩, ⟨w1, w2, w3⟩, ⟨n1, n2⟩, ⟨k1, k2, k3⟩, -, -⟩ := h
  obtain ⟨hx, a⟩ := hx
  have em : ∀ {r q : Nat} {t : TB}, r + 4 < 24 → ment S r t q → ment S' r t q := fun {r q t} hr g => ⟨by rw [hx.2.1 _ (by simp; omega)]; exact g.1, fun z => by have := g.2 z; exact ⟨by rw [hx.2.1 _ (by simp; omega)]; exact this.1, by rw [hx.2.1 _ (by simp; omega)]; exact this.2.1, by rw [hx.2.1 _ (by simp; omega)]; exact this.2.2.1, fun i hi => by rw [hx.2.1 _ (by simp; omega)]; exact this.2.2.2 i hi⟩⟩
  refine ⟨⟨by rw [a _ (by decide)]; exact p1, fun s hs => ?_, T, p3.fx hx (by simp) (by simp)⟩, ⟨by rw [a _ (by decide)]; exact d1, fun i hi => by rw [hx.2.1 _ (by simp)]; exact d2 i hi⟩, ⟨by rw [a _ (by decide)]; exact w1, by rw [a _ (by decide)]; exact w2, by rw [a _ (by decide)]; exact w3⟩, ⟨by rw [a _ (by decide)]; exact n1, fun q hq => em (by decide) (n2 q hq)⟩, ⟨by rw [a _ (by decide)]; exact k1, fun j hj => by rw [hx.2.1 _ (by simp)]; exact k2 j hj, fun z q hq => em (by decide) (k3 z q hq)⟩, e4, er⟩
  have := p2 s hs
  exact ⟨by rw [hx.2.2.1 _ (by simp)]; exact this.1, by rw [hx.2.2.1 _ (by simp)]; exact this.2.1, this.2.2.fx hx (by simp) (by simp)⟩
theorem MHx.rf (S : xS) : MHx S S := ⟨Fx.rf _ _ _ _ _, fun _ _ => rfl⟩
theorem MHx.tr {S S1 S2 : xS} (h : MHx S S1) (g : MHx S1 S2) : MHx S S2 := ⟨h.1.tr g.1, fun f hf => (g.2 f hf).trans (h.2 f hf)⟩
theorem MHx.sI {S : xS} {p : Nat} {g : Nat → Int32} (h : p ∈ [24, 25, 26]) : MHx S (setI S p g) := ⟨Fx.sI h, fun _ _ => rfl⟩
theorem MHx.s35 {S : xS} {x : Int32} : MHx S (setF S 0 (upd (S.1 0) 35 x)) := ⟨Fx.sF (by simp), fun f hf => by rw [setF_at, upd_ne _ _ hf]⟩
theorem MHx.fr {S S' : xS} (h : MHx S S') : frM S S' := h.1.frM (by simp) (by simp) (by simp) (by simp)
theorem cm_MHx {S S' : xS} (h : Fx [0] [24] [5, 6, 7] [] S S') (g : ∀ f, f ≠ 35 → S'.1 0 f = S.1 0 f) : MHx S S' := ⟨h.mono (fun _ z => z) (fun p z => by simp at z ⊢; omega) (fun _ z => z) (fun _ z => z), g⟩
theorem MHx.pt {S S' : xS} (h : MHx S S') {s : Nat} {P : Pt} (g : pt S s P) : pt S' s P := g.fx h.1 (by simp) (by simp)

theorem m_hull5 {S : xS} {X : LM} (w : wf X) (h : RM S X) {l : Int32} {n : Nat} {f : Nat → Nat} (n2 : 2 ≤ n) (n200 : n ≤ 200) (fc : ∀ i, i < n → f i < xNc X) (srt : srtd (PX X) n f) : ∀ μ j, j + μ = n - 1 → ∀ S1, (MHx S S1 ∧ (∀ i, i < n → S1.2.1 25 i = nI (f i)) ∧ S1.1 0 35 = nI (bwd (PX X) f n j).1 ∧ ∀ i, i < (bwd (PX X) f n j).1 → S1.2.1 24 i = nI ((bwd (PX X) f n j).2 i)) → XP mX9_hull 239 [(4, .int (dI μ)), (3, .int (nI (fwd (PX X) f n).1)), (2, .int (nI n)), (0, .ref 0), (1, .int l)] [] (xwS S1) (sQ (fun r S' => r = some (.int (nI ((bwd (PX X) f n (n - 1)).1 - 1))) ∧ RM S' (uH X ((bwd (PX X) f n (n - 1)).1 - 1) (bwd (PX X) f n (n - 1)).2) ∧ frM S S')) := by
  have nc2 := w.1
  intro μ
  induction μ with
  | zero =>
    intro j hj S1 h1
    obtain ⟨hx, r25, e4, e24⟩ := h1
    obtain rfl : j = n - 1 := (by omega)
    have bd := bwd_bd (nc := xNc X) n2 srt fc n200 nc2 (show n - 1 < n by omega)
    rw [dI_0]
    refine x_iload eX9_hull_239 rfl ?_
    refine x_if_lt eX9_hull_241 (fun c_241 => ?_) (fun c_241 => ?_)
    · refine x_aload_n eX9_hull_262 rfl ?_
      refine x_dup eX9_hull_263 rfl ?_
      refine s_geti eX9_hull_264 fX9_109 rfl (by decide) (by decide) ?_
      rw [e4]
      refine x_iconst (v := nI 1) eX9_hull_267 (by decide) ?_
      first | refine x_isubN eX9_hull_268 (by omega) ?_ | refine x_isub eX9_hull_268 ?_
      refine s_puti eX9_hull_269 fX9_109 wX9_35 rfl (by decide) (by decide) ?_
      refine x_aload_n eX9_hull_272 rfl ?_
      refine s_geti eX9_hull_273 fX9_109 rfl (by decide) (by decide) ?_
      rw [setF_at, upd_at]
      exact s_iret eX9_hull_276 rfl rfl ⟨rfl, RM_H h (hx.tr MHx.s35) (by rw [setF_at, upd_at]) (fun i hi => e24 i (by omega)), (hx.tr MHx.s35).fr⟩
    · exact absurd (by decide) c_241
  | succ μ ih =>
    intro j hj S1 h1
    obtain ⟨hx, r25, e4, e24⟩ := h1
    have bd := bwd_bd (nc := xNc X) n2 srt fc n200 nc2 (show j < n by omega)
    rw [dI_s]
    refine x_iload eX9_hull_239 rfl ?_
    refine x_if_ltN eX9_hull_241 (by omega) ?_
    refine x_aload_n eX9_hull_244 rfl ?_
    refine x_aload_n eX9_hull_245 rfl ?_
    refine s_getR (k := 25) eX9_hull_246 fX9_91 rfl (by decide) (by decide) rfl ?_
    refine x_iload eX9_hull_249 rfl ?_
    refine s_iald eX9_hull_251 rfl (by decide) rfl (show _ < 200 by omega) ?_
    rw [r25 μ (by omega), show μ = n - 2 - j by omega]
    refine x_iload_n eX9_hull_252 rfl ?_
    refine s_callV0 (As := [_, _]) eX9_hull_253 kX9_303 ⟨by decide, by decide⟩ rfl (by decide) (by decide) rfl rfl (Nat.le_of_ble_eq_true rfl) (Nat.le_of_ble_eq_true rfl) (sp_X9_comes _ (nc := xNc X) (P := PX X) (fun s hs => hx.pt (h.1.2.1 s hs).2.2) e4 (fun i hi => ⟨e24 i hi, bwd_nc n2 srt fc (by omega) i hi⟩) (fc _ (by omega)) bd.1 bd.2.2.2 bd.2.2.1 (bwd_pop n2 srt fc nc2 (by omega))) (fun S_253 h_253 => ?_)
    obtain ⟨g1, g2, g3, g4⟩ := h_253
    refine x_iinc (lv' := [_, _, _, _, _]) eX9_hull_256 rfl (nI_dec _) (by decide) rfl ?_
    refine x_goto eX9_hull_259 ?_
    refine x_pick [0, 1, 2, 3, 4] rfl ?_
    rw [show n - 2 - j = μ by omega]
    exact ih (j + 1) (by omega) _ ⟨hx.tr (cm_MHx g1 g2), fun i hi => by rw [g1.2.1 25 (by simp)]; exact r25 i hi, g3, g4⟩
theorem m_hull4 {S : xS} {X : LM} (w : wf X) (h : RM S X) {l : Int32} {n : Nat} {f : Nat → Nat} (n2 : 2 ≤ n) (n200 : n ≤ 200) (fc : ∀ i, i < n → f i < xNc X) (srt : srtd (PX X) n f) (S0 : xS) (hx0 : MHx S S0) (r25 : ∀ i, i < n → S0.2.1 25 i = nI (f i)) (jv : Int32) : XP mX9_hull 200 [(3, .int jv), (2, .int (nI n)), (0, .ref 0), (1, .int l)] [] (xwS S0) (sQ (fun r S' => r = some (.int (nI ((bwd (PX X) f n (n - 1)).1 - 1))) ∧ RM S' (uH X ((bwd (PX X) f n (n - 1)).1 - 1) (bwd (PX X) f n (n - 1)).2) ∧ frM S S')) := by
  have nc2 := w.1
  have loop : ∀ μ j, j + μ = n → ∀ S1, (MHx S S1 ∧ (∀ i, i < n → S1.2.1 25 i = nI (f i)) ∧ S1.1 0 35 = nI (fwd (PX X) f j).1 ∧ ∀ i, i < (fwd (PX X) f j).1 → S1.2.1 24 i = nI ((fwd (PX X) f j).2 i)) → XP mX9_hull 207 [(3, .int (nI j)), (2, .int (nI n)), (0, .ref 0), (1, .int l)] [] (xwS S1) (sQ (fun r S' => r = some (.int (nI ((bwd (PX X) f n (n - 1)).1 - 1))) ∧ RM S' (uH X ((bwd (PX X) f n (n - 1)).1 - 1) (bwd (PX X) f n (n - 1)).2) ∧ frM S S')) := by
    intro μ
    induction μ with
    | zero =>
      intro j hk S1 h1
      obtain ⟨hx, r25, e4, e24⟩ := h1
      refine x_iload_n eX9_hull_207 rfl ?_
      refine x_iload_n eX9_hull_208 rfl ?_
      refine x_icmp_geN eX9_hull_209 (by omega) (by omega) (fun c_209 => ?_) (fun c_209 => ?_)
      · refine x_aload_n eX9_hull_229 rfl ?_
        obtain rfl : j = n := (by omega)
        refine s_geti eX9_hull_230 fX9_109 rfl (by decide) (by decide) ?_
        rw [e4]
        refine x_istore_n (lv' := [_, _, _, _]) eX9_hull_233 (by decide) rfl ?_
        refine x_iload_n eX9_hull_234 rfl ?_
        refine x_iconst (v := nI 2) eX9_hull_235 (by decide) ?_
        first | refine x_isubN eX9_hull_236 (by omega) ?_ | refine x_isub eX9_hull_236 ?_
        rw [show nI (j - 2) = dI (j - 1) by rw [show j - 1 = (j - 2) + 1 by omega, dI_s]]
        refine x_istore (lv' := [_, _, _, _, _]) eX9_hull_237 (by decide) rfl ?_
        refine x_pick [0, 1, 2, 3, 4] rfl ?_
        exact m_hull5 w h n2 n200 fc srt (j - 1) 0 (by omega) S1 ⟨hx, r25, e4, e24⟩
      · omega
    | succ μ ih =>
      intro j hk S1 h1
      obtain ⟨hx, r25, e4, e24⟩ := h1
      refine x_iload_n eX9_hull_207 rfl ?_
      refine x_iload_n eX9_hull_208 rfl ?_
      refine x_icmp_geN eX9_hull_209 (by omega) (by omega) (fun c_209 => ?_) (fun c_209 => ?_)
      · omega
      · have fl := fwd_le (PX X) f j
        have pl := pops_le (PX X) (fwd (PX X) f j).2 (f j) 1 (fwd (PX X) f j).1
        refine x_aload_n eX9_hull_212 rfl ?_
        refine x_aload_n eX9_hull_213 rfl ?_
        refine s_getR (k := 25) eX9_hull_214 fX9_91 rfl (by decide) (by decide) rfl ?_
        refine x_iload_n eX9_hull_217 rfl ?_
        refine s_iald eX9_hull_218 rfl (by decide) rfl (show _ < 200 by omega) ?_
        rw [r25 j (by omega)]
        refine x_iconst (v := nI 1) eX9_hull_219 (by decide) ?_
        refine s_callV0 (As := [_, _]) eX9_hull_220 kX9_303 ⟨by decide, by decide⟩ rfl (by decide) (by decide) rfl rfl (Nat.le_of_ble_eq_true rfl) (Nat.le_of_ble_eq_true rfl) (sp_X9_comes _ (nc := xNc X) (P := PX X) (fun s hs => hx.pt (h.1.2.1 s hs).2.2) e4 (fun i hi => ⟨e24 i hi, fwd_nc srt fc (by omega) i hi⟩) (fc _ (by omega)) (by omega) (by decide) (by decide) (by omega)) (fun S_220 h_220 => ?_)
        obtain ⟨g1, g2, g3, g4⟩ := h_220
        refine x_iinc (lv' := [_, _, _, _]) eX9_hull_223 rfl (by first | exact nI_inc _ | exact rfl) (by decide) rfl ?_
        refine x_goto eX9_hull_226 ?_
        refine x_pick [0, 1, 2, 3] rfl ?_
        exact ih (j + 1) (by omega) _ ⟨hx.tr (cm_MHx g1 g2), fun i hi => by rw [g1.2.1 25 (by simp)]; exact r25 i hi, g3, g4⟩
  refine x_aload_n eX9_hull_200 rfl ?_
  refine x_iconst (v := nI 0) eX9_hull_201 (by decide) ?_
  refine s_puti eX9_hull_202 fX9_109 wX9_35 rfl (by decide) (by decide) ?_
  refine x_iconst (v := nI 0) eX9_hull_205 (by decide) ?_
  refine x_istore_n (lv' := [_, _, _, _]) eX9_hull_206 (by decide) rfl ?_
  refine x_pick [0, 1, 2, 3] rfl ?_
  exact loop n 0 (by omega) _ ⟨hx0.tr MHx.s35, r25, by rw [setF_at, upd_at]; rfl, fun i hi => absurd hi (by show ¬ i < 0; omega)⟩
theorem m_hull3 {S : xS} {X : LM} (w : wf X) (h : RM S X) {l : Int32} {n : Nat} {f : Nat → Nat} (n2 : 2 ≤ n) (n200 : n ≤ 200) (fc : ∀ i, i < n → f i < xNc X) (srt : srtd (PX X) n f) (memf : ∀ x, (∃ i, i < n ∧ f i = x) ↔ (x < xNc X ∧ InJ X l (xNp X) x)) (S0 : xS) (hx0 : MHx S S0) (r26 : ∀ x, x < 200 → S0.2.1 26 x = tI (InJ X l (xNp X) x)) (jv : Int32) : XP mX9_hull 115 [(2, .int jv), (0, .ref 0), (1, .int l)] [] (xwS S0) (sQ (fun r S' => r = some (.int (nI ((bwd (PX X) f n (n - 1)).1 - 1))) ∧ RM S' (uH X ((bwd (PX X) f n (n - 1)).1 - 1) (bwd (PX X) f n (n - 1)).2) ∧ frM S S')) := by
  have nc2 := w.1
  have loop : ∀ μ j, j + μ = (xNc X) → ∀ n1 f1, ∀ S1, (MHx S S1 ∧ (∀ x, x < 200 → S1.2.1 26 x = tI (InJ X l (xNp X) x)) ∧ (∀ i, i < n1 → S1.2.1 25 i = nI (f1 i)) ∧ (∀ x, (∃ i, i < n1 ∧ f1 i = x) ↔ (x < j ∧ InJ X l (xNp X) x)) ∧ srtd (PX X) n1 f1 ∧ n1 ≤ j) → XP mX9_hull 119 [(3, .int (nI j)), (2, .int (nI n1)), (0, .ref 0), (1, .int l)] [] (xwS S1) (sQ (fun r S' => r = some (.int (nI ((bwd (PX X) f n (n - 1)).1 - 1))) ∧ RM S' (uH X ((bwd (PX X) f n (n - 1)).1 - 1) (bwd (PX X) f n (n - 1)).2) ∧ frM S S')) := by
    intro μ
    induction μ with
    | zero =>
      intro j hk n1 f1 S1 h1
      obtain ⟨hx, r26, r1, mem, srt1, n1j⟩ := h1
      refine x_iload_n eX9_hull_119 rfl ?_
      refine x_aload_n eX9_hull_120 rfl ?_
      refine s_geti eX9_hull_121 fX9_170 rfl (by decide) (by decide) ?_
      rw [hx.2 4 (by decide), h.1.1]
      refine x_icmp_geN eX9_hull_124 (by omega) (by omega) (fun c_124 => ?_) (fun c_124 => ?_)
      · obtain ⟨en, ef⟩ := srt_uniq (In := fun x => x < xNc X ∧ InJ X l (xNp X) x) (fun i hi => (memf (f i)).mp ⟨i, hi, rfl⟩) (fun i hi => by have := (mem (f1 i)).mp ⟨i, hi, rfl⟩; exact ⟨by omega, this.2⟩) (fun c hc => (memf c).mpr hc) (fun c hc => (mem c).mpr ⟨by omega, hc.2⟩) srt srt1
        subst en
        exact m_hull4 w h n2 n200 fc srt S1 hx (fun i hi => by rw [ef i hi]; exact r1 i hi) _
      · omega
    | succ μ ih =>
      intro j hk n1 f1 S1 h1
      obtain ⟨hx, r26, r1, mem, srt1, n1j⟩ := h1
      refine x_iload_n eX9_hull_119 rfl ?_
      refine x_aload_n eX9_hull_120 rfl ?_
      refine s_geti eX9_hull_121 fX9_170 rfl (by decide) (by decide) ?_
      rw [hx.2 4 (by decide), h.1.1]
      refine x_icmp_geN eX9_hull_124 (by omega) (by omega) (fun c_124 => ?_) (fun c_124 => ?_)
      · omega
      · refine x_aload_n eX9_hull_127 rfl ?_
        refine s_getR (k := 26) eX9_hull_128 fX9_94 rfl (by decide) (by decide) rfl ?_
        refine x_iload_n eX9_hull_131 rfl ?_
        refine s_zald eX9_hull_132 rfl (by decide) rfl (show _ < 200 by omega) ?_
        rw [r26 j (by omega)]
        refine x_if_eqT eX9_hull_133 (fun c_133 => ?_) (fun c_133 => ?_)
        · refine x_iinc (lv' := [_, _, _, _]) eX9_hull_194 rfl (by first | exact nI_inc _ | exact rfl) (by decide) rfl ?_
          refine x_goto eX9_hull_197 ?_
          refine x_pick [0, 1, 2, 3] rfl ?_
          exact ih (j + 1) (by omega) n1 f1 S1 ⟨hx, r26, r1, fun x => by
            rw [mem x]
            constructor
            · rintro ⟨a, b⟩; exact ⟨by omega, b⟩
            · rintro ⟨a, b⟩
              exact ⟨by have : x ≠ j := fun e => c_133 (e ▸ b)
                        omega, b⟩, srt1, by omega⟩
        · have j183 : ∀ k, k ≤ n1 → ∀ S2, (MHx S S2 ∧ (∀ x, x < 200 → S2.2.1 26 x = tI (InJ X l (xNp X) x)) ∧ (∀ a, a < k → S2.2.1 25 a = nI (f1 a)) ∧ (∀ a, k < a → a ≤ n1 → S2.2.1 25 a = nI (f1 (a - 1))) ∧ ∀ a, k ≤ a → a < n1 → ltP (PX X j) (PX X (f1 a)) = true) → (∀ a, a < k → ltP (PX X (f1 a)) (PX X j) = true) → XP mX9_hull 183 [(4, .int (nI k)), (3, .int (nI j)), (2, .int (nI n1)), (0, .ref 0), (1, .int l)] [] (xwS S2) (sQ (fun r S' => r = some (.int (nI ((bwd (PX X) f n (n - 1)).1 - 1))) ∧ RM S' (uH X ((bwd (PX X) f n (n - 1)).1 - 1) (bwd (PX X) f n (n - 1)).2) ∧ frM S S')) := by
            intro k hkj S2 h2 lo
            obtain ⟨gx, q0, q1, q2, q4⟩ := h2
            refine x_aload_n eX9_hull_183 rfl ?_
            refine s_getR (k := 25) eX9_hull_184 fX9_91 rfl (by decide) (by decide) rfl ?_
            refine x_iload eX9_hull_187 rfl ?_
            refine x_iload_n eX9_hull_189 rfl ?_
            refine s_iast eX9_hull_190 rfl (by decide) rfl (show _ < 200 by omega) ?_
            refine x_iinc (lv' := [_, _, _, _, _]) eX9_hull_191 rfl (by first | exact nI_inc _ | exact rfl) (by decide) rfl ?_
            refine x_iinc (lv' := [_, _, _, _, _]) eX9_hull_194 rfl (by first | exact nI_inc _ | exact rfl) (by decide) rfl ?_
            refine x_goto eX9_hull_197 ?_
            refine x_pick [0, 1, 3, 4] rfl ?_
            refine ih (j + 1) (by omega) (n1 + 1) (insR f1 k j) _ ⟨gx.tr (MHx.sI (by simp)), fun x hx => ?_, fun a ha => ?_, fun x => ?_, ins_srt srt1 hkj lo q4, by omega⟩
            · rw [setI_ne _ _ (by decide)]; exact q0 x hx
            · rw [setI_at]; unfold insR
              by_cases z : a = k
              · rw [z, upd_at, if_neg (by omega), if_pos rfl]
              · rw [upd_ne _ _ z]
                by_cases y : a < k
                · rw [if_pos y]; exact q1 a y
                · rw [if_neg y, if_neg z]; exact q2 a (by omega) (by omega)
            · rw [ins_mem hkj x, mem x]
              constructor
              · rintro (e | ⟨a, b⟩)
                · rw [e]; exact ⟨by omega, c_133⟩
                · exact ⟨by omega, b⟩
              · rintro ⟨a, b⟩
                by_cases q : x = j
                · exact Or.inl q
                · exact Or.inr ⟨by omega, b⟩
          have inner : ∀ k, k ≤ n1 → ∀ S2, (MHx S S2 ∧ (∀ x, x < 200 → S2.2.1 26 x = tI (InJ X l (xNp X) x)) ∧ (∀ a, a < k → S2.2.1 25 a = nI (f1 a)) ∧ (∀ a, k < a → a ≤ n1 → S2.2.1 25 a = nI (f1 (a - 1))) ∧ ∀ a, k ≤ a → a < n1 → ltP (PX X j) (PX X (f1 a)) = true) → XP mX9_hull 139 [(4, .int (nI k)), (3, .int (nI j)), (2, .int (nI n1)), (0, .ref 0), (1, .int l)] [] (xwS S2) (sQ (fun r S' => r = some (.int (nI ((bwd (PX X) f n (n - 1)).1 - 1))) ∧ RM S' (uH X ((bwd (PX X) f n (n - 1)).1 - 1) (bwd (PX X) f n (n - 1)).2) ∧ frM S S')) := by
            intro k
            induction k with
            | zero =>
              intro hkj S2 h2
              refine x_iload eX9_hull_139 rfl ?_
              refine x_if_leN eX9_hull_141 (by omega) (fun c_141 => ?_) (fun c_141 => ?_)
              · exact j183 0 hkj S2 h2 (fun a ha => by omega)
              · omega
            | succ k ihk =>
              intro hkj S2 h2
              have h3 := h2
              obtain ⟨gx, q0, q1, q2, q4⟩ := h3
              have fk := (mem (f1 k)).mp ⟨k, by omega, rfl⟩
              refine x_iload eX9_hull_139 rfl ?_
              refine x_if_leN eX9_hull_141 (by omega) (fun c_141 => ?_) (fun c_141 => ?_)
              · omega
              · refine x_aload_n eX9_hull_144 rfl ?_
                refine x_iload_n eX9_hull_145 rfl ?_
                refine x_aload_n eX9_hull_146 rfl ?_
                refine s_getR (k := 25) eX9_hull_147 fX9_91 rfl (by decide) (by decide) rfl ?_
                refine x_iload eX9_hull_150 rfl ?_
                refine x_iconst (v := nI 1) eX9_hull_152 (by decide) ?_
                first | refine x_isubN eX9_hull_153 (by omega) ?_ | refine x_isub eX9_hull_153 ?_
                rw [show k + 1 - 1 = k by omega]
                refine s_iald eX9_hull_154 rfl (by decide) rfl (show _ < 200 by omega) ?_
                rw [q1 k (by omega)]
                refine s_callV1 (As := [_, _]) eX9_hull_155 kX9_158 ⟨by decide, by decide⟩ rfl (by decide) (by decide) rfl rfl (Nat.le_of_ble_eq_true rfl) (Nat.le_of_ble_eq_true rfl) (sp_X9_ahead _ (gx.pt (h.1.2.1 j (by omega)).2.2) (gx.pt (h.1.2.1 (f1 k) (by omega)).2.2)) (fun S_155 h_155 => ?_)
                have h_155 := h_155.symm
                subst h_155
                refine x_if_ge eX9_hull_158 (fun c_158 => ?_) (fun c_158 => ?_)
                · refine j183 (k + 1) hkj S2 h2 (fun a ha => ?_)
                  have l1 : ltP (PX X (f1 k)) (PX X j) = true := by
                    rcases lt_tri (PX X (f1 k)) (PX X j) with z | z | z
                    · exact z
                    · have := PX_inj w _ _ (by omega) (by omega) z
                      omega
                    · exact absurd ((ahP_lt _ _).mpr (by rw [lt_2]; exact z)) (Int32.not_lt.mpr c_158)
                  by_cases q : a = k
                  · rw [q]; exact l1
                  · exact ltP_tr (srt1 a k (by omega) (by omega)) l1
                · have lt1 : ltP (PX X j) (PX X (f1 k)) = true := by
                    have := (ahP_lt _ _).mp (Int32.not_le.mp c_158)
                    rw [lt_2] at this
                    exact this
                  refine x_aload_n eX9_hull_161 rfl ?_
                  refine s_getR (k := 25) eX9_hull_162 fX9_91 rfl (by decide) (by decide) rfl ?_
                  refine x_iload eX9_hull_165 rfl ?_
                  refine x_aload_n eX9_hull_167 rfl ?_
                  refine s_getR (k := 25) eX9_hull_168 fX9_91 rfl (by decide) (by decide) rfl ?_
                  refine x_iload eX9_hull_171 rfl ?_
                  refine x_iconst (v := nI 1) eX9_hull_173 (by decide) ?_
                  first | refine x_isubN eX9_hull_174 (by omega) ?_ | refine x_isub eX9_hull_174 ?_
                  rw [show k + 1 - 1 = k by omega]
                  refine s_iald eX9_hull_175 rfl (by decide) rfl (show _ < 200 by omega) ?_
                  rw [q1 k (by omega)]
                  refine s_iast eX9_hull_176 rfl (by decide) rfl (show _ < 200 by omega) ?_
                  refine x_iinc (lv' := [_, _, _, _, _]) eX9_hull_177 rfl (show nI (k + 1) + Int32.ofInt (-1) = nI k by rw [nI_dec, dI_s]) (by decide) rfl ?_
                  refine x_goto eX9_hull_180 ?_
                  refine x_pick [0, 1, 2, 3, 4] rfl ?_
                  refine ihk (by omega) _ ⟨gx.tr (MHx.sI (by simp)), fun x hx => ?_, fun a ha => ?_, fun a h1 h2 => ?_, fun a h1 h2 => ?_⟩
                  · rw [setI_ne _ _ (by decide)]; exact q0 x hx
                  · rw [setI_at, upd_ne _ _ (by omega)]; exact q1 a (by omega)
                  · rw [setI_at]
                    by_cases z : a = k + 1
                    · rw [z, upd_at]; rfl
                    · rw [upd_ne _ _ z]; exact q2 a (by omega) h2
                  · by_cases z : a = k
                    · rw [z]; exact lt1
                    · exact q4 a (by omega) h2
          refine x_iload_n eX9_hull_136 rfl ?_
          refine x_istore (lv' := [_, _, _, _, _]) eX9_hull_137 (by decide) rfl ?_
          refine x_pick [0, 1, 2, 3, 4] rfl ?_
          exact inner n1 (Nat.le_refl _) S1 ⟨hx, r26, r1, fun a h1 h2 => by omega, fun a h1 h2 => by omega⟩
  refine x_iconst (v := nI 0) eX9_hull_115 (by decide) ?_
  refine x_istore_n (lv' := [_, _, _]) eX9_hull_116 (by decide) rfl ?_
  refine x_iconst (v := nI 0) eX9_hull_117 (by decide) ?_
  refine x_istore_n (lv' := [_, _, _, _]) eX9_hull_118 (by decide) rfl ?_
  refine x_pick [0, 1, 2, 3] rfl ?_
  exact loop (xNc X) 0 (by omega) 0 (fun _ => 0) _ ⟨hx0, r26, fun i hi => by omega, fun x => ⟨fun ⟨i, hi, _⟩ => by omega, fun ⟨hi, _⟩ => by omega⟩, fun i i' h1 h2 => by omega, by omega⟩
theorem m_hull2 {S : xS} {X : LM} (w : wf X) (h : RM S X) {l : Int32} {n : Nat} {f : Nat → Nat} (n2 : 2 ≤ n) (n200 : n ≤ 200) (fc : ∀ i, i < n → f i < xNc X) (srt : srtd (PX X) n f) (memf : ∀ x, (∃ i, i < n ∧ f i = x) ↔ (x < xNc X ∧ InJ X l (xNp X) x)) : XP mX9_hull 23 [(0, .ref 0), (1, .int l)] [] (xwS S) (sQ (fun r S' => r = some (.int (nI ((bwd (PX X) f n (n - 1)).1 - 1))) ∧ RM S' (uH X ((bwd (PX X) f n (n - 1)).1 - 1) (bwd (PX X) f n (n - 1)).2) ∧ frM S S')) := by
  have nc2 := w.1
  have n60 : xNp X ≤ 60 := w.2.2.2.2.1.1
  have loop2 : ∀ μ j, j + μ = (xNp X) → ∀ S1, (MHx S S1 ∧ ∀ x, x < 200 → S1.2.1 26 x = tI (InJ X l j x)) → XP mX9_hull 47 [(2, .int (nI j)), (0, .ref 0), (1, .int l)] [] (xwS S1) (sQ (fun r S' => r = some (.int (nI ((bwd (PX X) f n (n - 1)).1 - 1))) ∧ RM S' (uH X ((bwd (PX X) f n (n - 1)).1 - 1) (bwd (PX X) f n (n - 1)).2) ∧ frM S S')) := by
    intro μ
    induction μ with
    | zero =>
      intro j hk S1 h1
      obtain ⟨hx, r26⟩ := h1
      refine x_iload_n eX9_hull_47 rfl ?_
      refine x_aload_n eX9_hull_48 rfl ?_
      refine s_geti eX9_hull_49 fX9_224 rfl (by decide) (by decide) ?_
      rw [hx.2 16 (by decide), (h.tab w).1]
      refine x_icmp_geN eX9_hull_52 (by omega) (by omega) (fun c_52 => ?_) (fun c_52 => ?_)
      · exact m_hull3 w h n2 n200 fc srt memf S1 hx (fun x hx2 => by rw [r26 x hx2, show j = xNp X by omega]) _
      · omega
    | succ μ ih =>
      intro j hk S1 h1
      obtain ⟨hx, r26⟩ := h1
      refine x_iload_n eX9_hull_47 rfl ?_
      refine x_aload_n eX9_hull_48 rfl ?_
      refine s_geti eX9_hull_49 fX9_224 rfl (by decide) (by decide) ?_
      rw [hx.2 16 (by decide), (h.tab w).1]
      refine x_icmp_geN eX9_hull_52 (by omega) (by omega) (fun c_52 => ?_) (fun c_52 => ?_)
      · omega
      · have c0 := ((h.tab w).2.2 j (by omega)).1
        have fin : ∀ S2, (MHx S S2 ∧ ∀ x, x < 200 → S2.2.1 26 x = tI (InJ X l (j + 1) x)) → XP mX9_hull 109 [(2, .int (nI j)), (0, .ref 0), (1, .int l)] [] (xwS S2) (sQ (fun r S' => r = some (.int (nI ((bwd (PX X) f n (n - 1)).1 - 1))) ∧ RM S' (uH X ((bwd (PX X) f n (n - 1)).1 - 1) (bwd (PX X) f n (n - 1)).2) ∧ frM S S')) := by
          intro S2 g2
          refine x_iinc (lv' := [_, _, _]) eX9_hull_109 rfl (by first | exact nI_inc _ | exact rfl) (by decide) rfl ?_
          refine x_goto eX9_hull_112 ?_
          refine x_pick [0, 1, 2] rfl ?_
          exact ih (j + 1) (by omega) _ g2
        by_cases act : xTh X j = true ∧ nI (xLy X j) = l
        · have ce := ((h.tab w).2.2 j (by omega)).2 act.1
          have s12 : xSz X j ≤ 12 := (wf_good w act.1).2.1
          have inner : ∀ μ i, i + μ = (xSz X j) → ∀ S2, (MHx S S2 ∧ ∀ x, x < 200 → S2.2.1 26 x = tI (InJ X l j x ∨ ∃ a, a < i ∧ xRg X j a = x)) → XP mX9_hull 57 [(3, .int (nI i)), (2, .int (nI j)), (0, .ref 0), (1, .int l)] [] (xwS S2) (sQ (fun r S' => r = some (.int (nI ((bwd (PX X) f n (n - 1)).1 - 1))) ∧ RM S' (uH X ((bwd (PX X) f n (n - 1)).1 - 1) (bwd (PX X) f n (n - 1)).2) ∧ frM S S')) := by
            intro μ
            induction μ with
            | zero =>
              intro i hk S2 h1
              obtain ⟨hx2, r2⟩ := h1
              refine x_iload_n eX9_hull_57 rfl ?_
              refine x_aload_n eX9_hull_58 rfl ?_
              refine s_getR (k := 15) eX9_hull_59 fX9_58 rfl (by decide) (by decide) rfl ?_
              refine x_iload_n eX9_hull_62 rfl ?_
              refine s_iald eX9_hull_63 rfl (by decide) rfl (show _ < 60 by omega) ?_
              rw [hx2.1.2.1 15 (by simp), show S.2.1 15 j = nI (xSz X j) from ce.2.2.2.2.2.1]
              refine x_icmp_geN eX9_hull_64 (by omega) (by omega) (fun c_64 => ?_) (fun c_64 => ?_)
              · refine x_pick [1, 2, 3] rfl ?_
                exact fin S2 ⟨hx2, fun x hx => by rw [r2 x hx, show i = xSz X j by omega]; exact tI_iff (InJ_y act.1 act.2 x).symm⟩
              · omega
            | succ μ ih =>
              intro i hk S2 h1
              obtain ⟨hx2, r2⟩ := h1
              refine x_iload_n eX9_hull_57 rfl ?_
              refine x_aload_n eX9_hull_58 rfl ?_
              refine s_getR (k := 15) eX9_hull_59 fX9_58 rfl (by decide) (by decide) rfl ?_
              refine x_iload_n eX9_hull_62 rfl ?_
              refine s_iald eX9_hull_63 rfl (by decide) rfl (show _ < 60 by omega) ?_
              rw [hx2.1.2.1 15 (by simp), show S.2.1 15 j = nI (xSz X j) from ce.2.2.2.2.2.1]
              refine x_icmp_geN eX9_hull_64 (by omega) (by omega) (fun c_64 => ?_) (fun c_64 => ?_)
              · omega
              · refine x_aload_n eX9_hull_67 rfl ?_
                refine s_getR (k := 12) eX9_hull_68 fX9_48 rfl (by decide) (by decide) rfl ?_
                refine x_iload_n eX9_hull_71 rfl ?_
                refine s_zald eX9_hull_72 rfl (by decide) rfl (show _ < 60 by omega) ?_
                rw [hx2.1.2.1 12 (by simp), c0]
                refine x_if_eqB eX9_hull_73 (fun c_73 => ?_) (fun c_73 => ?_)
                · rw [show tTh (xTb X) j = true from act.1] at c_73; exact absurd c_73 (by decide)
                · refine x_aload_n eX9_hull_76 rfl ?_
                  refine s_getR (k := 13) eX9_hull_77 fX9_52 rfl (by decide) (by decide) rfl ?_
                  refine x_iload_n eX9_hull_80 rfl ?_
                  refine s_iald eX9_hull_81 rfl (by decide) rfl (show _ < 60 by omega) ?_
                  rw [hx2.1.2.1 13 (by simp), ce.1]
                  refine x_iload_n eX9_hull_82 rfl ?_
                  refine x_icmp_ne eX9_hull_83 (fun c_83 => ?_) (fun c_83 => ?_)
                  · exact absurd act.2 c_83
                  · refine x_aload_n eX9_hull_86 rfl ?_
                    refine s_getR (k := 26) eX9_hull_87 fX9_94 rfl (by decide) (by decide) rfl ?_
                    refine x_aload_n eX9_hull_90 rfl ?_
                    refine s_getR (k := 16) eX9_hull_91 fX9_61 rfl (by decide) (by decide) rfl ?_
                    refine x_bipush (v := nI 12) eX9_hull_94 (by decide) ?_
                    refine x_iload_n eX9_hull_96 rfl ?_
                    first | refine x_imulN eX9_hull_97 ?_ | refine x_imul eX9_hull_97 ?_
                    refine x_iload_n eX9_hull_98 rfl ?_
                    first | refine x_iaddN eX9_hull_99 ?_ | refine x_iadd eX9_hull_99 ?_
                    refine s_iald eX9_hull_100 rfl (by decide) rfl (show 12 * j + i < 720 by omega) ?_
                    rw [hx2.1.2.1 16 (by simp), (ce.2.2.2.2.2.2 i (show i < xSz X j by omega)).1]
                    refine x_iconst (v := nI 1) eX9_hull_101 (by decide) ?_
                    refine s_zast eX9_hull_102 rfl (by decide) rfl (show tRg (xTb X) j i < 200 from Nat.lt_of_lt_of_le ((good_c w act.1).2 i (by omega)) nc2) (by first | exact Or.inl rfl | exact Or.inr rfl | exact bI_01 _) ?_
                    refine x_iinc (lv' := [_, _, _, _]) eX9_hull_103 rfl (by first | exact nI_inc _ | exact rfl) (by decide) rfl ?_
                    refine x_goto eX9_hull_106 ?_
                    refine x_pick [0, 1, 2, 3] rfl ?_
                    refine ih (i + 1) (by omega) _ ⟨hx2.tr (MHx.sI (by simp)), fun x hx => ?_⟩
                    rw [setI_at]
                    by_cases q : x = tRg (xTb X) j i
                    · rw [q, upd_at, tI_t (Or.inr ⟨i, by omega, rfl⟩)]; rfl
                    · rw [upd_ne _ _ q, r2 x hx]
                      refine tI_iff ⟨fun z => z.elim Or.inl (fun ⟨a, ha, e⟩ => Or.inr ⟨a, by omega, e⟩), fun z => z.elim Or.inl (fun ⟨a, ha, e⟩ => Or.inr ⟨a, ?_, e⟩)⟩
                      have : a ≠ i := fun e2 => q (by rw [← e, e2]; rfl)
                      omega
          refine x_iconst (v := nI 0) eX9_hull_55 (by decide) ?_
          refine x_istore_n (lv' := [_, _, _, _]) eX9_hull_56 (by decide) rfl ?_
          refine x_pick [0, 1, 2, 3] rfl ?_
          exact inner (xSz X j) 0 (by omega) _ ⟨hx, fun x hx2 => by rw [r26 x hx2]; exact tI_iff ⟨Or.inl, fun z => z.elim id (fun ⟨a, ha, _⟩ => by omega)⟩⟩
        · refine x_iconst (v := nI 0) eX9_hull_55 (by decide) ?_
          refine x_istore_n (lv' := [_, _, _, _]) eX9_hull_56 (by decide) rfl ?_
          refine x_iload_n eX9_hull_57 rfl ?_
          refine x_aload_n eX9_hull_58 rfl ?_
          refine s_getR (k := 15) eX9_hull_59 fX9_58 rfl (by decide) (by decide) rfl ?_
          refine x_iload_n eX9_hull_62 rfl ?_
          refine s_iald eX9_hull_63 rfl (by decide) rfl (show _ < 60 by omega) ?_
          refine x_icmp_ge eX9_hull_64 (fun c_64 => ?_) (fun c_64 => ?_)
          · refine x_pick [1, 2, 3] rfl ?_
            exact fin S1 ⟨hx, fun x hx2 => by rw [r26 x hx2]; exact tI_iff (InJ_n act x).symm⟩
          · refine x_aload_n eX9_hull_67 rfl ?_
            refine s_getR (k := 12) eX9_hull_68 fX9_48 rfl (by decide) (by decide) rfl ?_
            refine x_iload_n eX9_hull_71 rfl ?_
            refine s_zald eX9_hull_72 rfl (by decide) rfl (show _ < 60 by omega) ?_
            rw [hx.1.2.1 12 (by simp), c0]
            refine x_if_eqB eX9_hull_73 (fun c_73 => ?_) (fun c_73 => ?_)
            · refine x_pick [1, 2, 3] rfl ?_
              exact fin S1 ⟨hx, fun x hx2 => by rw [r26 x hx2]; exact tI_iff (InJ_n act x).symm⟩
            · refine x_aload_n eX9_hull_76 rfl ?_
              refine s_getR (k := 13) eX9_hull_77 fX9_52 rfl (by decide) (by decide) rfl ?_
              refine x_iload_n eX9_hull_80 rfl ?_
              refine s_iald eX9_hull_81 rfl (by decide) rfl (show _ < 60 by omega) ?_
              rw [hx.1.2.1 13 (by simp), (((h.tab w).2.2 j (by omega)).2 c_73).1]
              refine x_iload_n eX9_hull_82 rfl ?_
              refine x_icmp_ne eX9_hull_83 (fun c_83 => ?_) (fun c_83 => ?_)
              · refine x_pick [1, 2, 3] rfl ?_
                exact fin S1 ⟨hx, fun x hx2 => by rw [r26 x hx2]; exact tI_iff (InJ_n act x).symm⟩
              · exact absurd ⟨c_73, c_83⟩ act
  have loop1 : ∀ μ j, j + μ = 200 → ∀ S1, (MHx S S1 ∧ ∀ x, x < j → S1.2.1 26 x = 0) → XP mX9_hull 25 [(2, .int (nI j)), (0, .ref 0), (1, .int l)] [] (xwS S1) (sQ (fun r S' => r = some (.int (nI ((bwd (PX X) f n (n - 1)).1 - 1))) ∧ RM S' (uH X ((bwd (PX X) f n (n - 1)).1 - 1) (bwd (PX X) f n (n - 1)).2) ∧ frM S S')) := by
    intro μ
    induction μ with
    | zero =>
      intro j hk S1 h1
      obtain ⟨hx, z0⟩ := h1
      refine x_iload_n eX9_hull_25 rfl ?_
      refine x_sipush (v := nI 200) eX9_hull_26 (by decide) ?_
      refine x_icmp_geN eX9_hull_29 (by omega) (by omega) (fun c_29 => ?_) (fun c_29 => ?_)
      · refine x_iconst (v := nI 0) eX9_hull_45 (by decide) ?_
        refine x_istore_n (lv' := [_, _, _]) eX9_hull_46 (by decide) rfl ?_
        refine x_pick [0, 1, 2] rfl ?_
        exact loop2 (xNp X) 0 (by omega) S1 ⟨hx, fun x hx2 => by rw [z0 x (by omega), tI_f (fun ⟨p, hp, _⟩ => by omega)]⟩
      · omega
    | succ μ ih =>
      intro j hk S1 h1
      obtain ⟨hx, z0⟩ := h1
      refine x_iload_n eX9_hull_25 rfl ?_
      refine x_sipush (v := nI 200) eX9_hull_26 (by decide) ?_
      refine x_icmp_geN eX9_hull_29 (by omega) (by omega) (fun c_29 => ?_) (fun c_29 => ?_)
      · omega
      · refine x_aload_n eX9_hull_32 rfl ?_
        refine s_getR (k := 26) eX9_hull_33 fX9_94 rfl (by decide) (by decide) rfl ?_
        refine x_iload_n eX9_hull_36 rfl ?_
        refine x_iconst (v := nI 0) eX9_hull_37 (by decide) ?_
        refine s_zast eX9_hull_38 rfl (by decide) rfl (show _ < 200 by omega) (by first | exact Or.inl rfl | exact Or.inr rfl | exact bI_01 _) ?_
        refine x_iinc (lv' := [_, _, _]) eX9_hull_39 rfl (by first | exact nI_inc _ | exact rfl) (by decide) rfl ?_
        refine x_goto eX9_hull_42 ?_
        refine x_pick [0, 1, 2] rfl ?_
        exact ih (j + 1) (by omega) _ ⟨hx.tr (MHx.sI (by simp)), fun x hx2 => by
          rw [setI_at]
          by_cases q : x = j
          · rw [q, upd_at]; rfl
          · rw [upd_ne _ _ q]; exact z0 x (by omega)⟩
  refine x_iconst (v := nI 0) eX9_hull_23 (by decide) ?_
  refine x_istore_n (lv' := [_, _, _]) eX9_hull_24 (by decide) rfl ?_
  refine x_pick [0, 1, 2] rfl ?_
  exact loop1 200 0 (by omega) _ ⟨MHx.rf _, fun x hx => by omega⟩
theorem b_hull {X : LM} (w : wf X) (l : Int32) : both X mX8_hull mX9_hull [.int l] := by
  have n60 : xNp X ≤ 60 := w.2.2.2.2.1.1
  have nc2 := w.1
  by_cases hl : ∃ k, k < 4 ∧ l = nI k
  rotate_left
  · refine ⟨.int (-102), X, w, fun S h => ?_, fun S h => ?_⟩
    · show XP _ _ [_, _] _ _ _
      refine x_iload_n eX8_hull_0 rfl ?_
      refine s_callS1 (As := [_]) eX8_hull_1 kX8_125 ⟨by decide, by decide⟩ rfl rfl (Nat.le_of_ble_eq_true rfl) (Nat.le_of_ble_eq_true rfl) (sp_X8_isLayer _ _) (fun S_1 h_1 => ?_)
      have h_1 := h_1.symm
      subst h_1
      refine x_if_neT eX8_hull_4 (fun c_4 => ?_) (fun c_4 => ?_)
      · exact absurd c_4 hl
      · refine x_bipush (v := -102) eX8_hull_7 (by decide) ?_
        exact s_iret eX8_hull_9 rfl rfl ⟨rfl, h, frC.rf _⟩
    · show XP _ _ [_, _] _ _ _
      refine x_iload_n eX9_hull_0 rfl ?_
      refine x_iconst (v := nI 0) eX9_hull_1 (by decide) ?_
      refine x_iconst (v := nI 3) eX9_hull_2 (by decide) ?_
      refine s_callS1 (As := [_, _, _]) eX9_hull_3 kX9_173 ⟨by decide, by decide⟩ rfl rfl (Nat.le_of_ble_eq_true rfl) (Nat.le_of_ble_eq_true rfl) (sp_X9_in _ _ _ _) (fun S_3 h_3 => ?_)
      have h_3 := h_3.symm
      subst h_3
      rw [in03]
      refine x_if_neB eX9_hull_6 (fun c_6 => ?_) (fun c_6 => ?_)
      · exact absurd (of_decide_eq_true c_6) hl
      · refine x_bipush (v := -102) eX9_hull_9 (by decide) ?_
        exact s_iret eX9_hull_11 rfl rfl ⟨rfl, h, frM.rf _⟩
  have lm : ¬ l = -1 := fun q => by
    obtain ⟨k, hk, e⟩ := hl
    rw [e] at q
    have := congrArg Int32.toInt q
    rw [nI_toInt (by omega)] at this
    have m1 : (-1 : Int32).toInt = -1 := by decide
    omega
  have ecnt : cnt (fun q => tTh (xTb X) q = true ∧ (l = -1 ∨ nI (tLy (xTb X) q) = l)) (xNp X) = (cnt (fun q => tTh (xTb X) q = true ∧ nI (tLy (xTb X) q) = l) (xNp X)) := cnt_congr _ (fun q _ => ⟨fun y => ⟨y.1, y.2.resolve_left lm⟩, fun y => ⟨y.1, Or.inr y.2⟩⟩)
  have cle := cnt_le (fun q => tTh (xTb X) q = true ∧ nI (tLy (xTb X) q) = l) (xNp X)
  by_cases z : (cnt (fun q => tTh (xTb X) q = true ∧ nI (tLy (xTb X) q) = l) (xNp X)) = 0
  · refine ⟨.int (-103), X, w, fun S h => ?_, fun S h => ?_⟩
    · show XP _ _ [_, _] _ _ _
      refine x_iload_n eX8_hull_0 rfl ?_
      refine s_callS1 (As := [_]) eX8_hull_1 kX8_125 ⟨by decide, by decide⟩ rfl rfl (Nat.le_of_ble_eq_true rfl) (Nat.le_of_ble_eq_true rfl) (sp_X8_isLayer _ _) (fun S_1 h_1 => ?_)
      have h_1 := h_1.symm
      subst h_1
      refine x_if_neT eX8_hull_4 (fun c_4 => ?_) (fun c_4 => ?_)
      · refine x_aload_n eX8_hull_10 rfl ?_
        refine s_getR (k := 37) eX8_hull_11 fX8_28 rfl (by decide) (by decide) rfl ?_
        refine x_iload_n eX8_hull_14 rfl ?_
        refine s_callV1 (As := [_]) eX8_hull_15 kX8_220 ⟨by decide, by decide⟩ rfl (by decide) (by decide) rfl rfl (Nat.le_of_ble_eq_true rfl) (Nat.le_of_ble_eq_true rfl) (sp_X3_thereIn (h.tab w) _) (fun S_15 h_15 => ?_)
        have h_15 := h_15.symm
        subst h_15
        refine x_if_neN eX8_hull_18 (by omega) (fun c_18 => ?_) (fun c_18 => ?_)
        · omega
        · refine x_bipush (v := -103) eX8_hull_21 (by decide) ?_
          exact s_iret eX8_hull_23 rfl rfl ⟨rfl, h, frC.rf _⟩
      · exact absurd hl c_4
    · show XP _ _ [_, _] _ _ _
      refine x_iload_n eX9_hull_0 rfl ?_
      refine x_iconst (v := nI 0) eX9_hull_1 (by decide) ?_
      refine x_iconst (v := nI 3) eX9_hull_2 (by decide) ?_
      refine s_callS1 (As := [_, _, _]) eX9_hull_3 kX9_173 ⟨by decide, by decide⟩ rfl rfl (Nat.le_of_ble_eq_true rfl) (Nat.le_of_ble_eq_true rfl) (sp_X9_in _ _ _ _) (fun S_3 h_3 => ?_)
      have h_3 := h_3.symm
      subst h_3
      rw [in03]
      refine x_if_neB eX9_hull_6 (fun c_6 => ?_) (fun c_6 => ?_)
      · refine x_aload_n eX9_hull_12 rfl ?_
        refine x_iload_n eX9_hull_13 rfl ?_
        refine s_callV1 (As := [_]) eX9_hull_14 kX9_287 ⟨by decide, by decide⟩ rfl (by decide) (by decide) rfl rfl (Nat.le_of_ble_eq_true rfl) (Nat.le_of_ble_eq_true rfl) (sp_X9_there (h.tab w) _) (fun S_14 h_14 => ?_)
        have h_14 := h_14.symm
        subst h_14
        rw [ecnt]
        refine x_if_neN eX9_hull_17 (by omega) (fun c_17 => ?_) (fun c_17 => ?_)
        · omega
        · refine x_bipush (v := -103) eX9_hull_20 (by decide) ?_
          exact s_iret eX9_hull_22 rfl rfl ⟨rfl, h, frM.rf _⟩
      · exact absurd hl (of_decide_eq_false c_6)
  have inc : ∀ x, InJ X l (xNp X) x → x < xNc X := fun x ⟨p, hp, a, b, i, hi, e⟩ => by rw [← e]; exact (good_c w a).2 i hi
  obtain ⟨n, f, hn, memf, srt⟩ := srt_ex (P := PX X) (In := InJ X l (xNp X)) (xNc X) (fun s t hs ht e => PX_inj w s t hs ht e)
  have fc : ∀ i, i < n → f i < xNc X := fun i hi => ((memf (f i)).mp ⟨i, hi, rfl⟩).1
  have ex : ∃ q, q < xNp X ∧ xTh X q = true ∧ nI (xLy X q) = l := by
    refine Classical.byContradiction (fun no => z (cnt_none (fun j hj y => no ⟨j, hj, y.1, y.2⟩)))
  have n2 : 2 ≤ n := by
    obtain ⟨q, hq, tq, lq⟩ := ex
    have g := wf_good w tq
    have i0 : InJ X l (xNp X) (xRg X q 0) := ⟨q, hq, tq, lq, 0, (good_c w tq).1, rfl⟩
    have s3 : 3 ≤ xSz X q := g.1
    have i1 : InJ X l (xNp X) (xRg X q 1) := ⟨q, hq, tq, lq, 1, by omega, rfl⟩
    obtain ⟨a, ha, ea⟩ := (memf _).mpr ⟨inc _ i0, i0⟩
    obtain ⟨b, hb, eb⟩ := (memf _).mpr ⟨inc _ i1, i1⟩
    have ne : xRg X q 0 ≠ xRg X q 1 := fun e => by have := g.2.2.2.1 0 1 (by show 0 < xSz X q; omega) (by show 1 < xSz X q; omega) e; omega
    have : a ≠ b := fun e => ne (by rw [← ea, ← eb, e])
    omega
  have n200 : n ≤ 200 := by omega
  have bd := bwd_bd (nc := xNc X) n2 srt fc n200 nc2 (show n - 1 < n by omega)
  refine ⟨.int (nI ((bwd (PX X) f n (n - 1)).1 - 1)), uH X ((bwd (PX X) f n (n - 1)).1 - 1) (bwd (PX X) f n (n - 1)).2, wf_uH w (by omega) (fun i hi => bwd_nc n2 srt fc (by omega) i (by omega)), fun S h => ?_, fun S h => ?_⟩
  · obtain ⟨T, hT⟩ := h.pts w
    show XP _ _ [_, _] _ _ _
    refine x_iload_n eX8_hull_0 rfl ?_
    refine s_callS1 (As := [_]) eX8_hull_1 kX8_125 ⟨by decide, by decide⟩ rfl rfl (Nat.le_of_ble_eq_true rfl) (Nat.le_of_ble_eq_true rfl) (sp_X8_isLayer _ _) (fun S_1 h_1 => ?_)
    have h_1 := h_1.symm
    subst h_1
    refine x_if_neT eX8_hull_4 (fun c_4 => ?_) (fun c_4 => ?_)
    · refine x_aload_n eX8_hull_10 rfl ?_
      refine s_getR (k := 37) eX8_hull_11 fX8_28 rfl (by decide) (by decide) rfl ?_
      refine x_iload_n eX8_hull_14 rfl ?_
      refine s_callV1 (As := [_]) eX8_hull_15 kX8_220 ⟨by decide, by decide⟩ rfl (by decide) (by decide) rfl rfl (Nat.le_of_ble_eq_true rfl) (Nat.le_of_ble_eq_true rfl) (sp_X3_thereIn (h.tab w) _) (fun S_15 h_15 => ?_)
      have h_15 := h_15.symm
      subst h_15
      refine x_if_neN eX8_hull_18 (by omega) (fun c_18 => ?_) (fun c_18 => ?_)
      · refine x_aload_n eX8_hull_24 rfl ?_
        refine s_getR (k := 41) eX8_hull_25 fX8_42 rfl (by decide) (by decide) rfl ?_
        refine x_aload_n eX8_hull_28 rfl ?_
        refine s_getR (k := 37) eX8_hull_29 fX8_28 rfl (by decide) (by decide) rfl ?_
        refine x_iload_n eX8_hull_32 rfl ?_
        refine s_callV0 (As := [_, _]) eX8_hull_33 kX8_223 ⟨by decide, by decide⟩ rfl (by decide) (by decide) rfl rfl (Nat.le_of_ble_eq_true rfl) (Nat.le_of_ble_eq_true rfl) (sp_X0_gather w h l) (fun S_33 h_33 => ?_)
        obtain ⟨x1, m, u, tk, mu⟩ := h_33
        have p1 := hT.fx x1 (by simp) (by simp)
        have m1 : 1 ≤ m := by
          by_cases q : m = 0
          · exfalso
            have i0 := ((memf (f 0)).mp ⟨0, by omega, rfl⟩).2
            obtain ⟨i, hi, -⟩ := (mu _).mpr i0
            omega
          · omega
        have uc : ∀ i, i < m → u i < xNc X := fun i hi => inc _ ((mu _).mp ⟨i, hi, rfl⟩)
        refine x_aload_n eX8_hull_36 rfl ?_
        refine s_getR (k := 41) eX8_hull_37 fX8_42 rfl (by decide) (by decide) rfl ?_
        refine x_aload_n eX8_hull_40 rfl ?_
        refine s_getR (k := 32) eX8_hull_41 fX8_12 rfl (by decide) (by decide) rfl ?_
        refine s_callV0 (As := [_]) eX8_hull_44 kX8_227 ⟨by decide, by decide⟩ rfl (by decide) (by decide) rfl rfl (Nat.le_of_ble_eq_true rfl) (Nat.le_of_ble_eq_true rfl) (sp_X0_sort _ p1 (fun s t hs ht e => PX_inj w s t hs ht (by rw [PT_lt _ _ (by omega), PT_lt _ _ (by omega)] at e; exact e)) tk.1 tk.2.2.2.2 m1 (fun i hi => ⟨(tk.2.1 i hi).1, uc i hi⟩) tk.2.2.2.1) (fun S_44 h_44 => ?_)
        obtain ⟨x2, f2, r2, mem2, srt2⟩ := h_44
        have p2 := p1.fx x2 (by simp) (by simp)
        have f2i : ∀ i, i < m → InJ X l (xNp X) (f2 i) := fun i hi => (mu _).mp ((mem2 _).mp ⟨i, hi, rfl⟩)
        have f2c : ∀ i, i < m → f2 i < xNc X := fun i hi => inc _ (f2i i hi)
        obtain ⟨en, ef⟩ := srt_uniq (P := PX X) (In := fun x => x < xNc X ∧ InJ X l (xNp X) x) (fun i hi => (memf (f i)).mp ⟨i, hi, rfl⟩) (fun i hi => ⟨f2c i hi, f2i i hi⟩) (fun c hc => (memf c).mpr hc) (fun c hc => (mem2 c).mpr ((mu c).mpr hc.2)) srt (fun a b h1 h2 => by have := srt2 a b h1 h2; rw [PT_lt _ _ (by have := f2c a (by omega); omega), PT_lt _ _ (by have := f2c b h2; omega)] at this; exact this)
        subst en
        have srtT : srtd (PT (PX X) T) n f := fun a b h1 h2 => by rw [PT_lt _ _ (by have := fc a (by omega); omega), PT_lt _ _ (by have := fc b h2; omega)]; exact srt a b h1 h2
        refine x_aload_n eX8_hull_47 rfl ?_
        refine s_getR (k := 41) eX8_hull_48 fX8_42 rfl (by decide) (by decide) rfl ?_
        refine x_aload_n eX8_hull_51 rfl ?_
        refine s_getR (k := 32) eX8_hull_52 fX8_12 rfl (by decide) (by decide) rfl ?_
        refine s_callV0 (As := [_]) eX8_hull_55 kX8_230 ⟨by decide, by decide⟩ rfl (by decide) (by decide) rfl rfl (Nat.le_of_ble_eq_true rfl) (Nat.le_of_ble_eq_true rfl) (sp_X0_wrap _ p2 (by rw [x2.1 41 (by simp)]; exact tk.1) (fun i hi => by rw [r2 i hi, ef i hi]) fc n2 n200 nc2 srtT) (fun S_55 h_55 => ?_)
        obtain ⟨x3, e4, e44⟩ := h_55
        rw [bwd_cg n2 srt fc (fun s hs => PT_lt _ _ (by omega)) (n - 1) (by omega)] at e4 e44
        have xx : Fx [41] [42, 43, 44] [364] [] S S_55 := ((x1.mono (by simp) (by simp) (by simp) (by simp)).tr (x2.mono (by simp) (by simp) (by simp) (by simp))).tr (x3.mono (by simp) (by simp) (by simp) (by simp))
        refine x_aload_n eX8_hull_58 rfl ?_
        refine s_getR (k := 41) eX8_hull_59 fX8_42 rfl (by decide) (by decide) rfl ?_
        refine s_geti eX8_hull_62 fX8_233 rfl (by decide) (by decide) ?_
        rw [e4]
        exact s_iret eX8_hull_65 rfl rfl ⟨rfl, RC_H h xx (by simp) (by simp) e4 e44, xx.frC (by simp) (by simp) (by simp)⟩
      · omega
    · exact absurd hl c_4
  · show XP _ _ [_, _] _ _ _
    refine x_iload_n eX9_hull_0 rfl ?_
    refine x_iconst (v := nI 0) eX9_hull_1 (by decide) ?_
    refine x_iconst (v := nI 3) eX9_hull_2 (by decide) ?_
    refine s_callS1 (As := [_, _, _]) eX9_hull_3 kX9_173 ⟨by decide, by decide⟩ rfl rfl (Nat.le_of_ble_eq_true rfl) (Nat.le_of_ble_eq_true rfl) (sp_X9_in _ _ _ _) (fun S_3 h_3 => ?_)
    have h_3 := h_3.symm
    subst h_3
    rw [in03]
    refine x_if_neB eX9_hull_6 (fun c_6 => ?_) (fun c_6 => ?_)
    · refine x_aload_n eX9_hull_12 rfl ?_
      refine x_iload_n eX9_hull_13 rfl ?_
      refine s_callV1 (As := [_]) eX9_hull_14 kX9_287 ⟨by decide, by decide⟩ rfl (by decide) (by decide) rfl rfl (Nat.le_of_ble_eq_true rfl) (Nat.le_of_ble_eq_true rfl) (sp_X9_there (h.tab w) _) (fun S_14 h_14 => ?_)
      have h_14 := h_14.symm
      subst h_14
      rw [ecnt]
      refine x_if_neN eX9_hull_17 (by omega) (fun c_17 => ?_) (fun c_17 => ?_)
      · exact m_hull2 w h n2 n200 fc srt memf
      · omega
    · exact absurd hl (of_decide_eq_false c_6)
