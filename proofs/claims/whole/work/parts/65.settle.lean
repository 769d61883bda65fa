/-! ===== rings that grow ===== -/
theorem crg.congr {S : xS} {r n : Nat} {f g : Nat → Nat} (h : crg S r n f) (e : ∀ i, i < n → f i = g i) : crg S r n g := ⟨h.1, h.2.1, h.2.2.1, fun i hi => by rw [← e i hi]; exact h.2.2.2 i hi⟩
theorem psh_fx {ls ds : List Nat} (S : xS) (r n c : Nat) : Fx [45 + 2 * r] [46 + 2 * r] ls ds S (psh S r n c) := (Fx.sI (by simp)).tr (Fx.sF (by simp))
theorem psh_crg {S : xS} {r n c : Nat} {f : Nat → Nat} (h : crg S r n f) (hn : n < 24) (hc : c < 201) : crg (psh S r n c) r (n + 1) (fun i => if i = n then c else f i) := by
  refine ⟨h.1, by omega, by unfold psh; rw [setF_at, upd_at], fun i hi => ?_⟩
  have e : (psh S r n c).2.1 (46 + 2 * r) i = upd (S.2.1 (46 + 2 * r)) n (nI c) i := by
    show (setI S (46 + 2 * r) _).2.1 (46 + 2 * r) i = _
    rw [setI_at]
  rw [e]
  show _ = nI (if i = n then c else f i) ∧ (if i = n then c else f i) < 201
  by_cases q : i = n
  · subst q; rw [upd_at, if_pos rfl]; exact ⟨rfl, hc⟩
  · rw [upd_ne _ _ q, if_neg q]; exact h.2.2.2 i (by omega)
theorem emp_crg {S : xS} {r : Nat} (hr : r < 65) : crg (setF S (45 + 2 * r) (upd (S.1 (45 + 2 * r)) 1 (nI 0))) r 0 (fun _ => 0) := ⟨hr, by omega, by rw [setF_at, upd_at], fun i hi => by omega⟩
def ldr (v : Nat → Pt) : Nat → Nat
  | 0 => 0
  | k + 1 => if ltP (v k) (v (ldr v k)) = true then k else ldr v k
theorem ldr_lt (v : Nat → Pt) : ∀ k, 0 < k → ldr v k < k := by
  intro k
  induction k with
  | zero => intro h; omega
  | succ k ih =>
    intro _
    show (if ltP (v k) (v (ldr v k)) = true then k else ldr v k) < k + 1
    split
    · omega
    · by_cases q : k = 0
      · subst q; exact Nat.zero_lt_one
      · have := ih (by omega); omega
/-- a ring turned left, from the corner ahead of all -/
def stl (v : Nat → Pt) (n : Nat) (c : Nat → Nat) : Nat → Nat := fun k => if orP (v (ldr v n + n - 1)) (v (ldr v n)) (v (ldr v n + 1)) < 0 then c ((ldr v n + n - k) % n) else c ((ldr v n + k) % n)
theorem nI_m1 (s i : Nat) : nI s + -1 * nI i = nI s - nI i := by rw [Int32.sub_eq_add_neg, Int32.neg_mul, Int32.one_mul]

theorem sp_X4_pushRun (S : xS) {r n t m s q : Nat} {f d : Nat → Nat} (hr : crg S r n f) (g0 : crg S t m d ∧ 0 < m) (hne : r ≠ t) (hq : n + q ≤ 24) (hs : s < 2 ^ 30) : Sp mX4_pushRun [.ref (45 + 2 * r), .ref (45 + 2 * t), .int (nI s), .int (nI q)] S (fun x S' => x = none ∧ Fx [45 + 2 * r] [46 + 2 * r] [] [] S S' ∧ crg S' r (n + q) (fun i => if i < n then f i else d ((s + (i - n)) % m))) := by
  have hr1 := hr.1
  have ht1 := g0.1.1
  have loop : ∀ μ k, k + μ = q → ∀ S1, (Fx [45 + 2 * r] [46 + 2 * r] [] [] S S1 ∧ crg S1 r (n + k) (fun i => if i < n then f i else d ((s + (i - n)) % m))) → XP mX4_pushRun 3 [(4, .int (nI k)), (0, .ref (45 + 2 * r)), (1, .ref (45 + 2 * t)), (2, .int (nI s)), (3, .int (nI q))] [] (xwS S1) (sQ (fun x S' => x = none ∧ Fx [45 + 2 * r] [46 + 2 * r] [] [] S S' ∧ crg S' r (n + q) (fun i => if i < n then f i else d ((s + (i - n)) % m)))) := by
    intro μ
    induction μ with
    | zero =>
      intro k hk S1 h1
      obtain ⟨hx, hc⟩ := h1
      have g : crg S1 t m d := g0.1.fx hx (by simp; omega) (by simp; omega)
      refine x_iload eX4_pushRun_3 rfl ?_
      refine x_iload_n eX4_pushRun_5 rfl ?_
      refine x_icmp_geN eX4_pushRun_6 (by omega) (by omega) (fun c_6 => ?_) (fun c_6 => ?_)
      · exact s_vret eX4_pushRun_27 rfl ⟨rfl, hx, by rw [show n + q = n + k by omega]; exact hc⟩
      · omega
    | succ μ ih =>
      intro k hk S1 h1
      obtain ⟨hx, hc⟩ := h1
      have g : crg S1 t m d := g0.1.fx hx (by simp; omega) (by simp; omega)
      refine x_iload eX4_pushRun_3 rfl ?_
      refine x_iload_n eX4_pushRun_5 rfl ?_
      refine x_icmp_geN eX4_pushRun_6 (by omega) (by omega) (fun c_6 => ?_) (fun c_6 => ?_)
      · omega
      · refine x_aload_n eX4_pushRun_9 rfl ?_
        refine x_aload_n eX4_pushRun_10 rfl ?_
        refine x_iload_n eX4_pushRun_11 rfl ?_
        refine x_iload eX4_pushRun_12 rfl ?_
        first | refine x_iaddN eX4_pushRun_14 ?_ | refine x_iadd eX4_pushRun_14 ?_
        refine s_callV1 (As := [_]) eX4_pushRun_15 kX4_19 ⟨by decide, by decide⟩ (kd_ring ht1) (by decide) (show _ < 365 by omega) rfl rfl (Nat.le_of_ble_eq_true rfl) (Nat.le_of_ble_eq_true rfl) (sp_X4_around _ g g0.2 (by omega)) (fun S_15 h_15 => ?_)
        subst h_15
        refine s_callV0 (As := [_]) eX4_pushRun_18 kX4_23 ⟨by decide, by decide⟩ (kd_ring hr1) (by decide) (show _ < 365 by omega) rfl rfl (Nat.le_of_ble_eq_true rfl) (Nat.le_of_ble_eq_true rfl) (sp_X4_push _ hr1 hc.2.2.1 (by omega)) (fun S_18 h_18 => ?_)
        subst h_18
        refine x_iinc (lv' := [_, _, _, _, _]) eX4_pushRun_21 rfl (by first | exact nI_inc _ | exact rfl) (by decide) rfl ?_
        refine x_goto eX4_pushRun_24 ?_
        refine x_pick [0, 1, 2, 3, 4] rfl ?_
        refine ih (k + 1) (by omega) _ ⟨hx.tr (psh_fx _ _ _ _), ?_⟩
        refine (psh_crg hc (by omega) (g.2.2.2 _ (Nat.mod_lt _ g0.2)).2).congr (fun i hi => ?_)
        by_cases z : i = n + k
        · subst z; rw [if_pos rfl, if_neg (by omega), show n + k - n = k by omega]
        · rw [if_neg z]
  show XP _ _ [_, _, _, _] _ _ _
  refine x_iconst (v := nI 0) eX4_pushRun_0 (by decide) ?_
  refine x_istore (lv' := [_, _, _, _, _]) eX4_pushRun_1 (by decide) rfl ?_
  refine x_pick [0, 1, 2, 3, 4] rfl ?_
  exact loop q 0 (by omega) _ ⟨Fx.rf _ _ _ _ _, hr.congr (fun i hi => (if_pos (by omega)).symm)⟩
theorem sp_aroundD (S : xS) {r n s i : Nat} {c : Nat → Nat} (h : crg S r n c) (h0 : 0 < n) (hs : s < n) (hi : i < n) : Sp mX4_around [.ref (45 + 2 * r), .int (nI s - nI i)] S (fun v S' => v = some (.int (nI (c ((s + n - i) % n)))) ∧ S' = S) := by
  have hn := h.2.1
  by_cases q : i ≤ s
  · rw [pk_sub q]
    have := sp_X4_around S h h0 (k := s - i) (by omega)
    rw [show s + n - i = s - i + n by omega, Nat.add_mod_right]
    exact this
  · rw [nI_negsub (by omega)]
    have := sp_X4_aroundM S h h0 (j := i - s) (by omega)
    rw [Nat.mod_eq_of_lt (show i - s < n by omega)] at this
    rw [show s + n - i = n - (i - s) by omega]
    exact this
theorem sp_X5_settle (S : xS) {nc r n t : Nat} {c : Nat → Nat} {P : Nat → Pt} (hp0 : cps S nc P) (h0 : CR S nc r n c) (ht : t < 65) (hne : r ≠ t) : Sp mX5_settle [.ref 36, .ref (45 + 2 * r), .ref (45 + 2 * t)] S (fun x S' => x = none ∧ Fx [45 + 2 * t] [46 + 2 * t] [364] [] S S' ∧ crg S' t n (stl (vr P c n) n c)) := by
  have hr := h0.1.1
  have hn := h0.1.2.1
  have n0 := h0.2.1
  have ln := ldr_lt (vr P c n) n n0
  have loopP : ∀ μ k, k + μ = n → ∀ S1, (¬ orP ((vr P c n) (ldr (vr P c n) n + n - 1)) ((vr P c n) (ldr (vr P c n) n)) ((vr P c n) (ldr (vr P c n) n + 1)) < 0 ∧ Fx [45 + 2 * t] [46 + 2 * t] [364] [] S S1 ∧ crg S1 t k (fun i => c ((ldr (vr P c n) n + i) % n))) → XP mX5_settle 91 [(6, .int (nI k)), (5, .int (nI 1)), (3, .int (nI (ldr (vr P c n) n))), (0, .ref 36), (1, .ref (45 + 2 * r)), (2, .ref (45 + 2 * t))] [] (xwS S1) (sQ (fun x S' => x = none ∧ Fx [45 + 2 * t] [46 + 2 * t] [364] [] S S' ∧ crg S' t n (stl (vr P c n) n c))) := by
    intro μ
    induction μ with
    | zero =>
      intro k hk S1 h1
      obtain ⟨hcd, hx, hc⟩ := h1
      have h := h0.fx hx (by simp; omega) (by simp; omega)
      refine x_iload eX5_settle_91 rfl ?_
      refine x_aload_n eX5_settle_93 rfl ?_
      refine s_geti eX5_settle_94 fX5_19 (kd_ring h0.1.1) (show _ < 365 by omega) (by decide) ?_
      rw [h.1.2.2.1]
      refine x_icmp_geN eX5_settle_97 (by omega) (by omega) (fun c_97 => ?_) (fun c_97 => ?_)
      · exact s_vret eX5_settle_121 rfl ⟨rfl, hx, by have hc := hc; rw [show k = n by omega] at hc; exact hc.congr (fun i hi => by unfold stl; first | rw [if_pos hcd] | rw [if_neg hcd])⟩
      · omega
    | succ μ ih =>
      intro k hk S1 h1
      obtain ⟨hcd, hx, hc⟩ := h1
      have h := h0.fx hx (by simp; omega) (by simp; omega)
      refine x_iload eX5_settle_91 rfl ?_
      refine x_aload_n eX5_settle_93 rfl ?_
      refine s_geti eX5_settle_94 fX5_19 (kd_ring h0.1.1) (show _ < 365 by omega) (by decide) ?_
      rw [h.1.2.2.1]
      refine x_icmp_geN eX5_settle_97 (by omega) (by omega) (fun c_97 => ?_) (fun c_97 => ?_)
      · omega
      · refine x_aload_n eX5_settle_100 rfl ?_
        refine x_aload_n eX5_settle_101 rfl ?_
        refine x_iload_n eX5_settle_102 rfl ?_
        refine x_iload eX5_settle_103 rfl ?_
        refine x_iload eX5_settle_105 rfl ?_
        first | refine x_imulN eX5_settle_107 ?_ | refine x_imul eX5_settle_107 ?_
        first | refine x_iaddN eX5_settle_108 ?_ | refine x_iadd eX5_settle_108 ?_
        refine s_callV1 (As := [_]) eX5_settle_109 kX5_35 ⟨by decide, by decide⟩ (kd_ring h0.1.1) (by decide) (show _ < 365 by omega) rfl rfl (Nat.le_of_ble_eq_true rfl) (Nat.le_of_ble_eq_true rfl) (sp_X4_around _ h.1 h.2.1 (by omega)) (fun S_109 h_109 => ?_)
        subst h_109
        refine s_callV0 (As := [_]) eX5_settle_112 kX5_56 ⟨by decide, by decide⟩ (kd_ring ht) (by decide) (show _ < 365 by omega) rfl rfl (Nat.le_of_ble_eq_true rfl) (Nat.le_of_ble_eq_true rfl) (sp_X4_push _ ht hc.2.2.1 (by omega)) (fun S_112 h_112 => ?_)
        subst h_112
        refine x_iinc (lv' := [_, _, _, _, _, _]) eX5_settle_115 rfl (by first | exact nI_inc _ | exact rfl) (by decide) rfl ?_
        refine x_goto eX5_settle_118 ?_
        refine x_pick [0, 1, 2, 3, 4, 5] rfl ?_
        refine ih (k + 1) (by omega) _ ⟨hcd, hx.tr (psh_fx _ _ _ _), ?_⟩
        refine (psh_crg hc (by omega) (h.1.2.2.2 _ (Nat.mod_lt _ h.2.1)).2).congr (fun i hi => ?_)
        by_cases z : i = k
        · subst z; rw [if_pos rfl]; rw [Nat.one_mul]
        · rw [if_neg z]
  have loopM : ∀ μ k, k + μ = n → ∀ S1, (orP ((vr P c n) (ldr (vr P c n) n + n - 1)) ((vr P c n) (ldr (vr P c n) n)) ((vr P c n) (ldr (vr P c n) n + 1)) < 0 ∧ Fx [45 + 2 * t] [46 + 2 * t] [364] [] S S1 ∧ crg S1 t k (fun i => c ((ldr (vr P c n) n + n - i) % n))) → XP mX5_settle 91 [(6, .int (nI k)), (5, .int (-1)), (3, .int (nI (ldr (vr P c n) n))), (0, .ref 36), (1, .ref (45 + 2 * r)), (2, .ref (45 + 2 * t))] [] (xwS S1) (sQ (fun x S' => x = none ∧ Fx [45 + 2 * t] [46 + 2 * t] [364] [] S S' ∧ crg S' t n (stl (vr P c n) n c))) := by
    intro μ
    induction μ with
    | zero =>
      intro k hk S1 h1
      obtain ⟨hcd, hx, hc⟩ := h1
      have h := h0.fx hx (by simp; omega) (by simp; omega)
      refine x_iload eX5_settle_91 rfl ?_
      refine x_aload_n eX5_settle_93 rfl ?_
      refine s_geti eX5_settle_94 fX5_19 (kd_ring h0.1.1) (show _ < 365 by omega) (by decide) ?_
      rw [h.1.2.2.1]
      refine x_icmp_geN eX5_settle_97 (by omega) (by omega) (fun c_97 => ?_) (fun c_97 => ?_)
      · exact s_vret eX5_settle_121 rfl ⟨rfl, hx, by have hc := hc; rw [show k = n by omega] at hc; exact hc.congr (fun i hi => by unfold stl; first | rw [if_pos hcd] | rw [if_neg hcd])⟩
      · omega
    | succ μ ih =>
      intro k hk S1 h1
      obtain ⟨hcd, hx, hc⟩ := h1
      have h := h0.fx hx (by simp; omega) (by simp; omega)
      refine x_iload eX5_settle_91 rfl ?_
      refine x_aload_n eX5_settle_93 rfl ?_
      refine s_geti eX5_settle_94 fX5_19 (kd_ring h0.1.1) (show _ < 365 by omega) (by decide) ?_
      rw [h.1.2.2.1]
      refine x_icmp_geN eX5_settle_97 (by omega) (by omega) (fun c_97 => ?_) (fun c_97 => ?_)
      · omega
      · refine x_aload_n eX5_settle_100 rfl ?_
        refine x_aload_n eX5_settle_101 rfl ?_
        refine x_iload_n eX5_settle_102 rfl ?_
        refine x_iload eX5_settle_103 rfl ?_
        refine x_iload eX5_settle_105 rfl ?_
        refine x_imul eX5_settle_107 ?_
        refine x_iadd eX5_settle_108 ?_
        rw [nI_m1]
        refine s_callV1 (As := [_]) eX5_settle_109 kX5_35 ⟨by decide, by decide⟩ (kd_ring h0.1.1) (by decide) (show _ < 365 by omega) rfl rfl (Nat.le_of_ble_eq_true rfl) (Nat.le_of_ble_eq_true rfl) (sp_aroundD _ h.1 h.2.1 (s := ldr (vr P c n) n) (i := k) (by omega) (by omega)) (fun S_109 h_109 => ?_)
        subst h_109
        refine s_callV0 (As := [_]) eX5_settle_112 kX5_56 ⟨by decide, by decide⟩ (kd_ring ht) (by decide) (show _ < 365 by omega) rfl rfl (Nat.le_of_ble_eq_true rfl) (Nat.le_of_ble_eq_true rfl) (sp_X4_push _ ht hc.2.2.1 (by omega)) (fun S_112 h_112 => ?_)
        subst h_112
        refine x_iinc (lv' := [_, _, _, _, _, _]) eX5_settle_115 rfl (by first | exact nI_inc _ | exact rfl) (by decide) rfl ?_
        refine x_goto eX5_settle_118 ?_
        refine x_pick [0, 1, 2, 3, 4, 5] rfl ?_
        refine ih (k + 1) (by omega) _ ⟨hcd, hx.tr (psh_fx _ _ _ _), ?_⟩
        refine (psh_crg hc (by omega) (h.1.2.2.2 _ (Nat.mod_lt _ h.2.1)).2).congr (fun i hi => ?_)
        by_cases z : i = k
        · subst z; rw [if_pos rfl]
        · rw [if_neg z]
  have loop : ∀ μ k, k + μ = n → ∀ S1, (S1 = S ∧ 0 < k) → XP mX5_settle 5 [(4, .int (nI k)), (3, .int (nI (ldr (vr P c n) k))), (0, .ref 36), (1, .ref (45 + 2 * r)), (2, .ref (45 + 2 * t))] [] (xwS S1) (sQ (fun x S' => x = none ∧ Fx [45 + 2 * t] [46 + 2 * t] [364] [] S S' ∧ crg S' t n (stl (vr P c n) n c))) := by
    intro μ
    induction μ with
    | zero =>
      intro k hk S1 h1
      obtain ⟨e1, k0⟩ := h1
      have e1 := e1.symm
      subst e1
      have lb := ldr_lt (vr P c n) k k0
      refine x_iload eX5_settle_5 rfl ?_
      refine x_aload_n eX5_settle_7 rfl ?_
      refine s_geti eX5_settle_8 fX5_19 (kd_ring h0.1.1) (show _ < 365 by omega) (by decide) ?_
      rw [h0.1.2.2.1]
      refine x_icmp_geN eX5_settle_11 (by omega) (by omega) (fun c_11 => ?_) (fun c_11 => ?_)
      · refine x_aload_n eX5_settle_44 rfl ?_
        have ek : k = n := by omega
        subst ek
        refine s_getR (k := 32) eX5_settle_45 fX5_15 rfl (by decide) (by decide) rfl ?_
        refine x_aload_n eX5_settle_48 rfl ?_
        refine x_iload_n eX5_settle_49 rfl ?_
        refine x_iconst (v := nI 1) eX5_settle_50 (by decide) ?_
        refine x_isub eX5_settle_51 ?_
        refine s_callV1 (As := [_]) eX5_settle_52 kX5_35 ⟨by decide, by decide⟩ (kd_ring h0.1.1) (by decide) (show _ < 365 by omega) rfl rfl (Nat.le_of_ble_eq_true rfl) (Nat.le_of_ble_eq_true rfl) (sp_X4_aroundP _ h0.1 h0.2.1 (by omega)) (fun S_52 h_52 => ?_)
        subst h_52
        refine x_aload_n eX5_settle_55 rfl ?_
        refine x_iload_n eX5_settle_56 rfl ?_
        refine s_callV1 (As := [_]) eX5_settle_57 kX5_35 ⟨by decide, by decide⟩ (kd_ring h0.1.1) (by decide) (show _ < 365 by omega) rfl rfl (Nat.le_of_ble_eq_true rfl) (Nat.le_of_ble_eq_true rfl) (sp_X4_around _ h0.1 h0.2.1 (by omega)) (fun S_57 h_57 => ?_)
        subst h_57
        refine x_aload_n eX5_settle_60 rfl ?_
        refine x_iload_n eX5_settle_61 rfl ?_
        refine x_iconst (v := nI 1) eX5_settle_62 (by decide) ?_
        first | refine x_iaddN eX5_settle_63 ?_ | refine x_iadd eX5_settle_63 ?_
        refine s_callV1 (As := [_]) eX5_settle_64 kX5_35 ⟨by decide, by decide⟩ (kd_ring h0.1.1) (by decide) (show _ < 365 by omega) rfl rfl (Nat.le_of_ble_eq_true rfl) (Nat.le_of_ble_eq_true rfl) (sp_X4_around _ h0.1 h0.2.1 (by omega)) (fun S_64 h_64 => ?_)
        subst h_64
        refine s_callV1 (As := [_, _, _]) eX5_settle_67 kX5_49 ⟨by decide, by decide⟩ rfl (by decide) (by decide) rfl rfl (Nat.le_of_ble_eq_true rfl) (Nat.le_of_ble_eq_true rfl) (sp_X2_turn _ (h0.pt hp0 _) (h0.pt hp0 _) (h0.pt hp0 _)) (fun S_67 h_67 => ?_)
        have hx := h_67.fx (fs := [45 + 2 * t]) (is := [46 + 2 * t]) (ls := [364]) (ds := []) (by simp)
        refine x_istore (lv' := [_, _, _, _, _]) eX5_settle_70 (by decide) rfl ?_
        refine x_iload eX5_settle_72 rfl ?_
        refine x_if_geS eX5_settle_74 (fun c_74 => ?_) (fun c_74 => ?_)
        · refine x_iconst (v := nI 1) eX5_settle_81 (by decide) ?_
          refine x_istore (lv' := [_, _, _, _, _, _]) eX5_settle_82 (by decide) rfl ?_
          refine x_aload_n eX5_settle_84 rfl ?_
          refine s_callV0 (As := []) eX5_settle_85 kX5_53 ⟨by decide, by decide⟩ (kd_ring ht) (by decide) (show _ < 365 by omega) rfl rfl (Nat.le_of_ble_eq_true rfl) (Nat.le_of_ble_eq_true rfl) (sp_X4_empty _ ht) (fun S_85 h_85 => ?_)
          subst h_85
          refine x_iconst (v := nI 0) eX5_settle_88 (by decide) ?_
          refine x_istore (lv' := [_, _, _, _, _, _, _]) eX5_settle_89 (by decide) rfl ?_
          refine x_pick [0, 1, 3, 4, 5, 6] rfl ?_
          first
            | exact loopM _ 0 (Nat.zero_add _) _ ⟨c_74, hx.tr (Fx.sF (by simp)), emp_crg ht |>.congr (fun i hi => by omega)⟩
            | exact loopP _ 0 (Nat.zero_add _) _ ⟨Int.not_lt.mpr c_74, hx.tr (Fx.sF (by simp)), emp_crg ht |>.congr (fun i hi => by omega)⟩
        · refine x_iconst (v := -1) eX5_settle_77 (by decide) ?_
          refine x_goto eX5_settle_78 ?_
          refine x_istore (lv' := [_, _, _, _, _, _]) eX5_settle_82 (by decide) rfl ?_
          refine x_aload_n eX5_settle_84 rfl ?_
          refine s_callV0 (As := []) eX5_settle_85 kX5_53 ⟨by decide, by decide⟩ (kd_ring ht) (by decide) (show _ < 365 by omega) rfl rfl (Nat.le_of_ble_eq_true rfl) (Nat.le_of_ble_eq_true rfl) (sp_X4_empty _ ht) (fun S_85 h_85 => ?_)
          subst h_85
          refine x_iconst (v := nI 0) eX5_settle_88 (by decide) ?_
          refine x_istore (lv' := [_, _, _, _, _, _, _]) eX5_settle_89 (by decide) rfl ?_
          refine x_pick [0, 1, 3, 4, 5, 6] rfl ?_
          first
            | exact loopM _ 0 (Nat.zero_add _) _ ⟨c_74, hx.tr (Fx.sF (by simp)), emp_crg ht |>.congr (fun i hi => by omega)⟩
            | exact loopP _ 0 (Nat.zero_add _) _ ⟨Int.not_lt.mpr c_74, hx.tr (Fx.sF (by simp)), emp_crg ht |>.congr (fun i hi => by omega)⟩
      · omega
    | succ μ ih =>
      intro k hk S1 h1
      obtain ⟨e1, k0⟩ := h1
      have e1 := e1.symm
      subst e1
      have lb := ldr_lt (vr P c n) k k0
      refine x_iload eX5_settle_5 rfl ?_
      refine x_aload_n eX5_settle_7 rfl ?_
      refine s_geti eX5_settle_8 fX5_19 (kd_ring h0.1.1) (show _ < 365 by omega) (by decide) ?_
      rw [h0.1.2.2.1]
      refine x_icmp_geN eX5_settle_11 (by omega) (by omega) (fun c_11 => ?_) (fun c_11 => ?_)
      · omega
      · refine x_aload_n eX5_settle_14 rfl ?_
        refine s_getR (k := 32) eX5_settle_15 fX5_15 rfl (by decide) (by decide) rfl ?_
        refine x_aload_n eX5_settle_18 rfl ?_
        refine x_iload eX5_settle_19 rfl ?_
        refine s_callV1 (As := [_]) eX5_settle_21 kX5_35 ⟨by decide, by decide⟩ (kd_ring h0.1.1) (by decide) (show _ < 365 by omega) rfl rfl (Nat.le_of_ble_eq_true rfl) (Nat.le_of_ble_eq_true rfl) (sp_X4_around _ h0.1 h0.2.1 (by omega)) (fun S_21 h_21 => ?_)
        subst h_21
        refine x_aload_n eX5_settle_24 rfl ?_
        refine x_iload_n eX5_settle_25 rfl ?_
        refine s_callV1 (As := [_]) eX5_settle_26 kX5_35 ⟨by decide, by decide⟩ (kd_ring h0.1.1) (by decide) (show _ < 365 by omega) rfl rfl (Nat.le_of_ble_eq_true rfl) (Nat.le_of_ble_eq_true rfl) (sp_X4_around _ h0.1 h0.2.1 (by omega)) (fun S_26 h_26 => ?_)
        subst h_26
        refine s_callV1 (As := [_, _]) eX5_settle_29 kX5_45 ⟨by decide, by decide⟩ rfl (by decide) (by decide) rfl rfl (Nat.le_of_ble_eq_true rfl) (Nat.le_of_ble_eq_true rfl) (sp_X2_isAhead _ (h0.pt hp0 _) (h0.pt hp0 _)) (fun S_29 h_29 => ?_)
        subst h_29
        refine x_if_eqB eX5_settle_32 (fun c_32 => ?_) (fun c_32 => ?_)
        · refine x_iinc (lv' := [_, _, _, _, _]) eX5_settle_38 rfl (by first | exact nI_inc _ | exact rfl) (by decide) rfl ?_
          refine x_goto eX5_settle_41 ?_
          refine x_pick [0, 1, 2, 3, 4] rfl ?_
          have := ih (k + 1) (by omega) _ ⟨rfl, by omega⟩
          first
            | (rw [show ldr (vr P c n) (k + 1) = k from if_pos c_32] at this; exact this)
            | (rw [show ldr (vr P c n) (k + 1) = ldr (vr P c n) k from if_neg (by rw [c_32]; decide)] at this; exact this)
        · refine x_iload eX5_settle_35 rfl ?_
          refine x_istore_n (lv' := [_, _, _, _, _]) eX5_settle_37 (by decide) rfl ?_
          refine x_iinc (lv' := [_, _, _, _, _]) eX5_settle_38 rfl (by first | exact nI_inc _ | exact rfl) (by decide) rfl ?_
          refine x_goto eX5_settle_41 ?_
          refine x_pick [0, 1, 2, 3, 4] rfl ?_
          have := ih (k + 1) (by omega) _ ⟨rfl, by omega⟩
          first
            | (rw [show ldr (vr P c n) (k + 1) = k from if_pos c_32] at this; exact this)
            | (rw [show ldr (vr P c n) (k + 1) = ldr (vr P c n) k from if_neg (by rw [c_32]; decide)] at this; exact this)
  show XP _ _ [_, _, _] _ _ _
  refine x_iconst (v := nI 0) eX5_settle_0 (by decide) ?_
  refine x_istore_n (lv' := [_, _, _, _]) eX5_settle_1 (by decide) rfl ?_
  refine x_iconst (v := nI 1) eX5_settle_2 (by decide) ?_
  refine x_istore (lv' := [_, _, _, _, _]) eX5_settle_3 (by decide) rfl ?_
  refine x_pick [0, 1, 2, 3, 4] rfl ?_
  have e0 : ldr (vr P c n) 1 = 0 := by show (if _ then 0 else 0) = 0; split <;> rfl
  have := loop (n - 1) 1 (by omega) _ ⟨rfl, by omega⟩
  rw [e0] at this
  exact this
