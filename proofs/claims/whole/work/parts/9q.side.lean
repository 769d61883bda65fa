/-! ===== side ===== -/
theorem num_sn {x : Int64} (h : isNum x = true) (hp : plainB x = x) : vn_snl2d x = false := by
  unfold vn_snl2d
  have hn := toU_nat x
  have e : (x.toUInt64 &&& 0x7fffffffffffffff).toNat = x.toUInt64.toNat % 2 ^ 63 := by
    rw [UInt64.toNat_and]
    exact Nat.and_two_pow_sub_one_eq_mod _ 63
  have e2 : ((x.toUInt64.toNat % 2 ^ 63 : Nat) : Int) = szZ x := by
    unfold szZ
    omega
  have lt : ¬ (x.toUInt64 &&& 0x7fffffffffffffff > 0x7ff0000000000000) := fun z => by
    have z1 := UInt64.lt_iff_toNat_lt.mp z
    rw [e] at z1
    have z1 : (0x7ff0000000000000 : Nat) < x.toUInt64.toNat % 2 ^ 63 := z1
    by_cases h0 : szZ x = 0
    · omega
    · have b := (pw_bounds h h0).2
      have nn := szZ_nn x
      unfold pwN at b
      omega
  rw [decide_eq_false lt]
  rfl
theorem vz_half50 : vz 50 (4382002437431492608 : Int64).toUInt64 1 := ⟨false, 2 ^ 52, -102, by decide +kernel, by decide +kernel, fun _ => by decide⟩
theorem rn_abs (z : Int) : ((rn z).natAbs : Int) = rn (z.natAbs : Int) := by
  rw [rn_natAbs]
  unfold rn
  rw [if_neg (by omega), Int.natAbs_natCast]
theorem est_vz2 {ax ay bx bY cx cy : UInt64} {A B C : Pt} (a1 : vz 72 ax A.1) (a2 : vz 72 ay A.2) (b1 : vz 72 bx B.1) (b2 : vz 72 bY B.2) (c1 : vz 72 cx C.1) (c2 : vz 72 cy C.2) (hA : (-(2 ^ 101) ≤ A.1 ∧ A.1 ≤ 2 ^ 101) ∧ -(2 ^ 101) ≤ A.2 ∧ A.2 ≤ 2 ^ 101) (hB : (-(2 ^ 101) ≤ B.1 ∧ B.1 ≤ 2 ^ 101) ∧ -(2 ^ 101) ≤ B.2 ∧ B.2 ≤ 2 ^ 101) (hC : (-(2 ^ 101) ≤ C.1 ∧ C.1 ≤ 2 ^ 101) ∧ -(2 ^ 101) ≤ C.2 ∧ C.2 ≤ 2 ^ 101) :
    (vz 72 (FP.dsub ax cx) (rn (A.1 - C.1)) ∧ vz 72 (FP.dsub bY cy) (rn (B.2 - C.2)) ∧ vz 144 (FP.dmul (FP.dsub ax cx) (FP.dsub bY cy)) (estE A B C)) ∧
    (vz 72 (FP.dsub ay cy) (rn (A.2 - C.2)) ∧ vz 72 (FP.dsub bx cx) (rn (B.1 - C.1)) ∧ vz 144 (FP.dmul (FP.dsub ay cy) (FP.dsub bx cx)) (estF A B C)) ∧ (estE A B C).natAbs < 2 ^ 300 ∧ (estF A B C).natAbs < 2 ^ 300 := by
  have big : (2 : Nat) ^ 104 < 2 ^ (72 + 900) := Nat.pow_lt_pow_right (by decide) (by decide)
  have big2 : (2 : Nat) ^ 206 < 2 ^ (72 + 72 + 900) := Nat.pow_lt_pow_right (by decide) (by decide)
  have n1 : (A.1 - C.1).natAbs ≤ 2 ^ 102 := by omega
  have n2 : (B.2 - C.2).natAbs ≤ 2 ^ 102 := by omega
  have n3 : (A.2 - C.2).natAbs ≤ 2 ^ 102 := by omega
  have n4 : (B.1 - C.1).natAbs ≤ 2 ^ 102 := by omega
  have d1 := vz_dsub (by decide) a1 c1 (show (A.1 - C.1).natAbs < 2 ^ (72 + 900) by omega)
  have d2 := vz_dsub (by decide) b2 c2 (show (B.2 - C.2).natAbs < 2 ^ (72 + 900) by omega)
  have d3 := vz_dsub (by decide) a2 c2 (show (A.2 - C.2).natAbs < 2 ^ (72 + 900) by omega)
  have d4 := vz_dsub (by decide) b1 c1 (show (B.1 - C.1).natAbs < 2 ^ (72 + 900) by omega)
  have m1 := prod_bd (rn_le n1) (rn_le n2)
  have m2 := prod_bd (rn_le n3) (rn_le n4)
  have e1 := vz_dmul (by decide) d1 d2 (by omega)
  have e2 := vz_dmul (by decide) d3 d4 (by omega)
  have r1 := rn_le m1
  have r2 := rn_le m2
  have big3 : (2 : Nat) ^ 207 < 2 ^ 300 := Nat.pow_lt_pow_right (by decide) (by decide)
  exact ⟨⟨d1, d2, e1⟩, ⟨d3, d4, e2⟩, by unfold estE; omega, by unfold estF; omega⟩

theorem sp_X9_size (S : xS) {u : Nat} {d : UInt64} {z : Int} (hd : vz u d z) : Sp mX9_size [.double d] S (fun r S' => ∃ d', r = some (.double d') ∧ vz u d' (z.natAbs : Int) ∧ S' = S) := by
  have nd := vz_neg hd
  show XP _ _ [_] _ _ _
  refine x_dload_n eX9_size_0 rfl ?_
  refine x_dconst0 eX9_size_1 ?_
  refine x_dcmp eX9_size_2 ?_
  rw [cmpV hd (vz_0 u)]
  refine x_if_geS eX9_size_3 (fun c_3 => ?_) (fun c_3 => ?_)
  · refine x_dload_n eX9_size_11 rfl ?_
    first
      | (rw [show -z = (z.natAbs : Int) by omega] at nd; exact s_dret eX9_size_12 rfl ⟨_, rfl, nd, rfl⟩)
      | (rw [show z = (z.natAbs : Int) by omega] at hd; exact s_dret eX9_size_12 rfl ⟨_, rfl, hd, rfl⟩)
  · refine x_dload_n eX9_size_6 rfl ?_
    refine x_dneg eX9_size_7 ?_
    refine x_goto eX9_size_8 ?_
    first
      | (rw [show -z = (z.natAbs : Int) by omega] at nd; exact s_dret eX9_size_12 rfl ⟨_, rfl, nd, rfl⟩)
      | (rw [show z = (z.natAbs : Int) by omega] at hd; exact s_dret eX9_size_12 rfl ⟨_, rfl, hd, rfl⟩)
theorem orP_2 (a b c : Pt) : sg (orP (scP 2 a) (scP 2 b) (scP 2 c)) = sg (orP a b c) := by
  have : orP (scP 2 a) (scP 2 b) (scP 2 c) = 4 * orP a b c := by
    unfold orP scP
    grind
  rw [this]
  exact sg_sc (by decide)
theorem dif_vz {E F : Int} {e f : UInt64} (he : vz 144 e E) (hf : vz 144 f F) (bE : E.natAbs < 2 ^ 300) (bF : F.natAbs < 2 ^ 300) : vz 144 (FP.dsub e f) (rn (E - F)) := by
  have big4 : (2 : Nat) ^ 304 < 2 ^ (144 + 900) := Nat.pow_lt_pow_right (by decide) (by decide)
  exact vz_dsub (by decide) he hf (show (E - F).natAbs < 2 ^ (144 + 900) by omega)
theorem sure_est {E F : Int} {d1 d2 d3 : UInt64} (bE : E.natAbs < 2 ^ 300) (bF : F.natAbs < 2 ^ 300) (v1 : vz 144 d1 ((rn (E - F)).natAbs : Int)) (v2 : vz 144 d2 (E.natAbs : Int)) (v3 : vz 144 d3 (F.natAbs : Int)) : vz 144 (FP.dadd d2 d3) (rn ((E.natAbs : Int) + F.natAbs)) ∧ vz (144 + 50) (FP.dmul (FP.dadd d2 d3) (4382002437431492608 : Int64).toUInt64) (rn ((E.natAbs : Int) + F.natAbs)) ∧ vz (144 + 50) d1 (rn ((E - F).natAbs : Int) * 2 ^ 50) := by
  have big4 : (2 : Nat) ^ 304 < 2 ^ (144 + 900) := Nat.pow_lt_pow_right (by decide) (by decide)
  have big5 : (2 : Nat) ^ 304 < 2 ^ (144 + 50 + 900) := Nat.pow_lt_pow_right (by decide) (by decide)
  have da := vz_dadd (by decide) v2 v3 (show ((E.natAbs : Int) + F.natAbs).natAbs < 2 ^ (144 + 900) by omega)
  have rb := rn_le (z := (E.natAbs : Int) + F.natAbs) (k := 301) (by omega)
  have dm := vz_dmul (by decide) da vz_half50 (by rw [Int.mul_one]; omega)
  rw [Int.mul_one, rn_idem] at dm
  have dl := vz_rep (k := 50) v1
  rw [rn_abs] at dl
  exact ⟨da, dm, dl⟩
theorem sure_0 {E F : Int} (c : rn ((E - F).natAbs : Int) * 2 ^ 50 - rn ((E.natAbs : Int) + F.natAbs) ≤ 0) : bI (sureZ E F) = nI 0 := by
  unfold sureZ; rw [decide_eq_false (by omega)]; rfl
theorem sure_1 {E F : Int} (c : 0 < rn ((E - F).natAbs : Int) * 2 ^ 50 - rn ((E.natAbs : Int) + F.natAbs)) : bI (sureZ E F) = nI 1 := by
  unfold sureZ; rw [decide_eq_true (by omega)]; rfl
theorem l2d_a : Cond.methodLink mX9_side.1.cls 192 ⟨"java/lang/Double", "longBitsToDouble", "(J)D"⟩ ∈ xTs := xT 864 (by decide +kernel) rfl
theorem l2d_b : Cond.native ⟨"java/lang/Double", "longBitsToDouble", "(J)D"⟩ ∈ xTs := xT 866 (by decide +kernel) rfl
theorem l2d_c : Cond.static ⟨"java/lang/Double", "longBitsToDouble", "(J)D"⟩ ∈ xTs := xT 865 (by decide +kernel) rfl
theorem l2d_d : Cond.initialized "java/lang/Double" ∈ xTs := xT 11 (by decide +kernel) rfl
theorem ldc_half : Cond.constantLong mX9_side.1.cls 202 4382002437431492608 ∈ xTs := xT 870 (by decide +kernel) rfl
theorem sn_half : vn_snl2d 4382002437431492608 = false := by decide +kernel
theorem x_l2dS {pc pc' : Nat} {x : Int64} {lv : List (Nat × Value)} {rest : List Value} {w : xW} {Q : Option Value → xW → Prop} (hd : xAt mX9_side pc (.invokestatic 192) 3 pc') (hv : vn_snl2d x = false) (hr : (rest.map fun v => v.category).sum ≤ 8) (kk : XP mX9_side pc' lv (.double x.toUInt64 :: rest) w Q) : XP mX9_side pc lv (.long x :: rest) w Q := x_l2dbits hd l2d_a l2d_b l2d_c l2d_d hv (by decide) hr kk
theorem c_side {X : LM} (w : wf X) {a b c : Nat} (ha : a < xNc X) (hb : b < xNc X) (hc : c < xNc X) (S : xS) (h : RC S X) : Sp mX8_side [.ref 31, .int (nI a), .int (nI b), .int (nI c)] S (fun r S' => r = some (.int (sg (orP (PX X a) (PX X b) (PX X c)))) ∧ RC S' (uS X (xWh X) (bI (sureZ (estE (PX X a) (PX X b) (PX X c)) (estF (PX X a) (PX X b) (PX X c)))) (xEd X)) ∧ frC S S') := by
  have n200 := w.1
  show XP _ _ [_, _, _, _] _ _ _
  refine x_aload_n eX8_side_0 rfl ?_
  refine s_getR (k := 32) eX8_side_1 fX8_12 rfl (by decide) (by decide) rfl ?_
  refine x_iload_n eX8_side_4 rfl ?_
  refine s_callV1 (As := [_]) eX8_side_5 kX8_88 ⟨by decide, by decide⟩ rfl (by decide) (by decide) rfl rfl (Nat.le_of_ble_eq_true rfl) (Nat.le_of_ble_eq_true rfl) (sp_X2_has _ h.1.1 n200 (nI a)) (fun S_5 h_5 => ?_)
  have h_5 := h_5.symm
  subst h_5
  refine x_if_eqT eX8_side_8 (fun c_8 => ?_) (fun c_8 => ?_)
  · exact absurd ⟨a, ha, rfl⟩ c_8
  · refine x_aload_n eX8_side_11 rfl ?_
    refine s_getR (k := 32) eX8_side_12 fX8_12 rfl (by decide) (by decide) rfl ?_
    refine x_iload_n eX8_side_15 rfl ?_
    refine s_callV1 (As := [_]) eX8_side_16 kX8_88 ⟨by decide, by decide⟩ rfl (by decide) (by decide) rfl rfl (Nat.le_of_ble_eq_true rfl) (Nat.le_of_ble_eq_true rfl) (sp_X2_has _ h.1.1 n200 (nI b)) (fun S_16 h_16 => ?_)
    have h_16 := h_16.symm
    subst h_16
    refine x_if_eqT eX8_side_19 (fun c_19 => ?_) (fun c_19 => ?_)
    · exact absurd ⟨b, hb, rfl⟩ c_19
    · refine x_aload_n eX8_side_22 rfl ?_
      refine s_getR (k := 32) eX8_side_23 fX8_12 rfl (by decide) (by decide) rfl ?_
      refine x_iload_n eX8_side_26 rfl ?_
      refine s_callV1 (As := [_]) eX8_side_27 kX8_88 ⟨by decide, by decide⟩ rfl (by decide) (by decide) rfl rfl (Nat.le_of_ble_eq_true rfl) (Nat.le_of_ble_eq_true rfl) (sp_X2_has _ h.1.1 n200 (nI c)) (fun S_27 h_27 => ?_)
      have h_27 := h_27.symm
      subst h_27
      refine x_if_neT eX8_side_30 (fun c_30 => ?_) (fun c_30 => ?_)
      · refine x_aload_n eX8_side_36 rfl ?_
        refine x_aload_n eX8_side_37 rfl ?_
        refine s_getR (k := 32) eX8_side_38 fX8_12 rfl (by decide) (by decide) rfl ?_
        refine x_iload_n eX8_side_41 rfl ?_
        refine x_iload_n eX8_side_42 rfl ?_
        refine x_iload_n eX8_side_43 rfl ?_
        refine s_callV1 (As := [_, _, _]) eX8_side_44 kX8_100 ⟨by decide, by decide⟩ rfl (by decide) (by decide) rfl rfl (Nat.le_of_ble_eq_true rfl) (Nat.le_of_ble_eq_true rfl) (sp_X2_isSure _ (h.1.2.1 a ha).2.2 (h.1.2.1 b hb).2.2 (h.1.2.1 c hc).2.2) (fun S_44 h_44 => ?_)
        have h_44 := h_44.symm
        subst h_44
        refine x_if_eqB eX8_side_47 (fun c_47 => ?_) (fun c_47 => ?_)
        · have es : bI (sureZ (estE (PX X a) (PX X b) (PX X c)) (estF (PX X a) (PX X b) (PX X c))) = nI 0 := by rw [c_47]; rfl
          refine x_iconst (v := nI 0) eX8_side_54 (by decide) ?_
          refine s_puti eX8_side_55 fX8_63 wX8_9 rfl (by decide) (by decide) ?_
          refine x_aload_n eX8_side_58 rfl ?_
          refine s_getR (k := 32) eX8_side_59 fX8_12 rfl (by decide) (by decide) rfl ?_
          refine x_iload_n eX8_side_62 rfl ?_
          refine x_iload_n eX8_side_63 rfl ?_
          refine x_iload_n eX8_side_64 rfl ?_
          refine s_callV1 (As := [_, _, _]) eX8_side_65 kX8_104 ⟨by decide, by decide⟩ rfl (by decide) (by decide) rfl rfl (Nat.le_of_ble_eq_true rfl) (Nat.le_of_ble_eq_true rfl) (sp_X2_turn _ (show cpt (setF S 31 (upd (S.1 31) 9 (nI 0))) a (PX X a) from (h.1.2.1 a ha).2.2) (h.1.2.1 b hb).2.2 (h.1.2.1 c hc).2.2) (fun S_65 h_65 => ?_)
          have g : RC (setF S 31 (upd (S.1 31) 9 (nI 0))) (uS X (xWh X) (bI (sureZ (estE (PX X a) (PX X b) (PX X c)) (estF (PX X a) (PX X b) (PX X c)))) (xEd X)) := RC_31 (S' := setF S 31 (upd (S.1 31) 9 (nI 0))) h (fun p hp => setF_ne _ _ hp) rfl (by rw [setF_at, upd_ne _ _ (by decide)]; exact h.2.2.1.1) (by rw [setF_at, upd_at, es]) (by rw [setF_at, upd_ne _ _ (by decide)]; exact h.2.2.1.2.2)
          exact s_iret eX8_side_68 rfl rfl ⟨rfl, RC_L g h_65, ((Fx.sF (S := S) (p := 31) (g := upd (S.1 31) 9 (nI 0)) (fs := [31]) (is := []) (ls := []) (ds := []) (by simp)).frC (by simp) (by simp) (by simp)).tr (h_65.frC (by simp))⟩
        · have es : bI (sureZ (estE (PX X a) (PX X b) (PX X c)) (estF (PX X a) (PX X b) (PX X c))) = nI 1 := by rw [c_47]; rfl
          refine x_iconst (v := nI 1) eX8_side_50 (by decide) ?_
          refine x_goto eX8_side_51 ?_
          refine s_puti eX8_side_55 fX8_63 wX8_9 rfl (by decide) (by decide) ?_
          refine x_aload_n eX8_side_58 rfl ?_
          refine s_getR (k := 32) eX8_side_59 fX8_12 rfl (by decide) (by decide) rfl ?_
          refine x_iload_n eX8_side_62 rfl ?_
          refine x_iload_n eX8_side_63 rfl ?_
          refine x_iload_n eX8_side_64 rfl ?_
          refine s_callV1 (As := [_, _, _]) eX8_side_65 kX8_104 ⟨by decide, by decide⟩ rfl (by decide) (by decide) rfl rfl (Nat.le_of_ble_eq_true rfl) (Nat.le_of_ble_eq_true rfl) (sp_X2_turn _ (show cpt (setF S 31 (upd (S.1 31) 9 (nI 1))) a (PX X a) from (h.1.2.1 a ha).2.2) (h.1.2.1 b hb).2.2 (h.1.2.1 c hc).2.2) (fun S_65 h_65 => ?_)
          have g : RC (setF S 31 (upd (S.1 31) 9 (nI 1))) (uS X (xWh X) (bI (sureZ (estE (PX X a) (PX X b) (PX X c)) (estF (PX X a) (PX X b) (PX X c)))) (xEd X)) := RC_31 (S' := setF S 31 (upd (S.1 31) 9 (nI 1))) h (fun p hp => setF_ne _ _ hp) rfl (by rw [setF_at, upd_ne _ _ (by decide)]; exact h.2.2.1.1) (by rw [setF_at, upd_at, es]) (by rw [setF_at, upd_ne _ _ (by decide)]; exact h.2.2.1.2.2)
          exact s_iret eX8_side_68 rfl rfl ⟨rfl, RC_L g h_65, ((Fx.sF (S := S) (p := 31) (g := upd (S.1 31) 9 (nI 1)) (fs := [31]) (is := []) (ls := []) (ds := []) (by simp)).frC (by simp) (by simp) (by simp)).tr (h_65.frC (by simp))⟩
      · exact absurd ⟨c, hc, rfl⟩ c_30
theorem m_side2 {X : LM} (w : wf X) {a b c : Nat} (ha : a < xNc X) (hb : b < xNc X) (hc : c < xNc X) (S : xS) (h : RM S X) {e f x y : UInt64} {E F : Int} (he : vz 144 e E) (hf : vz 144 f F) (bE : E.natAbs < 2 ^ 300) (bF : F.natAbs < 2 ^ 300) : XP mX9_side 103 [(10, .double f), (8, .double e), (6, .double y), (4, .double x), (0, .ref 0), (1, .int (nI a)), (2, .int (nI b)), (3, .int (nI c))] [] (xwS S) (sQ (fun r S' => r = some (.int (sg (orP (PX X a) (PX X b) (PX X c)))) ∧ RM S' (uS X (xWh X) (bI (sureZ E F)) (xEd X)) ∧ frM S S')) := by
  have dd := dif_vz he hf bE bF
  refine x_aload_n eX9_side_103 rfl ?_
  refine x_dload eX9_side_104 rfl ?_
  refine x_dload eX9_side_106 rfl ?_
  refine x_dsub eX9_side_108 (vz_n64 dd) ?_
  refine s_callS (As := [_]) eX9_side_109 kX9_198 ⟨by decide, by decide⟩ rfl rfl (Nat.le_of_ble_eq_true rfl) (Nat.le_of_ble_eq_true rfl) (sp_X9_size _ dd) (fun r_109 S_109 h_109 => ?_)
  obtain ⟨d_109, rfl, v_109, q_109⟩ := h_109
  show XP _ _ _ (_ :: _) _ _
  have q_109 := q_109.symm
  subst q_109
  refine x_dload eX9_side_112 rfl ?_
  refine s_callS (As := [_]) eX9_side_114 kX9_198 ⟨by decide, by decide⟩ rfl rfl (Nat.le_of_ble_eq_true rfl) (Nat.le_of_ble_eq_true rfl) (sp_X9_size _ he) (fun r_114 S_114 h_114 => ?_)
  obtain ⟨d_114, rfl, v_114, q_114⟩ := h_114
  show XP _ _ _ (_ :: _) _ _
  have q_114 := q_114.symm
  subst q_114
  refine x_dload eX9_side_117 rfl ?_
  refine s_callS (As := [_]) eX9_side_119 kX9_198 ⟨by decide, by decide⟩ rfl rfl (Nat.le_of_ble_eq_true rfl) (Nat.le_of_ble_eq_true rfl) (sp_X9_size _ hf) (fun r_119 S_119 h_119 => ?_)
  obtain ⟨d_119, rfl, v_119, q_119⟩ := h_119
  show XP _ _ _ (_ :: _) _ _
  have q_119 := q_119.symm
  subst q_119
  obtain ⟨da, dm, dl⟩ := sure_est bE bF v_109 v_114 v_119
  refine x_dadd eX9_side_122 (vz_n64 da) ?_
  refine x_ldc2 (v := 4382002437431492608) eX9_side_123 ldc_half ?_
  refine x_l2dS eX9_side_126 sn_half (Nat.le_of_ble_eq_true rfl) ?_
  refine x_dmul eX9_side_129 (vz_n64 dm) ?_
  refine x_dcmp eX9_side_130 ?_
  rw [cmpV dl dm]
  refine x_if_leS eX9_side_131 (fun c_131 => ?_) (fun c_131 => ?_)
  · have es := sure_0 c_131
    refine x_iconst (v := nI 0) eX9_side_138 (by decide) ?_
    refine s_puti eX9_side_139 fX9_31 wX9_8 rfl (by decide) (by decide) ?_
    refine x_aload_n eX9_side_142 rfl ?_
    refine x_iload_n eX9_side_143 rfl ?_
    refine x_iload_n eX9_side_144 rfl ?_
    refine x_iload_n eX9_side_145 rfl ?_
    refine s_callV1 (As := [_, _, _]) eX9_side_146 kX9_162 ⟨by decide, by decide⟩ rfl (by decide) (by decide) rfl rfl (Nat.le_of_ble_eq_true rfl) (Nat.le_of_ble_eq_true rfl) (sp_X9_turn _ (show pt (setF S 0 (upd (S.1 0) 8 (nI 0))) a (scP 2 (PX X a)) from (h.1.2.1 a ha).2.2) (h.1.2.1 b hb).2.2 (h.1.2.1 c hc).2.2) (fun S_146 h_146 => ?_)
    rw [orP_2]
    have g : RM (setF S 0 (upd (S.1 0) 8 (nI 0))) (uS X (xWh X) (bI (sureZ E F)) (xEd X)) := RM_0 (S' := setF S 0 (upd (S.1 0) 8 (nI 0))) h (fun f f1 _ _ => by rw [setF_at, upd_ne _ _ f1]) rfl (by rw [setF_at, upd_ne _ _ (by decide)]; exact h.2.2.1.1) (by rw [setF_at, upd_at, es]) (by rw [setF_at, upd_ne _ _ (by decide)]; exact h.2.2.1.2.2)
    exact s_iret eX9_side_149 rfl rfl ⟨rfl, RM_L (wf_uS w _ _ _) g h_146, ((Fx.sF (S := S) (p := 0) (g := upd (S.1 0) 8 (nI 0)) (fs := [0]) (is := []) (ls := []) (ds := []) (by simp)).frM (by simp) (by simp) (by simp) (by simp)).tr (h_146.frM (by simp))⟩
  · have es := sure_1 c_131
    refine x_iconst (v := nI 1) eX9_side_134 (by decide) ?_
    refine x_goto eX9_side_135 ?_
    refine s_puti eX9_side_139 fX9_31 wX9_8 rfl (by decide) (by decide) ?_
    refine x_aload_n eX9_side_142 rfl ?_
    refine x_iload_n eX9_side_143 rfl ?_
    refine x_iload_n eX9_side_144 rfl ?_
    refine x_iload_n eX9_side_145 rfl ?_
    refine s_callV1 (As := [_, _, _]) eX9_side_146 kX9_162 ⟨by decide, by decide⟩ rfl (by decide) (by decide) rfl rfl (Nat.le_of_ble_eq_true rfl) (Nat.le_of_ble_eq_true rfl) (sp_X9_turn _ (show pt (setF S 0 (upd (S.1 0) 8 (nI 1))) a (scP 2 (PX X a)) from (h.1.2.1 a ha).2.2) (h.1.2.1 b hb).2.2 (h.1.2.1 c hc).2.2) (fun S_146 h_146 => ?_)
    rw [orP_2]
    have g : RM (setF S 0 (upd (S.1 0) 8 (nI 1))) (uS X (xWh X) (bI (sureZ E F)) (xEd X)) := RM_0 (S' := setF S 0 (upd (S.1 0) 8 (nI 1))) h (fun f f1 _ _ => by rw [setF_at, upd_ne _ _ f1]) rfl (by rw [setF_at, upd_ne _ _ (by decide)]; exact h.2.2.1.1) (by rw [setF_at, upd_at, es]) (by rw [setF_at, upd_ne _ _ (by decide)]; exact h.2.2.1.2.2)
    exact s_iret eX9_side_149 rfl rfl ⟨rfl, RM_L (wf_uS w _ _ _) g h_146, ((Fx.sF (S := S) (p := 0) (g := upd (S.1 0) 8 (nI 1)) (fs := [0]) (is := []) (ls := []) (ds := []) (by simp)).frM (by simp) (by simp) (by simp) (by simp)).tr (h_146.frM (by simp))⟩
theorem m_side {X : LM} (w : wf X) {a b c : Nat} (ha : a < xNc X) (hb : b < xNc X) (hc : c < xNc X) (S : xS) (h : RM S X) : Sp mX9_side [.ref 0, .int (nI a), .int (nI b), .int (nI c)] S (fun r S' => r = some (.int (sg (orP (PX X a) (PX X b) (PX X c)))) ∧ RM S' (uS X (xWh X) (bI (sureZ (estE (PX X a) (PX X b) (PX X c)) (estF (PX X a) (PX X b) (PX X c)))) (xEd X)) ∧ frM S S') := by
  have n200 := w.1
  have bd : ∀ s, s < xNc X → (-(2 ^ 101) ≤ (PX X s).1 ∧ (PX X s).1 ≤ 2 ^ 101) ∧ -(2 ^ 101) ≤ (PX X s).2 ∧ (PX X s).2 ≤ 2 ^ 101 := fun s hs => by
    have u1 := zc_bound (w.2.1 s hs).1.1
    have u2 := zc_bound (w.2.1 s hs).2.1
    exact ⟨⟨by show _ ≤ zc _; omega, by show zc _ ≤ _; omega⟩, by show _ ≤ zc _; omega, by show zc _ ≤ _; omega⟩
  have vb : ∀ x : Int64, num x → vz 72 x.toUInt64 (zc x) := fun x hx => vz_bits hx.1 (fun z => by have := plainB_zero (x := x) (by rw [hx.2]; exact z); rw [hx.2] at this; exact this)
  obtain ⟨e1, e2, bE, bF⟩ := est_vz2 (A := PX X a) (B := PX X b) (C := PX X c) (vb _ (w.2.1 a ha).1) (vb _ (w.2.1 a ha).2) (vb _ (w.2.1 b hb).1) (vb _ (w.2.1 b hb).2) (vb _ (w.2.1 c hc).1) (vb _ (w.2.1 c hc).2) (bd a ha) (bd b hb) (bd c hc)
  show XP _ _ [_, _, _, _] _ _ _
  refine x_aload_n eX9_side_0 rfl ?_
  refine x_iload_n eX9_side_1 rfl ?_
  refine s_callV1 (As := [_]) eX9_side_2 kX9_184 ⟨by decide, by decide⟩ rfl (by decide) (by decide) rfl rfl (Nat.le_of_ble_eq_true rfl) (Nat.le_of_ble_eq_true rfl) (sp_X9_isCorner _ h.1.1 n200 (nI a)) (fun S_2 h_2 => ?_)
  have h_2 := h_2.symm
  subst h_2
  refine x_if_eqB eX9_side_5 (fun c_5 => ?_) (fun c_5 => ?_)
  · exact absurd ⟨a, ha, rfl⟩ (of_decide_eq_false c_5)
  · refine x_aload_n eX9_side_8 rfl ?_
    refine x_iload_n eX9_side_9 rfl ?_
    refine s_callV1 (As := [_]) eX9_side_10 kX9_184 ⟨by decide, by decide⟩ rfl (by decide) (by decide) rfl rfl (Nat.le_of_ble_eq_true rfl) (Nat.le_of_ble_eq_true rfl) (sp_X9_isCorner _ h.1.1 n200 (nI b)) (fun S_10 h_10 => ?_)
    have h_10 := h_10.symm
    subst h_10
    refine x_if_eqB eX9_side_13 (fun c_13 => ?_) (fun c_13 => ?_)
    · exact absurd ⟨b, hb, rfl⟩ (of_decide_eq_false c_13)
    · refine x_aload_n eX9_side_16 rfl ?_
      refine x_iload_n eX9_side_17 rfl ?_
      refine s_callV1 (As := [_]) eX9_side_18 kX9_184 ⟨by decide, by decide⟩ rfl (by decide) (by decide) rfl rfl (Nat.le_of_ble_eq_true rfl) (Nat.le_of_ble_eq_true rfl) (sp_X9_isCorner _ h.1.1 n200 (nI c)) (fun S_18 h_18 => ?_)
      have h_18 := h_18.symm
      subst h_18
      refine x_if_neB eX9_side_21 (fun c_21 => ?_) (fun c_21 => ?_)
      · refine x_aload_n eX9_side_27 rfl ?_
        refine s_getR (k := 1) eX9_side_28 fX9_7 rfl (by decide) (by decide) rfl ?_
        refine x_iload_n eX9_side_31 rfl ?_
        refine s_lald eX9_side_32 rfl (by decide) rfl (show _ < 202 by omega) ?_
        rw [(h.1.2.1 c hc).1]
        refine x_l2dS eX9_side_33 (num_sn ((w.2.1 c hc).1).1 ((w.2.1 c hc).1).2) (Nat.le_of_ble_eq_true rfl) ?_
        refine x_dstore (lv' := [_, _, _, _, _]) eX9_side_36 (by decide) rfl ?_
        refine x_aload_n eX9_side_38 rfl ?_
        refine s_getR (k := 2) eX9_side_39 fX9_13 rfl (by decide) (by decide) rfl ?_
        refine x_iload_n eX9_side_42 rfl ?_
        refine s_lald eX9_side_43 rfl (by decide) rfl (show _ < 202 by omega) ?_
        rw [(h.1.2.1 c hc).2.1]
        refine x_l2dS eX9_side_44 (num_sn ((w.2.1 c hc).2).1 ((w.2.1 c hc).2).2) (Nat.le_of_ble_eq_true rfl) ?_
        refine x_dstore (lv' := [_, _, _, _, _, _]) eX9_side_47 (by decide) rfl ?_
        refine x_aload_n eX9_side_49 rfl ?_
        refine s_getR (k := 1) eX9_side_50 fX9_7 rfl (by decide) (by decide) rfl ?_
        refine x_iload_n eX9_side_53 rfl ?_
        refine s_lald eX9_side_54 rfl (by decide) rfl (show _ < 202 by omega) ?_
        rw [(h.1.2.1 a ha).1]
        refine x_l2dS eX9_side_55 (num_sn ((w.2.1 a ha).1).1 ((w.2.1 a ha).1).2) (Nat.le_of_ble_eq_true rfl) ?_
        refine x_dload eX9_side_58 rfl ?_
        refine x_dsub eX9_side_60 (vz_n64 e1.1) ?_
        refine x_aload_n eX9_side_61 rfl ?_
        refine s_getR (k := 2) eX9_side_62 fX9_13 rfl (by decide) (by decide) rfl ?_
        refine x_iload_n eX9_side_65 rfl ?_
        refine s_lald eX9_side_66 rfl (by decide) rfl (show _ < 202 by omega) ?_
        rw [(h.1.2.1 b hb).2.1]
        refine x_l2dS eX9_side_67 (num_sn ((w.2.1 b hb).2).1 ((w.2.1 b hb).2).2) (Nat.le_of_ble_eq_true rfl) ?_
        refine x_dload eX9_side_70 rfl ?_
        refine x_dsub eX9_side_72 (vz_n64 e1.2.1) ?_
        refine x_dmul eX9_side_73 (vz_n64 e1.2.2) ?_
        refine x_dstore (lv' := [_, _, _, _, _, _, _]) eX9_side_74 (by decide) rfl ?_
        refine x_aload_n eX9_side_76 rfl ?_
        refine s_getR (k := 2) eX9_side_77 fX9_13 rfl (by decide) (by decide) rfl ?_
        refine x_iload_n eX9_side_80 rfl ?_
        refine s_lald eX9_side_81 rfl (by decide) rfl (show _ < 202 by omega) ?_
        rw [(h.1.2.1 a ha).2.1]
        refine x_l2dS eX9_side_82 (num_sn ((w.2.1 a ha).2).1 ((w.2.1 a ha).2).2) (Nat.le_of_ble_eq_true rfl) ?_
        refine x_dload eX9_side_85 rfl ?_
        refine x_dsub eX9_side_87 (vz_n64 e2.1) ?_
        refine x_aload_n eX9_side_88 rfl ?_
        refine s_getR (k := 1) eX9_side_89 fX9_7 rfl (by decide) (by decide) rfl ?_
        refine x_iload_n eX9_side_92 rfl ?_
        refine s_lald eX9_side_93 rfl (by decide) rfl (show _ < 202 by omega) ?_
        rw [(h.1.2.1 b hb).1]
        refine x_l2dS eX9_side_94 (num_sn ((w.2.1 b hb).1).1 ((w.2.1 b hb).1).2) (Nat.le_of_ble_eq_true rfl) ?_
        refine x_dload eX9_side_97 rfl ?_
        refine x_dsub eX9_side_99 (vz_n64 e2.2.1) ?_
        refine x_dmul eX9_side_100 (vz_n64 e2.2.2) ?_
        refine x_dstore (lv' := [_, _, _, _, _, _, _, _]) eX9_side_101 (by decide) rfl ?_
        exact m_side2 w ha hb hc S h e1.2.2 e2.2.2 bE bF
      · exact absurd ⟨c, hc, rfl⟩ (of_decide_eq_false c_21)
theorem b_side {X : LM} (w : wf X) (a b c : Int32) : both X mX8_side mX9_side [.int a, .int b, .int c] := by
  have n200 := w.1
  by_cases ha : ∃ k, k < xNc X ∧ a = nI k
  rotate_left
  · refine ⟨.int (-101), X, w, fun S h => ?_, fun S h => ?_⟩
    · show XP _ _ [_, _, _, _] _ _ _
      refine x_aload_n eX8_side_0 rfl ?_
      refine s_getR (k := 32) eX8_side_1 fX8_12 rfl (by decide) (by decide) rfl ?_
      refine x_iload_n eX8_side_4 rfl ?_
      refine s_callV1 (As := [_]) eX8_side_5 kX8_88 ⟨by decide, by decide⟩ rfl (by decide) (by decide) rfl rfl (Nat.le_of_ble_eq_true rfl) (Nat.le_of_ble_eq_true rfl) (sp_X2_has _ h.1.1 n200 a) (fun S_5 h_5 => ?_)
      have h_5 := h_5.symm
      subst h_5
      refine x_if_eqT eX8_side_8 (fun c_8 => ?_) (fun c_8 => ?_)
      · refine x_bipush (v := -101) eX8_side_33 (by decide) ?_
        exact s_iret eX8_side_35 rfl rfl ⟨rfl, h, frC.rf _⟩
      · exact absurd c_8 ha
    · show XP _ _ [_, _, _, _] _ _ _
      refine x_aload_n eX9_side_0 rfl ?_
      refine x_iload_n eX9_side_1 rfl ?_
      refine s_callV1 (As := [_]) eX9_side_2 kX9_184 ⟨by decide, by decide⟩ rfl (by decide) (by decide) rfl rfl (Nat.le_of_ble_eq_true rfl) (Nat.le_of_ble_eq_true rfl) (sp_X9_isCorner _ h.1.1 n200 a) (fun S_2 h_2 => ?_)
      have h_2 := h_2.symm
      subst h_2
      refine x_if_eqB eX9_side_5 (fun c_5 => ?_) (fun c_5 => ?_)
      · refine x_bipush (v := -101) eX9_side_24 (by decide) ?_
        exact s_iret eX9_side_26 rfl rfl ⟨rfl, h, frM.rf _⟩
      · exact absurd (of_decide_eq_true c_5) ha
  obtain ⟨a, ha, rfl⟩ := ha
  by_cases hb : ∃ k, k < xNc X ∧ b = nI k
  rotate_left
  · refine ⟨.int (-101), X, w, fun S h => ?_, fun S h => ?_⟩
    · show XP _ _ [_, _, _, _] _ _ _
      refine x_aload_n eX8_side_0 rfl ?_
      refine s_getR (k := 32) eX8_side_1 fX8_12 rfl (by decide) (by decide) rfl ?_
      refine x_iload_n eX8_side_4 rfl ?_
      refine s_callV1 (As := [_]) eX8_side_5 kX8_88 ⟨by decide, by decide⟩ rfl (by decide) (by decide) rfl rfl (Nat.le_of_ble_eq_true rfl) (Nat.le_of_ble_eq_true rfl) (sp_X2_has _ h.1.1 n200 (nI a)) (fun S_5 h_5 => ?_)
      have h_5 := h_5.symm
      subst h_5
      refine x_if_eqT eX8_side_8 (fun c_8 => ?_) (fun c_8 => ?_)
      · exact absurd ⟨a, ha, rfl⟩ c_8
      · refine x_aload_n eX8_side_11 rfl ?_
        refine s_getR (k := 32) eX8_side_12 fX8_12 rfl (by decide) (by decide) rfl ?_
        refine x_iload_n eX8_side_15 rfl ?_
        refine s_callV1 (As := [_]) eX8_side_16 kX8_88 ⟨by decide, by decide⟩ rfl (by decide) (by decide) rfl rfl (Nat.le_of_ble_eq_true rfl) (Nat.le_of_ble_eq_true rfl) (sp_X2_has _ h.1.1 n200 b) (fun S_16 h_16 => ?_)
        have h_16 := h_16.symm
        subst h_16
        refine x_if_eqT eX8_side_19 (fun c_19 => ?_) (fun c_19 => ?_)
        · refine x_bipush (v := -101) eX8_side_33 (by decide) ?_
          exact s_iret eX8_side_35 rfl rfl ⟨rfl, h, frC.rf _⟩
        · exact absurd c_19 hb
    · show XP _ _ [_, _, _, _] _ _ _
      refine x_aload_n eX9_side_0 rfl ?_
      refine x_iload_n eX9_side_1 rfl ?_
      refine s_callV1 (As := [_]) eX9_side_2 kX9_184 ⟨by decide, by decide⟩ rfl (by decide) (by decide) rfl rfl (Nat.le_of_ble_eq_true rfl) (Nat.le_of_ble_eq_true rfl) (sp_X9_isCorner _ h.1.1 n200 (nI a)) (fun S_2 h_2 => ?_)
      have h_2 := h_2.symm
      subst h_2
      refine x_if_eqB eX9_side_5 (fun c_5 => ?_) (fun c_5 => ?_)
      · exact absurd ⟨a, ha, rfl⟩ (of_decide_eq_false c_5)
      · refine x_aload_n eX9_side_8 rfl ?_
        refine x_iload_n eX9_side_9 rfl ?_
        refine s_callV1 (As := [_]) eX9_side_10 kX9_184 ⟨by decide, by decide⟩ rfl (by decide) (by decide) rfl rfl (Nat.le_of_ble_eq_true rfl) (Nat.le_of_ble_eq_true rfl) (sp_X9_isCorner _ h.1.1 n200 b) (fun S_10 h_10 => ?_)
        have h_10 := h_10.symm
        subst h_10
        refine x_if_eqB eX9_side_13 (fun c_13 => ?_) (fun c_13 => ?_)
        · refine x_bipush (v := -101) eX9_side_24 (by decide) ?_
          exact s_iret eX9_side_26 rfl rfl ⟨rfl, h, frM.rf _⟩
        · exact absurd (of_decide_eq_true c_13) hb
  obtain ⟨b, hb, rfl⟩ := hb
  by_cases hc : ∃ k, k < xNc X ∧ c = nI k
  rotate_left
  · refine ⟨.int (-101), X, w, fun S h => ?_, fun S h => ?_⟩
    · show XP _ _ [_, _, _, _] _ _ _
      refine x_aload_n eX8_side_0 rfl ?_
      refine s_getR (k := 32) eX8_side_1 fX8_12 rfl (by decide) (by decide) rfl ?_
      refine x_iload_n eX8_side_4 rfl ?_
      refine s_callV1 (As := [_]) eX8_side_5 kX8_88 ⟨by decide, by decide⟩ rfl (by decide) (by decide) rfl rfl (Nat.le_of_ble_eq_true rfl) (Nat.le_of_ble_eq_true rfl) (sp_X2_has _ h.1.1 n200 (nI a)) (fun S_5 h_5 => ?_)
      have h_5 := h_5.symm
      subst h_5
      refine x_if_eqT eX8_side_8 (fun c_8 => ?_) (fun c_8 => ?_)
      · exact absurd ⟨a, ha, rfl⟩ c_8
      · refine x_aload_n eX8_side_11 rfl ?_
        refine s_getR (k := 32) eX8_side_12 fX8_12 rfl (by decide) (by decide) rfl ?_
        refine x_iload_n eX8_side_15 rfl ?_
        refine s_callV1 (As := [_]) eX8_side_16 kX8_88 ⟨by decide, by decide⟩ rfl (by decide) (by decide) rfl rfl (Nat.le_of_ble_eq_true rfl) (Nat.le_of_ble_eq_true rfl) (sp_X2_has _ h.1.1 n200 (nI b)) (fun S_16 h_16 => ?_)
        have h_16 := h_16.symm
        subst h_16
        refine x_if_eqT eX8_side_19 (fun c_19 => ?_) (fun c_19 => ?_)
        · exact absurd ⟨b, hb, rfl⟩ c_19
        · refine x_aload_n eX8_side_22 rfl ?_
          refine s_getR (k := 32) eX8_side_23 fX8_12 rfl (by decide) (by decide) rfl ?_
          refine x_iload_n eX8_side_26 rfl ?_
          refine s_callV1 (As := [_]) eX8_side_27 kX8_88 ⟨by decide, by decide⟩ rfl (by decide) (by decide) rfl rfl (Nat.le_of_ble_eq_true rfl) (Nat.le_of_ble_eq_true rfl) (sp_X2_has _ h.1.1 n200 c) (fun S_27 h_27 => ?_)
          have h_27 := h_27.symm
          subst h_27
          refine x_if_neT eX8_side_30 (fun c_30 => ?_) (fun c_30 => ?_)
          · exact absurd c_30 hc
          · refine x_bipush (v := -101) eX8_side_33 (by decide) ?_
            exact s_iret eX8_side_35 rfl rfl ⟨rfl, h, frC.rf _⟩
    · show XP _ _ [_, _, _, _] _ _ _
      refine x_aload_n eX9_side_0 rfl ?_
      refine x_iload_n eX9_side_1 rfl ?_
      refine s_callV1 (As := [_]) eX9_side_2 kX9_184 ⟨by decide, by decide⟩ rfl (by decide) (by decide) rfl rfl (Nat.le_of_ble_eq_true rfl) (Nat.le_of_ble_eq_true rfl) (sp_X9_isCorner _ h.1.1 n200 (nI a)) (fun S_2 h_2 => ?_)
      have h_2 := h_2.symm
      subst h_2
      refine x_if_eqB eX9_side_5 (fun c_5 => ?_) (fun c_5 => ?_)
      · exact absurd ⟨a, ha, rfl⟩ (of_decide_eq_false c_5)
      · refine x_aload_n eX9_side_8 rfl ?_
        refine x_iload_n eX9_side_9 rfl ?_
        refine s_callV1 (As := [_]) eX9_side_10 kX9_184 ⟨by decide, by decide⟩ rfl (by decide) (by decide) rfl rfl (Nat.le_of_ble_eq_true rfl) (Nat.le_of_ble_eq_true rfl) (sp_X9_isCorner _ h.1.1 n200 (nI b)) (fun S_10 h_10 => ?_)
        have h_10 := h_10.symm
        subst h_10
        refine x_if_eqB eX9_side_13 (fun c_13 => ?_) (fun c_13 => ?_)
        · exact absurd ⟨b, hb, rfl⟩ (of_decide_eq_false c_13)
        · refine x_aload_n eX9_side_16 rfl ?_
          refine x_iload_n eX9_side_17 rfl ?_
          refine s_callV1 (As := [_]) eX9_side_18 kX9_184 ⟨by decide, by decide⟩ rfl (by decide) (by decide) rfl rfl (Nat.le_of_ble_eq_true rfl) (Nat.le_of_ble_eq_true rfl) (sp_X9_isCorner _ h.1.1 n200 c) (fun S_18 h_18 => ?_)
          have h_18 := h_18.symm
          subst h_18
          refine x_if_neB eX9_side_21 (fun c_21 => ?_) (fun c_21 => ?_)
          · exact absurd (of_decide_eq_true c_21) hc
          · refine x_bipush (v := -101) eX9_side_24 (by decide) ?_
            exact s_iret eX9_side_26 rfl rfl ⟨rfl, h, frM.rf _⟩
  obtain ⟨c, hc, rfl⟩ := hc
  exact ⟨.int (sg (orP (PX X a) (PX X b) (PX X c))), (uS X (xWh X) (bI (sureZ (estE (PX X a) (PX X b) (PX X c)) (estF (PX X a) (PX X b) (PX X c)))) (xEd X)), wf_uS w _ _ _, fun S h => c_side w ha hb hc S h, fun S h => m_side w ha hb hc S h⟩

