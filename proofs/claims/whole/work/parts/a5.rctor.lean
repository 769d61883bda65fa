/-! ===== the reference's constructor ===== -/
theorem yc_X9 {sl : Nat} {w : xW} (e0 : w (roN 334) = .inr (9, [.null, .null, .null, .null, .int 0, .null, .null, .null, .int 0, .null, .null, .int 0, .int 0, .null, .int 0, .null, .int 0, .null, .null, .null, .null, .null, .int 0, .int 0, .null, .null, .null, .null, .null, .int 0, .int 0, .null, .int 0, .null, .int 0, .int 0, .null, .null, .null, .null, .null, .null, .null])) : ySp mX9_init [.ref (roN 334)] (334 + 1) sl (365) (sl + 6492) w (fil w00 334 (365) w) := by
  have hn : 334 < 365 := by omega
  have hI := inc_start (G := w00) hn e0
  show YP _ _ 0 [(0, .ref (roN 334))] [] _ _ w _
  refine y_aload_n eX9_init_0 rfl ?_
  refine y_objInit eX9_init_1 oX9 oi_i oi_c (by decide) (Nat.le_of_ble_eq_true rfl) ?_
  refine y_aload_n eX9_init_4 rfl ?_
  refine y_sipush (v := nI 202) eX9_init_5 (by decide) ?_
  refine y_newaI eX9_init_8 (ya_J (by decide)) rfl (by decide) hI (pi_ro 334 hn).2 (by rw [(pi_ro 334 hn).1]; omega) (by omega) (show _ ≤ 365 by omega) (show _ ≤ sl + 6492 by omega) rfl (fun w hI => ?_)
  refine y_putI eX9_init_10 pX9_init_7 hI (pi_ro 334 hn).2 (by rw [(pi_ro 334 hn).1]; omega) (fun _ => rfl) (fun _ => rfl) (Nat.le_of_ble_eq_true rfl) (fun w hI => ?_)
  refine y_aload_n eX9_init_13 rfl ?_
  refine y_sipush (v := nI 202) eX9_init_14 (by decide) ?_
  refine y_newaI eX9_init_17 (ya_J (by decide)) rfl (by decide) hI (pi_ro 334 hn).2 (by rw [(pi_ro 334 hn).1]; omega) (by omega) (show _ ≤ 365 by omega) (show _ ≤ sl + 6492 by omega) rfl (fun w hI => ?_)
  refine y_putI eX9_init_19 pX9_init_13 hI (pi_ro 334 hn).2 (by rw [(pi_ro 334 hn).1]; omega) (fun _ => rfl) (fun _ => rfl) (Nat.le_of_ble_eq_true rfl) (fun w hI => ?_)
  refine y_aload_n eX9_init_22 rfl ?_
  refine y_sipush (v := nI 1010) eX9_init_23 (by decide) ?_
  refine y_newaI eX9_init_26 (ya_J (by decide)) rfl (by decide) hI (pi_ro 334 hn).2 (by rw [(pi_ro 334 hn).1]; omega) (by omega) (show _ ≤ 365 by omega) (show _ ≤ sl + 6492 by omega) rfl (fun w hI => ?_)
  refine y_putI eX9_init_28 pX9_init_16 hI (pi_ro 334 hn).2 (by rw [(pi_ro 334 hn).1]; omega) (fun _ => rfl) (fun _ => rfl) (Nat.le_of_ble_eq_true rfl) (fun w hI => ?_)
  refine y_aload_n eX9_init_31 rfl ?_
  refine y_sipush (v := nI 1010) eX9_init_32 (by decide) ?_
  refine y_newaI eX9_init_35 (ya_J (by decide)) rfl (by decide) hI (pi_ro 334 hn).2 (by rw [(pi_ro 334 hn).1]; omega) (by omega) (show _ ≤ 365 by omega) (show _ ≤ sl + 6492 by omega) rfl (fun w hI => ?_)
  refine y_putI eX9_init_37 pX9_init_19 hI (pi_ro 334 hn).2 (by rw [(pi_ro 334 hn).1]; omega) (fun _ => rfl) (fun _ => rfl) (Nat.le_of_ble_eq_true rfl) (fun w hI => ?_)
  refine y_aload_n eX9_init_40 rfl ?_
  refine y_iconst (v := nI 5) eX9_init_41 (by decide) ?_
  refine y_newaI eX9_init_42 (ya_J (by decide)) rfl (by decide) hI (pi_ro 334 hn).2 (by rw [(pi_ro 334 hn).1]; omega) (by omega) (show _ ≤ 365 by omega) (show _ ≤ sl + 6492 by omega) rfl (fun w hI => ?_)
  refine y_putI eX9_init_44 pX9_init_22 hI (pi_ro 334 hn).2 (by rw [(pi_ro 334 hn).1]; omega) (fun _ => rfl) (fun _ => rfl) (Nat.le_of_ble_eq_true rfl) (fun w hI => ?_)
  refine y_aload_n eX9_init_47 rfl ?_
  refine y_iconst (v := nI 5) eX9_init_48 (by decide) ?_
  refine y_newaI eX9_init_49 (ya_J (by decide)) rfl (by decide) hI (pi_ro 334 hn).2 (by rw [(pi_ro 334 hn).1]; omega) (by omega) (show _ ≤ 365 by omega) (show _ ≤ sl + 6492 by omega) rfl (fun w hI => ?_)
  refine y_putI eX9_init_51 pX9_init_25 hI (pi_ro 334 hn).2 (by rw [(pi_ro 334 hn).1]; omega) (fun _ => rfl) (fun _ => rfl) (Nat.le_of_ble_eq_true rfl) (fun w hI => ?_)
  refine y_aload_n eX9_init_54 rfl ?_
  refine y_bipush (v := nI 10) eX9_init_55 (by decide) ?_
  refine y_newaI eX9_init_57 (ya_J (by decide)) rfl (by decide) hI (pi_ro 334 hn).2 (by rw [(pi_ro 334 hn).1]; omega) (by omega) (show _ ≤ 365 by omega) (show _ ≤ sl + 6492 by omega) rfl (fun w hI => ?_)
  refine y_putI eX9_init_59 pX9_init_28 hI (pi_ro 334 hn).2 (by rw [(pi_ro 334 hn).1]; omega) (fun _ => rfl) (fun _ => rfl) (Nat.le_of_ble_eq_true rfl) (fun w hI => ?_)
  refine y_aload_n eX9_init_62 rfl ?_
  refine y_iconst (v := (-1)) eX9_init_63 (by decide) ?_
  refine y_putI eX9_init_64 pX9_init_31 hI (pi_ro 334 hn).2 (by rw [(pi_ro 334 hn).1]; omega) (fun _ => rfl) (fun _ => rfl) (Nat.le_of_ble_eq_true rfl) (fun w hI => ?_)
  refine y_aload_n eX9_init_67 rfl ?_
  refine y_bipush (v := nI 10) eX9_init_68 (by decide) ?_
  refine y_newaI eX9_init_70 (ya_J (by decide)) rfl (by decide) hI (pi_ro 334 hn).2 (by rw [(pi_ro 334 hn).1]; omega) (by omega) (show _ ≤ 365 by omega) (show _ ≤ sl + 6492 by omega) rfl (fun w hI => ?_)
  refine y_putI eX9_init_72 pX9_init_35 hI (pi_ro 334 hn).2 (by rw [(pi_ro 334 hn).1]; omega) (fun _ => rfl) (fun _ => rfl) (Nat.le_of_ble_eq_true rfl) (fun w hI => ?_)
  refine y_aload_n eX9_init_75 rfl ?_
  refine y_bipush (v := nI 20) eX9_init_76 (by decide) ?_
  refine y_newaI eX9_init_78 (ya_I (by decide)) rfl (by decide) hI (pi_ro 334 hn).2 (by rw [(pi_ro 334 hn).1]; omega) (by omega) (show _ ≤ 365 by omega) (show _ ≤ sl + 6492 by omega) rfl (fun w hI => ?_)
  refine y_putI eX9_init_80 pX9_init_38 hI (pi_ro 334 hn).2 (by rw [(pi_ro 334 hn).1]; omega) (fun _ => rfl) (fun _ => rfl) (Nat.le_of_ble_eq_true rfl) (fun w hI => ?_)
  refine y_aload_n eX9_init_83 rfl ?_
  refine y_bipush (v := nI 24) eX9_init_84 (by decide) ?_
  refine y_newaI eX9_init_86 (ya_I (by decide)) rfl (by decide) hI (pi_ro 334 hn).2 (by rw [(pi_ro 334 hn).1]; omega) (by omega) (show _ ≤ 365 by omega) (show _ ≤ sl + 6492 by omega) rfl (fun w hI => ?_)
  refine y_putI eX9_init_88 pX9_init_42 hI (pi_ro 334 hn).2 (by rw [(pi_ro 334 hn).1]; omega) (fun _ => rfl) (fun _ => rfl) (Nat.le_of_ble_eq_true rfl) (fun w hI => ?_)
  refine y_aload_n eX9_init_91 rfl ?_
  refine y_bipush (v := nI 24) eX9_init_92 (by decide) ?_
  refine y_newaI eX9_init_94 (ya_I (by decide)) rfl (by decide) hI (pi_ro 334 hn).2 (by rw [(pi_ro 334 hn).1]; omega) (by omega) (show _ ≤ 365 by omega) (show _ ≤ sl + 6492 by omega) rfl (fun w hI => ?_)
  refine y_putI eX9_init_96 pX9_init_45 hI (pi_ro 334 hn).2 (by rw [(pi_ro 334 hn).1]; omega) (fun _ => rfl) (fun _ => rfl) (Nat.le_of_ble_eq_true rfl) (fun w hI => ?_)
  refine y_aload_n eX9_init_99 rfl ?_
  refine y_bipush (v := nI 60) eX9_init_100 (by decide) ?_
  refine y_newaI eX9_init_102 (ya_Z (by decide)) rfl (by decide) hI (pi_ro 334 hn).2 (by rw [(pi_ro 334 hn).1]; omega) (by omega) (show _ ≤ 365 by omega) (show _ ≤ sl + 6492 by omega) rfl (fun w hI => ?_)
  refine y_putI eX9_init_104 pX9_init_48 hI (pi_ro 334 hn).2 (by rw [(pi_ro 334 hn).1]; omega) (fun _ => rfl) (fun _ => rfl) (Nat.le_of_ble_eq_true rfl) (fun w hI => ?_)
  refine y_aload_n eX9_init_107 rfl ?_
  refine y_bipush (v := nI 60) eX9_init_108 (by decide) ?_
  refine y_newaI eX9_init_110 (ya_I (by decide)) rfl (by decide) hI (pi_ro 334 hn).2 (by rw [(pi_ro 334 hn).1]; omega) (by omega) (show _ ≤ 365 by omega) (show _ ≤ sl + 6492 by omega) rfl (fun w hI => ?_)
  refine y_putI eX9_init_112 pX9_init_52 hI (pi_ro 334 hn).2 (by rw [(pi_ro 334 hn).1]; omega) (fun _ => rfl) (fun _ => rfl) (Nat.le_of_ble_eq_true rfl) (fun w hI => ?_)
  refine y_aload_n eX9_init_115 rfl ?_
  refine y_bipush (v := nI 60) eX9_init_116 (by decide) ?_
  refine y_newaI eX9_init_118 (ya_I (by decide)) rfl (by decide) hI (pi_ro 334 hn).2 (by rw [(pi_ro 334 hn).1]; omega) (by omega) (show _ ≤ 365 by omega) (show _ ≤ sl + 6492 by omega) rfl (fun w hI => ?_)
  refine y_putI eX9_init_120 pX9_init_55 hI (pi_ro 334 hn).2 (by rw [(pi_ro 334 hn).1]; omega) (fun _ => rfl) (fun _ => rfl) (Nat.le_of_ble_eq_true rfl) (fun w hI => ?_)
  refine y_aload_n eX9_init_123 rfl ?_
  refine y_bipush (v := nI 60) eX9_init_124 (by decide) ?_
  refine y_newaI eX9_init_126 (ya_I (by decide)) rfl (by decide) hI (pi_ro 334 hn).2 (by rw [(pi_ro 334 hn).1]; omega) (by omega) (show _ ≤ 365 by omega) (show _ ≤ sl + 6492 by omega) rfl (fun w hI => ?_)
  refine y_putI eX9_init_128 pX9_init_58 hI (pi_ro 334 hn).2 (by rw [(pi_ro 334 hn).1]; omega) (fun _ => rfl) (fun _ => rfl) (Nat.le_of_ble_eq_true rfl) (fun w hI => ?_)
  refine y_aload_n eX9_init_131 rfl ?_
  refine y_sipush (v := nI 720) eX9_init_132 (by decide) ?_
  refine y_newaI eX9_init_135 (ya_I (by decide)) rfl (by decide) hI (pi_ro 334 hn).2 (by rw [(pi_ro 334 hn).1]; omega) (by omega) (show _ ≤ 365 by omega) (show _ ≤ sl + 6492 by omega) rfl (fun w hI => ?_)
  refine y_putI eX9_init_137 pX9_init_61 hI (pi_ro 334 hn).2 (by rw [(pi_ro 334 hn).1]; omega) (fun _ => rfl) (fun _ => rfl) (Nat.le_of_ble_eq_true rfl) (fun w hI => ?_)
  refine y_aload_n eX9_init_140 rfl ?_
  refine y_bipush (v := nI 60) eX9_init_141 (by decide) ?_
  refine y_newaI eX9_init_143 (ya_Z (by decide)) rfl (by decide) hI (pi_ro 334 hn).2 (by rw [(pi_ro 334 hn).1]; omega) (by omega) (show _ ≤ 365 by omega) (show _ ≤ sl + 6492 by omega) rfl (fun w hI => ?_)
  refine y_putI eX9_init_145 pX9_init_64 hI (pi_ro 334 hn).2 (by rw [(pi_ro 334 hn).1]; omega) (fun _ => rfl) (fun _ => rfl) (Nat.le_of_ble_eq_true rfl) (fun w hI => ?_)
  refine y_aload_n eX9_init_148 rfl ?_
  refine y_bipush (v := nI 60) eX9_init_149 (by decide) ?_
  refine y_newaI eX9_init_151 (ya_I (by decide)) rfl (by decide) hI (pi_ro 334 hn).2 (by rw [(pi_ro 334 hn).1]; omega) (by omega) (show _ ≤ 365 by omega) (show _ ≤ sl + 6492 by omega) rfl (fun w hI => ?_)
  refine y_putI eX9_init_153 pX9_init_67 hI (pi_ro 334 hn).2 (by rw [(pi_ro 334 hn).1]; omega) (fun _ => rfl) (fun _ => rfl) (Nat.le_of_ble_eq_true rfl) (fun w hI => ?_)
  refine y_aload_n eX9_init_156 rfl ?_
  refine y_bipush (v := nI 60) eX9_init_157 (by decide) ?_
  refine y_newaI eX9_init_159 (ya_I (by decide)) rfl (by decide) hI (pi_ro 334 hn).2 (by rw [(pi_ro 334 hn).1]; omega) (by omega) (show _ ≤ 365 by omega) (show _ ≤ sl + 6492 by omega) rfl (fun w hI => ?_)
  refine y_putI eX9_init_161 pX9_init_70 hI (pi_ro 334 hn).2 (by rw [(pi_ro 334 hn).1]; omega) (fun _ => rfl) (fun _ => rfl) (Nat.le_of_ble_eq_true rfl) (fun w hI => ?_)
  refine y_aload_n eX9_init_164 rfl ?_
  refine y_bipush (v := nI 60) eX9_init_165 (by decide) ?_
  refine y_newaI eX9_init_167 (ya_I (by decide)) rfl (by decide) hI (pi_ro 334 hn).2 (by rw [(pi_ro 334 hn).1]; omega) (by omega) (show _ ≤ 365 by omega) (show _ ≤ sl + 6492 by omega) rfl (fun w hI => ?_)
  refine y_putI eX9_init_169 pX9_init_73 hI (pi_ro 334 hn).2 (by rw [(pi_ro 334 hn).1]; omega) (fun _ => rfl) (fun _ => rfl) (Nat.le_of_ble_eq_true rfl) (fun w hI => ?_)
  refine y_aload_n eX9_init_172 rfl ?_
  refine y_sipush (v := nI 720) eX9_init_173 (by decide) ?_
  refine y_newaI eX9_init_176 (ya_I (by decide)) rfl (by decide) hI (pi_ro 334 hn).2 (by rw [(pi_ro 334 hn).1]; omega) (by omega) (show _ ≤ 365 by omega) (show _ ≤ sl + 6492 by omega) rfl (fun w hI => ?_)
  refine y_putI eX9_init_178 pX9_init_76 hI (pi_ro 334 hn).2 (by rw [(pi_ro 334 hn).1]; omega) (fun _ => rfl) (fun _ => rfl) (Nat.le_of_ble_eq_true rfl) (fun w hI => ?_)
  refine y_aload_n eX9_init_181 rfl ?_
  refine y_bipush (v := nI 16) eX9_init_182 (by decide) ?_
  refine y_newaI eX9_init_184 (ya_I (by decide)) rfl (by decide) hI (pi_ro 334 hn).2 (by rw [(pi_ro 334 hn).1]; omega) (by omega) (show _ ≤ 365 by omega) (show _ ≤ sl + 6492 by omega) rfl (fun w hI => ?_)
  refine y_putI eX9_init_186 pX9_init_79 hI (pi_ro 334 hn).2 (by rw [(pi_ro 334 hn).1]; omega) (fun _ => rfl) (fun _ => rfl) (Nat.le_of_ble_eq_true rfl) (fun w hI => ?_)
  refine y_aload_n eX9_init_189 rfl ?_
  refine y_bipush (v := nI 12) eX9_init_190 (by decide) ?_
  refine y_newaI eX9_init_192 (ya_I (by decide)) rfl (by decide) hI (pi_ro 334 hn).2 (by rw [(pi_ro 334 hn).1]; omega) (by omega) (show _ ≤ 365 by omega) (show _ ≤ sl + 6492 by omega) rfl (fun w hI => ?_)
  refine y_putI eX9_init_194 pX9_init_82 hI (pi_ro 334 hn).2 (by rw [(pi_ro 334 hn).1]; omega) (fun _ => rfl) (fun _ => rfl) (Nat.le_of_ble_eq_true rfl) (fun w hI => ?_)
  refine y_aload_n eX9_init_197 rfl ?_
  refine y_iconst (v := (-1)) eX9_init_198 (by decide) ?_
  refine y_putI eX9_init_199 pX9_init_85 hI (pi_ro 334 hn).2 (by rw [(pi_ro 334 hn).1]; omega) (fun _ => rfl) (fun _ => rfl) (Nat.le_of_ble_eq_true rfl) (fun w hI => ?_)
  refine y_aload_n eX9_init_202 rfl ?_
  refine y_sipush (v := nI 402) eX9_init_203 (by decide) ?_
  refine y_newaI eX9_init_206 (ya_I (by decide)) rfl (by decide) hI (pi_ro 334 hn).2 (by rw [(pi_ro 334 hn).1]; omega) (by omega) (show _ ≤ 365 by omega) (show _ ≤ sl + 6492 by omega) rfl (fun w hI => ?_)
  refine y_putI eX9_init_208 pX9_init_88 hI (pi_ro 334 hn).2 (by rw [(pi_ro 334 hn).1]; omega) (fun _ => rfl) (fun _ => rfl) (Nat.le_of_ble_eq_true rfl) (fun w hI => ?_)
  refine y_aload_n eX9_init_211 rfl ?_
  refine y_sipush (v := nI 200) eX9_init_212 (by decide) ?_
  refine y_newaI eX9_init_215 (ya_I (by decide)) rfl (by decide) hI (pi_ro 334 hn).2 (by rw [(pi_ro 334 hn).1]; omega) (by omega) (show _ ≤ 365 by omega) (show _ ≤ sl + 6492 by omega) rfl (fun w hI => ?_)
  refine y_putI eX9_init_217 pX9_init_91 hI (pi_ro 334 hn).2 (by rw [(pi_ro 334 hn).1]; omega) (fun _ => rfl) (fun _ => rfl) (Nat.le_of_ble_eq_true rfl) (fun w hI => ?_)
  refine y_aload_n eX9_init_220 rfl ?_
  refine y_sipush (v := nI 200) eX9_init_221 (by decide) ?_
  refine y_newaI eX9_init_224 (ya_Z (by decide)) rfl (by decide) hI (pi_ro 334 hn).2 (by rw [(pi_ro 334 hn).1]; omega) (by omega) (show _ ≤ 365 by omega) (show _ ≤ sl + 6492 by omega) rfl (fun w hI => ?_)
  refine y_putI eX9_init_226 pX9_init_94 hI (pi_ro 334 hn).2 (by rw [(pi_ro 334 hn).1]; omega) (fun _ => rfl) (fun _ => rfl) (Nat.le_of_ble_eq_true rfl) (fun w hI => ?_)
  refine y_aload_n eX9_init_229 rfl ?_
  refine y_sipush (v := nI 600) eX9_init_230 (by decide) ?_
  refine y_newaI eX9_init_233 (ya_J (by decide)) rfl (by decide) hI (pi_ro 334 hn).2 (by rw [(pi_ro 334 hn).1]; omega) (by omega) (show _ ≤ 365 by omega) (show _ ≤ sl + 6492 by omega) rfl (fun w hI => ?_)
  refine y_putI eX9_init_235 pX9_init_97 hI (pi_ro 334 hn).2 (by rw [(pi_ro 334 hn).1]; omega) (fun _ => rfl) (fun _ => rfl) (Nat.le_of_ble_eq_true rfl) (fun w hI => ?_)
  refine y_aload_n eX9_init_238 rfl ?_
  refine y_bipush (v := nI 10) eX9_init_239 (by decide) ?_
  refine y_newaI eX9_init_241 (ya_J (by decide)) rfl (by decide) hI (pi_ro 334 hn).2 (by rw [(pi_ro 334 hn).1]; omega) (by omega) (show _ ≤ 365 by omega) (show _ ≤ sl + 6492 by omega) rfl (fun w hI => ?_)
  refine y_putI eX9_init_243 pX9_init_100 hI (pi_ro 334 hn).2 (by rw [(pi_ro 334 hn).1]; omega) (fun _ => rfl) (fun _ => rfl) (Nat.le_of_ble_eq_true rfl) (fun w hI => ?_)
  refine y_aload_n eX9_init_246 rfl ?_
  refine y_bipush (v := nI 10) eX9_init_247 (by decide) ?_
  refine y_newaI eX9_init_249 (ya_J (by decide)) rfl (by decide) hI (pi_ro 334 hn).2 (by rw [(pi_ro 334 hn).1]; omega) (by omega) (show _ ≤ 365 by omega) (show _ ≤ sl + 6492 by omega) rfl (fun w hI => ?_)
  refine y_putI eX9_init_251 pX9_init_103 hI (pi_ro 334 hn).2 (by rw [(pi_ro 334 hn).1]; omega) (fun _ => rfl) (fun _ => rfl) (Nat.le_of_ble_eq_true rfl) (fun w hI => ?_)
  refine y_aload_n eX9_init_254 rfl ?_
  refine y_sipush (v := nI 600) eX9_init_255 (by decide) ?_
  refine y_newaI eX9_init_258 (ya_J (by decide)) rfl (by decide) hI (pi_ro 334 hn).2 (by rw [(pi_ro 334 hn).1]; omega) (by omega) (show _ ≤ 365 by omega) (show _ ≤ sl + 6492 by omega) rfl (fun w hI => ?_)
  refine y_putI eX9_init_260 pX9_init_106 hI (pi_ro 334 hn).2 (by rw [(pi_ro 334 hn).1]; omega) (fun _ => rfl) (fun _ => rfl) (Nat.le_of_ble_eq_true rfl) (fun w hI => ?_)
  refine y_aload_n eX9_init_263 rfl ?_
  refine y_iconst (v := (0)) eX9_init_264 (by decide) ?_
  refine y_putI eX9_init_265 pX9_init_109 hI (pi_ro 334 hn).2 (by rw [(pi_ro 334 hn).1]; omega) (fun _ => rfl) (fun _ => rfl) (Nat.le_of_ble_eq_true rfl) (fun w hI => ?_)
  refine y_end ⟨by omega, by omega, rfl, eX9_init_268.1, ?_⟩
  have hf := inc_fil (pi_ro 334 hn).2 (by rw [(pi_ro 334 hn).1]; omega) hI rfl
  rw [(pi_ro 334 hn).1] at hf
  exact hf
