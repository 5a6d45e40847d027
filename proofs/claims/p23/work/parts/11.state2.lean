/-! ===== State: what changes ===== -/
def cpM (C : Mem) (f q : Nat) : Mem :=
  let C1 := up C q 0 (C f 0)
  let C2 := up C1 q 1 (C1 f 1)
  let C3 := up C2 q 2 (C2 f 2)
  let C4 := up C3 q 3 (C3 f 3)
  let C5 := cpy C4 (f + 1) (q + 1) 0 0 12
  let C6 := cpy C5 (f + 2) (q + 2) 0 0 12
  let C7 := cpy C6 (f + 3) (q + 3) 0 0 12
  let C8 := cpy C7 (f + 4) (q + 4) 0 0 12
  let C9 := cpy C8 (f + 5) (q + 5) 0 0 12
  let C10 := cpy C9 (f + 6) (q + 6) 0 0 12
  let C11 := cpy C10 (f + 7) (q + 7) 0 0 12
  let C12 := cpy C11 (f + 8) (q + 8) 0 0 12
  let C13 := cpy C12 (f + 9) (q + 9) 0 0 1152
  let C14 := cpy C13 (f + 10) (q + 10) 0 0 96
  let C15 := cpy C14 (f + 11) (q + 11) 0 0 96
  let C16 := cpy C15 (f + 12) (q + 12) 0 0 96
  let C17 := cpy C16 (f + 13) (q + 13) 0 0 96
  let C18 := cpy C17 (f + 14) (q + 14) 0 0 96
  let C19 := cpy C18 (f + 15) (q + 15) 0 0 4
  C19
theorem cpy_ne {C : Mem} {a b u v w c : Nat} (h : c ≠ b) : cpy C a b u v w c = C c := by simp [cpy, h]
theorem cpM_ne {C : Mem} {f q c : Nat} (h : c < q ∨ q + 16 ≤ c) : cpM C f q c = C c := by
  show cpy (cpy (cpy (cpy (cpy (cpy (cpy (cpy (cpy (cpy (cpy (cpy (cpy (cpy (cpy (up (up (up (up C q 0 _) q 1 _) q 2 _) q 3 _) _ _ _ _ _) _ _ _ _ _) _ _ _ _ _) _ _ _ _ _) _ _ _ _ _) _ _ _ _ _) _ _ _ _ _) _ _ _ _ _) _ _ _ _ _) _ _ _ _ _) _ _ _ _ _) _ _ _ _ _) _ _ _ _ _) _ _ _ _ _) _ _ _ _ _ c = C c
  rw [cpy_ne (by omega), cpy_ne (by omega), cpy_ne (by omega), cpy_ne (by omega), cpy_ne (by omega), cpy_ne (by omega), cpy_ne (by omega), cpy_ne (by omega), cpy_ne (by omega), cpy_ne (by omega), cpy_ne (by omega), cpy_ne (by omega), cpy_ne (by omega), cpy_ne (by omega), cpy_ne (by omega), up_ne (by omega), up_ne (by omega), up_ne (by omega), up_ne (by omega)]
set_option maxRecDepth 100000 in
set_option maxHeartbeats 1000000 in
theorem c_X3_copyFrom {sh : Sh} {C : Mem} {q f : Nat} (hq : IsSt sh q) (hf : IsSt sh f) : Calls mX3_copyFrom 1 0 0 [.inr (some (q)), .inr (some (f))] sh C (none) sh (cpM C f q) := by
  refine Calls.of plX3 (Nat.le_of_ble_eq_true rfl) ?_
  show WP mX3_copyFrom 1 0 0 0 [some (.inr (some (q))), some (.inr (some (f)))] [] sh (C) (none) sh (cpM C f q)
  refine zw_aload_n dX3_copyFrom_0 rfl ?_
  refine zw_aload_n dX3_copyFrom_1 rfl ?_
  refine zw_getI (j := 0) (kd := 3) dX3_copyFrom_2 hf.i hf.k (by decide) (by decide) fl_X3_61 rfl ?_
  refine zw_putI (j := 0) (kd := 3) dX3_copyFrom_5 hq.i hq.k (by decide) (by decide) fl_X3_61 rfl rfl rfl ?_
  refine zw_aload_n dX3_copyFrom_8 rfl ?_
  refine zw_aload_n dX3_copyFrom_9 rfl ?_
  refine zw_getI (j := 1) (kd := 3) dX3_copyFrom_10 hf.i hf.k (by decide) (by decide) fl_X3_9 rfl ?_
  refine zw_putI (j := 1) (kd := 3) dX3_copyFrom_13 hq.i hq.k (by decide) (by decide) fl_X3_9 rfl rfl rfl ?_
  refine zw_aload_n dX3_copyFrom_16 rfl ?_
  refine zw_aload_n dX3_copyFrom_17 rfl ?_
  refine zw_getI (j := 2) (kd := 3) dX3_copyFrom_18 hf.i hf.k (by decide) (by decide) fl_X3_64 rfl ?_
  refine zw_putI (j := 2) (kd := 3) dX3_copyFrom_21 hq.i hq.k (by decide) (by decide) fl_X3_64 rfl rfl rfl ?_
  refine zw_aload_n dX3_copyFrom_24 rfl ?_
  refine zw_aload_n dX3_copyFrom_25 rfl ?_
  refine zw_getI (j := 3) (kd := 3) dX3_copyFrom_26 hf.i hf.k (by decide) (by decide) fl_X3_67 rfl ?_
  refine zw_putI (j := 3) (kd := 3) dX3_copyFrom_29 hq.i hq.k (by decide) (by decide) fl_X3_67 rfl rfl rfl ?_
  refine zw_aload_n dX3_copyFrom_32 rfl ?_
  refine zw_getR (j := 4) (kd := 3) dX3_copyFrom_33 hf.i hf.k (by decide) (by decide) fl_X3_15 rfl hf.r0 ?_
  refine zw_iconst (v := nI 0) dX3_copyFrom_36 (by decide) ?_
  refine zw_aload_n dX3_copyFrom_37 rfl ?_
  refine zw_getR (j := 4) (kd := 3) dX3_copyFrom_38 hq.i hq.k (by decide) (by decide) fl_X3_15 rfl hq.r0 ?_
  refine zw_iconst (v := nI 0) dX3_copyFrom_41 (by decide) ?_
  refine zw_bipush (v := nI 12) dX3_copyFrom_42 (by decide) ?_
  refine zw_copy dX3_copyFrom_44 ml_X3_70 (by decide) (Nat.le_of_ble_eq_true rfl) hf.i0 hf.k0 hq.i0 hq.k0 rfl rfl rfl ⟨by decide, by decide, by decide⟩ (by rw [hf.n0]; decide) (by rw [hq.n0]; decide) ?_
  refine zw_aload_n dX3_copyFrom_47 rfl ?_
  refine zw_getR (j := 5) (kd := 3) dX3_copyFrom_48 hf.i hf.k (by decide) (by decide) fl_X3_19 rfl hf.r1 ?_
  refine zw_iconst (v := nI 0) dX3_copyFrom_51 (by decide) ?_
  refine zw_aload_n dX3_copyFrom_52 rfl ?_
  refine zw_getR (j := 5) (kd := 3) dX3_copyFrom_53 hq.i hq.k (by decide) (by decide) fl_X3_19 rfl hq.r1 ?_
  refine zw_iconst (v := nI 0) dX3_copyFrom_56 (by decide) ?_
  refine zw_bipush (v := nI 12) dX3_copyFrom_57 (by decide) ?_
  refine zw_copy dX3_copyFrom_59 ml_X3_70 (by decide) (Nat.le_of_ble_eq_true rfl) hf.i1 hf.k1 hq.i1 hq.k1 rfl rfl rfl ⟨by decide, by decide, by decide⟩ (by rw [hf.n1]; decide) (by rw [hq.n1]; decide) ?_
  refine zw_aload_n dX3_copyFrom_62 rfl ?_
  refine zw_getR (j := 6) (kd := 3) dX3_copyFrom_63 hf.i hf.k (by decide) (by decide) fl_X3_22 rfl hf.r2 ?_
  refine zw_iconst (v := nI 0) dX3_copyFrom_66 (by decide) ?_
  refine zw_aload_n dX3_copyFrom_67 rfl ?_
  refine zw_getR (j := 6) (kd := 3) dX3_copyFrom_68 hq.i hq.k (by decide) (by decide) fl_X3_22 rfl hq.r2 ?_
  refine zw_iconst (v := nI 0) dX3_copyFrom_71 (by decide) ?_
  refine zw_bipush (v := nI 12) dX3_copyFrom_72 (by decide) ?_
  refine zw_copy dX3_copyFrom_74 ml_X3_70 (by decide) (Nat.le_of_ble_eq_true rfl) hf.i2 hf.k2 hq.i2 hq.k2 rfl rfl rfl ⟨by decide, by decide, by decide⟩ (by rw [hf.n2]; decide) (by rw [hq.n2]; decide) ?_
  refine zw_aload_n dX3_copyFrom_77 rfl ?_
  refine zw_getR (j := 7) (kd := 3) dX3_copyFrom_78 hf.i hf.k (by decide) (by decide) fl_X3_25 rfl hf.r3 ?_
  refine zw_iconst (v := nI 0) dX3_copyFrom_81 (by decide) ?_
  refine zw_aload_n dX3_copyFrom_82 rfl ?_
  refine zw_getR (j := 7) (kd := 3) dX3_copyFrom_83 hq.i hq.k (by decide) (by decide) fl_X3_25 rfl hq.r3 ?_
  refine zw_iconst (v := nI 0) dX3_copyFrom_86 (by decide) ?_
  refine zw_bipush (v := nI 12) dX3_copyFrom_87 (by decide) ?_
  refine zw_copy dX3_copyFrom_89 ml_X3_70 (by decide) (Nat.le_of_ble_eq_true rfl) hf.i3 hf.k3 hq.i3 hq.k3 rfl rfl rfl ⟨by decide, by decide, by decide⟩ (by rw [hf.n3]; decide) (by rw [hq.n3]; decide) ?_
  refine zw_aload_n dX3_copyFrom_92 rfl ?_
  refine zw_getR (j := 8) (kd := 3) dX3_copyFrom_93 hf.i hf.k (by decide) (by decide) fl_X3_28 rfl hf.r4 ?_
  refine zw_iconst (v := nI 0) dX3_copyFrom_96 (by decide) ?_
  refine zw_aload_n dX3_copyFrom_97 rfl ?_
  refine zw_getR (j := 8) (kd := 3) dX3_copyFrom_98 hq.i hq.k (by decide) (by decide) fl_X3_28 rfl hq.r4 ?_
  refine zw_iconst (v := nI 0) dX3_copyFrom_101 (by decide) ?_
  refine zw_bipush (v := nI 12) dX3_copyFrom_102 (by decide) ?_
  refine zw_copy dX3_copyFrom_104 ml_X3_70 (by decide) (Nat.le_of_ble_eq_true rfl) hf.i4 hf.k4 hq.i4 hq.k4 rfl rfl rfl ⟨by decide, by decide, by decide⟩ (by rw [hf.n4]; decide) (by rw [hq.n4]; decide) ?_
  refine zw_aload_n dX3_copyFrom_107 rfl ?_
  refine zw_getR (j := 9) (kd := 3) dX3_copyFrom_108 hf.i hf.k (by decide) (by decide) fl_X3_31 rfl hf.r5 ?_
  refine zw_iconst (v := nI 0) dX3_copyFrom_111 (by decide) ?_
  refine zw_aload_n dX3_copyFrom_112 rfl ?_
  refine zw_getR (j := 9) (kd := 3) dX3_copyFrom_113 hq.i hq.k (by decide) (by decide) fl_X3_31 rfl hq.r5 ?_
  refine zw_iconst (v := nI 0) dX3_copyFrom_116 (by decide) ?_
  refine zw_bipush (v := nI 12) dX3_copyFrom_117 (by decide) ?_
  refine zw_copy dX3_copyFrom_119 ml_X3_70 (by decide) (Nat.le_of_ble_eq_true rfl) hf.i5 hf.k5 hq.i5 hq.k5 rfl rfl rfl ⟨by decide, by decide, by decide⟩ (by rw [hf.n5]; decide) (by rw [hq.n5]; decide) ?_
  refine zw_aload_n dX3_copyFrom_122 rfl ?_
  refine zw_getR (j := 10) (kd := 3) dX3_copyFrom_123 hf.i hf.k (by decide) (by decide) fl_X3_34 rfl hf.r6 ?_
  refine zw_iconst (v := nI 0) dX3_copyFrom_126 (by decide) ?_
  refine zw_aload_n dX3_copyFrom_127 rfl ?_
  refine zw_getR (j := 10) (kd := 3) dX3_copyFrom_128 hq.i hq.k (by decide) (by decide) fl_X3_34 rfl hq.r6 ?_
  refine zw_iconst (v := nI 0) dX3_copyFrom_131 (by decide) ?_
  refine zw_bipush (v := nI 12) dX3_copyFrom_132 (by decide) ?_
  refine zw_copy dX3_copyFrom_134 ml_X3_70 (by decide) (Nat.le_of_ble_eq_true rfl) hf.i6 hf.k6 hq.i6 hq.k6 rfl rfl rfl ⟨by decide, by decide, by decide⟩ (by rw [hf.n6]; decide) (by rw [hq.n6]; decide) ?_
  refine zw_aload_n dX3_copyFrom_137 rfl ?_
  refine zw_getR (j := 11) (kd := 3) dX3_copyFrom_138 hf.i hf.k (by decide) (by decide) fl_X3_37 rfl hf.r7 ?_
  refine zw_iconst (v := nI 0) dX3_copyFrom_141 (by decide) ?_
  refine zw_aload_n dX3_copyFrom_142 rfl ?_
  refine zw_getR (j := 11) (kd := 3) dX3_copyFrom_143 hq.i hq.k (by decide) (by decide) fl_X3_37 rfl hq.r7 ?_
  refine zw_iconst (v := nI 0) dX3_copyFrom_146 (by decide) ?_
  refine zw_bipush (v := nI 12) dX3_copyFrom_147 (by decide) ?_
  refine zw_copy dX3_copyFrom_149 ml_X3_70 (by decide) (Nat.le_of_ble_eq_true rfl) hf.i7 hf.k7 hq.i7 hq.k7 rfl rfl rfl ⟨by decide, by decide, by decide⟩ (by rw [hf.n7]; decide) (by rw [hq.n7]; decide) ?_
  refine zw_aload_n dX3_copyFrom_152 rfl ?_
  refine zw_getR (j := 12) (kd := 3) dX3_copyFrom_153 hf.i hf.k (by decide) (by decide) fl_X3_40 rfl hf.r8 ?_
  refine zw_iconst (v := nI 0) dX3_copyFrom_156 (by decide) ?_
  refine zw_aload_n dX3_copyFrom_157 rfl ?_
  refine zw_getR (j := 12) (kd := 3) dX3_copyFrom_158 hq.i hq.k (by decide) (by decide) fl_X3_40 rfl hq.r8 ?_
  refine zw_iconst (v := nI 0) dX3_copyFrom_161 (by decide) ?_
  refine zw_sipush (v := nI 1152) dX3_copyFrom_162 (by decide) ?_
  refine zw_copy dX3_copyFrom_165 ml_X3_70 (by decide) (Nat.le_of_ble_eq_true rfl) hf.i8 hf.k8 hq.i8 hq.k8 rfl rfl rfl ⟨by decide, by decide, by decide⟩ (by rw [hf.n8]; decide) (by rw [hq.n8]; decide) ?_
  refine zw_aload_n dX3_copyFrom_168 rfl ?_
  refine zw_getR (j := 13) (kd := 3) dX3_copyFrom_169 hf.i hf.k (by decide) (by decide) fl_X3_43 rfl hf.r9 ?_
  refine zw_iconst (v := nI 0) dX3_copyFrom_172 (by decide) ?_
  refine zw_aload_n dX3_copyFrom_173 rfl ?_
  refine zw_getR (j := 13) (kd := 3) dX3_copyFrom_174 hq.i hq.k (by decide) (by decide) fl_X3_43 rfl hq.r9 ?_
  refine zw_iconst (v := nI 0) dX3_copyFrom_177 (by decide) ?_
  refine zw_bipush (v := nI 96) dX3_copyFrom_178 (by decide) ?_
  refine zw_copy dX3_copyFrom_180 ml_X3_70 (by decide) (Nat.le_of_ble_eq_true rfl) hf.i9 hf.k9 hq.i9 hq.k9 rfl rfl rfl ⟨by decide, by decide, by decide⟩ (by rw [hf.n9]; decide) (by rw [hq.n9]; decide) ?_
  refine zw_aload_n dX3_copyFrom_183 rfl ?_
  refine zw_getR (j := 14) (kd := 3) dX3_copyFrom_184 hf.i hf.k (by decide) (by decide) fl_X3_46 rfl hf.r10 ?_
  refine zw_iconst (v := nI 0) dX3_copyFrom_187 (by decide) ?_
  refine zw_aload_n dX3_copyFrom_188 rfl ?_
  refine zw_getR (j := 14) (kd := 3) dX3_copyFrom_189 hq.i hq.k (by decide) (by decide) fl_X3_46 rfl hq.r10 ?_
  refine zw_iconst (v := nI 0) dX3_copyFrom_192 (by decide) ?_
  refine zw_bipush (v := nI 96) dX3_copyFrom_193 (by decide) ?_
  refine zw_copy dX3_copyFrom_195 ml_X3_70 (by decide) (Nat.le_of_ble_eq_true rfl) hf.i10 hf.k10 hq.i10 hq.k10 rfl rfl rfl ⟨by decide, by decide, by decide⟩ (by rw [hf.n10]; decide) (by rw [hq.n10]; decide) ?_
  refine zw_aload_n dX3_copyFrom_198 rfl ?_
  refine zw_getR (j := 15) (kd := 3) dX3_copyFrom_199 hf.i hf.k (by decide) (by decide) fl_X3_49 rfl hf.r11 ?_
  refine zw_iconst (v := nI 0) dX3_copyFrom_202 (by decide) ?_
  refine zw_aload_n dX3_copyFrom_203 rfl ?_
  refine zw_getR (j := 15) (kd := 3) dX3_copyFrom_204 hq.i hq.k (by decide) (by decide) fl_X3_49 rfl hq.r11 ?_
  refine zw_iconst (v := nI 0) dX3_copyFrom_207 (by decide) ?_
  refine zw_bipush (v := nI 96) dX3_copyFrom_208 (by decide) ?_
  refine zw_copy dX3_copyFrom_210 ml_X3_70 (by decide) (Nat.le_of_ble_eq_true rfl) hf.i11 hf.k11 hq.i11 hq.k11 rfl rfl rfl ⟨by decide, by decide, by decide⟩ (by rw [hf.n11]; decide) (by rw [hq.n11]; decide) ?_
  refine zw_aload_n dX3_copyFrom_213 rfl ?_
  refine zw_getR (j := 16) (kd := 3) dX3_copyFrom_214 hf.i hf.k (by decide) (by decide) fl_X3_52 rfl hf.r12 ?_
  refine zw_iconst (v := nI 0) dX3_copyFrom_217 (by decide) ?_
  refine zw_aload_n dX3_copyFrom_218 rfl ?_
  refine zw_getR (j := 16) (kd := 3) dX3_copyFrom_219 hq.i hq.k (by decide) (by decide) fl_X3_52 rfl hq.r12 ?_
  refine zw_iconst (v := nI 0) dX3_copyFrom_222 (by decide) ?_
  refine zw_bipush (v := nI 96) dX3_copyFrom_223 (by decide) ?_
  refine zw_copy dX3_copyFrom_225 ml_X3_70 (by decide) (Nat.le_of_ble_eq_true rfl) hf.i12 hf.k12 hq.i12 hq.k12 rfl rfl rfl ⟨by decide, by decide, by decide⟩ (by rw [hf.n12]; decide) (by rw [hq.n12]; decide) ?_
  refine zw_aload_n dX3_copyFrom_228 rfl ?_
  refine zw_getR (j := 17) (kd := 3) dX3_copyFrom_229 hf.i hf.k (by decide) (by decide) fl_X3_55 rfl hf.r13 ?_
  refine zw_iconst (v := nI 0) dX3_copyFrom_232 (by decide) ?_
  refine zw_aload_n dX3_copyFrom_233 rfl ?_
  refine zw_getR (j := 17) (kd := 3) dX3_copyFrom_234 hq.i hq.k (by decide) (by decide) fl_X3_55 rfl hq.r13 ?_
  refine zw_iconst (v := nI 0) dX3_copyFrom_237 (by decide) ?_
  refine zw_bipush (v := nI 96) dX3_copyFrom_238 (by decide) ?_
  refine zw_copy dX3_copyFrom_240 ml_X3_70 (by decide) (Nat.le_of_ble_eq_true rfl) hf.i13 hf.k13 hq.i13 hq.k13 rfl rfl rfl ⟨by decide, by decide, by decide⟩ (by rw [hf.n13]; decide) (by rw [hq.n13]; decide) ?_
  refine zw_aload_n dX3_copyFrom_243 rfl ?_
  refine zw_getR (j := 18) (kd := 3) dX3_copyFrom_244 hf.i hf.k (by decide) (by decide) fl_X3_58 rfl hf.r14 ?_
  refine zw_iconst (v := nI 0) dX3_copyFrom_247 (by decide) ?_
  refine zw_aload_n dX3_copyFrom_248 rfl ?_
  refine zw_getR (j := 18) (kd := 3) dX3_copyFrom_249 hq.i hq.k (by decide) (by decide) fl_X3_58 rfl hq.r14 ?_
  refine zw_iconst (v := nI 0) dX3_copyFrom_252 (by decide) ?_
  refine zw_iconst (v := nI 4) dX3_copyFrom_253 (by decide) ?_
  refine zw_copy dX3_copyFrom_254 ml_X3_70 (by decide) (Nat.le_of_ble_eq_true rfl) hf.i14 hf.k14 hq.i14 hq.k14 rfl rfl rfl ⟨by decide, by decide, by decide⟩ (by rw [hf.n14]; decide) (by rw [hq.n14]; decide) ?_
  exact zw_vretE dX3_copyFrom_257 rfl rfl rfl (rfl)
def cSt (C : Mem) (q s : Nat) (sd : Int32) (p : Nat) : Mem :=
  let am := bF (bm C q p s) sd
  if 0 < am then
    let C1 := up C (q + 1) p (C (q + 1) p - am)
    let C2 := up C1 (q + 5) p (C1 (q + 5) p + nI 1)
    up C2 (q + 6) p (C2 (q + 6) p + am)
  else C
def cM (C : Mem) (q s : Nat) (sd : Int32) : Nat → Mem
  | 0 => C
  | k + 1 => cSt (cM C q s sd k) q s sd k
def cP (C : Mem) (q s : Nat) (sd : Int32) : Nat → Int32
  | 0 => nI 0
  | k + 1 => if 0 < bF (bm (cM C q s sd k) q k s) sd then cP C q s sd k + bF (bm (cM C q s sd k) q k s) sd else cP C q s sd k
theorem cSt_ne {C : Mem} {q s p b : Nat} {sd : Int32} (h1 : b ≠ q + 1) (h2 : b ≠ q + 5) (h3 : b ≠ q + 6) : cSt C q s sd p b = C b := by
  unfold cSt
  by_cases h : 0 < bF (bm C q p s) sd
  · simp only [h, if_true]
    rw [up_ne h3, up_ne h2, up_ne h1]
  · simp only [h, if_false]
theorem cM_ne {C : Mem} {q s b : Nat} {sd : Int32} (h1 : b ≠ q + 1) (h2 : b ≠ q + 5) (h3 : b ≠ q + 6) : ∀ k, cM C q s sd k b = C b
  | 0 => rfl
  | k + 1 => (cSt_ne h1 h2 h3).trans (cM_ne h1 h2 h3 k)
theorem Wf.cM {C : Mem} {q P s : Nat} {sd : Int32} (h : Wf C q P) (k : Nat) : Wf (cM C q s sd k) q P := h.of (by rw [cM_ne (by omega) (by omega) (by omega)]) (cM_ne (by omega) (by omega) (by omega) k)
set_option maxRecDepth 100000 in
set_option maxHeartbeats 1000000 in
theorem c_X3_collectFrom {sh : Sh} {C : Mem} {q P : Nat} (hq : IsSt sh q) (hw : Wf C q P) {s : Nat} (hs : s < 96) (sd : Int32) : Calls mX3_collectFrom 1 0 0 [.inr (some (q)), .inl (nI (s)), .inl (sd)] sh C (some (.inl (cP C q s sd P))) sh (cM C q s sd P) := by
  refine Calls.of plX3 (Nat.le_of_ble_eq_true rfl) ?_
  show WP mX3_collectFrom 1 0 0 0 [some (.inr (some (q))), some (.inl (nI (s))), some (.inl (sd)), none, none, none] [] sh (C) (some (.inl (cP C q s sd P))) sh (cM C q s sd P)
  have hP12 := hw.2.1
  refine zw_iconst (v := nI 0) dX3_collectFrom_0 (by decide) ?_
  refine zw_istore_n dX3_collectFrom_1 (by decide) ?_
  refine zw_iconst (v := nI 0) dX3_collectFrom_2 (by decide) ?_
  refine zw_istore dX3_collectFrom_3 (by decide) ?_
  have L5 : ∀ (n_5 k : Nat), k + n_5 = P → WP mX3_collectFrom 1 0 0 5 [some (.inr (some (q))), some (.inl (nI (s))), some (.inl (sd)), some (.inl (cP C q s sd (k))), some (.inl (nI (k))), none] [] sh (cM C q s sd (k)) (some (.inl (cP C q s sd P))) sh (cM C q s sd P) := by
    intro n_5
    induction n_5 with
    | zero =>
      intro k hk5
      have ek5 : P = k := by omega
      subst ek5
      refine zw_iload dX3_collectFrom_5 rfl ?_
      refine zw_aload_n dX3_collectFrom_7 rfl ?_
      refine zw_getIv (j := 3) (kd := 3) (v := (nI (P))) dX3_collectFrom_8 hq.i hq.k (by decide) (by decide) fl_X3_67 rfl (hw.cM (P)).1 ?_
      refine zw_icmp_ge_n (tgt := 75) dX3_collectFrom_11 (by decide) (by omega) (by omega) (fun c11 => ?_) (fun c11 => by omega)
      refine zw_iload_n dX3_collectFrom_75 rfl ?_
      exact zw_iretE dX3_collectFrom_76 rfl (rfl) rfl (rfl)
    | succ n_5 ih5 =>
      intro k hk5
      have hlt5 : k < P := by omega
      refine zw_iload dX3_collectFrom_5 rfl ?_
      refine zw_aload_n dX3_collectFrom_7 rfl ?_
      refine zw_getIv (j := 3) (kd := 3) (v := (nI (P))) dX3_collectFrom_8 hq.i hq.k (by decide) (by decide) fl_X3_67 rfl (hw.cM (k)).1 ?_
      refine zw_icmp_ge_n (tgt := 75) dX3_collectFrom_11 (by decide) (by omega) (by omega) (fun c11 => by omega) (fun c11 => ?_)
      refine zw_aload_n dX3_collectFrom_14 rfl ?_
      refine zw_iload dX3_collectFrom_15 rfl ?_
      refine zw_iload_n dX3_collectFrom_17 rfl ?_
      refine zw_iload_n dX3_collectFrom_18 rfl ?_
      refine zw_cVi dX3_collectFrom_19 (c_X3_bidFor hq (by omega) (by omega) _) rfl okX3_bidFor ml_X3_76 hq.i hq.k (by decide) rfl (Nat.le_of_ble_eq_true rfl) (Nat.le_of_ble_eq_true rfl) ?_
      refine zw_istore dX3_collectFrom_22 (by decide) ?_
      refine zw_iload dX3_collectFrom_24 rfl ?_
      refine zw_if_le (tgt := 69) dX3_collectFrom_26 (by decide) (fun c26 => ?_) (fun c26 => ?_)
      · refine zw_iincn dX3_collectFrom_69 rfl (by decide) ?_
        refine zw_goto (tgt := 5) dX3_collectFrom_72 (by decide) ?_
        refine zw_mem (C2 := cM C q s sd (k + 1)) (by simp [cM, cSt, bm, *]) ?_
        exact WP.sub (ih5 (k + 1) (by omega)) ⟨rfl, rfl, rfl, (hd_eq (by simp [cP, bm, *])), rfl, trivial⟩
      · refine zw_aload_n dX3_collectFrom_29 rfl ?_
        refine zw_getR (j := 4) (kd := 3) dX3_collectFrom_30 hq.i hq.k (by decide) (by decide) fl_X3_15 rfl hq.r0 ?_
        refine zw_iload dX3_collectFrom_33 rfl ?_
        refine zw_dup2 dX3_collectFrom_35 ?_
        refine zw_iald dX3_collectFrom_36 hq.i0 hq.k0 hq.L0 rfl (by rw [hq.n0]; omega) ?_
        refine zw_iload dX3_collectFrom_37 rfl ?_
        refine zw_isub dX3_collectFrom_39 ?_
        refine zw_iast dX3_collectFrom_40 hq.i0 hq.k0 hq.L0 rfl (by rw [hq.n0]; omega) ?_
        refine zw_aload_n dX3_collectFrom_41 rfl ?_
        refine zw_getR (j := 8) (kd := 3) dX3_collectFrom_42 hq.i hq.k (by decide) (by decide) fl_X3_28 rfl hq.r4 ?_
        refine zw_iload dX3_collectFrom_45 rfl ?_
        refine zw_dup2 dX3_collectFrom_47 ?_
        refine zw_iald dX3_collectFrom_48 hq.i4 hq.k4 hq.L4 rfl (by rw [hq.n4]; omega) ?_
        refine zw_iconst (v := nI 1) dX3_collectFrom_49 (by decide) ?_
        refine zw_iadd dX3_collectFrom_50 ?_
        refine zw_iast dX3_collectFrom_51 hq.i4 hq.k4 hq.L4 rfl (by rw [hq.n4]; omega) ?_
        refine zw_aload_n dX3_collectFrom_52 rfl ?_
        refine zw_getR (j := 9) (kd := 3) dX3_collectFrom_53 hq.i hq.k (by decide) (by decide) fl_X3_31 rfl hq.r5 ?_
        refine zw_iload dX3_collectFrom_56 rfl ?_
        refine zw_dup2 dX3_collectFrom_58 ?_
        refine zw_iald dX3_collectFrom_59 hq.i5 hq.k5 hq.L5 rfl (by rw [hq.n5]; omega) ?_
        refine zw_iload dX3_collectFrom_60 rfl ?_
        refine zw_iadd dX3_collectFrom_62 ?_
        refine zw_iast dX3_collectFrom_63 hq.i5 hq.k5 hq.L5 rfl (by rw [hq.n5]; omega) ?_
        refine zw_iload_n dX3_collectFrom_64 rfl ?_
        refine zw_iload dX3_collectFrom_65 rfl ?_
        refine zw_iadd dX3_collectFrom_67 ?_
        refine zw_istore_n dX3_collectFrom_68 (by decide) ?_
        refine zw_iincn dX3_collectFrom_69 rfl (by decide) ?_
        refine zw_goto (tgt := 5) dX3_collectFrom_72 (by decide) ?_
        refine zw_mem (C2 := cM C q s sd (k + 1)) (by simp [cM, cSt, bm, *]) ?_
        exact WP.sub (ih5 (k + 1) (by omega)) ⟨rfl, rfl, rfl, (hd_eq (by simp [cP, bm, *])), rfl, trivial⟩
  exact WP.sub (L5 (P) 0 (by omega)) ⟨rfl, rfl, rfl, rfl, rfl, trivial⟩
def shSt (C : Mem) (q s : Nat) (sd m sum : Int32) (p : Nat) : Mem :=
  let x := m * bF (bm C q p s) sd / sum
  let C1 := rcv C q p x
  up C1 (q + 7) p (C1 (q + 7) p + x)
def shM (C : Mem) (q s : Nat) (sd m sum : Int32) : Nat → Mem
  | 0 => C
  | k + 1 => shSt (shM C q s sd m sum k) q s sd m sum k
def shP (C : Mem) (q s : Nat) (sd m sum : Int32) : Nat → Int32
  | 0 => nI 0
  | k + 1 => shP C q s sd m sum k + m * bF (bm (shM C q s sd m sum k) q k s) sd / sum
theorem shM_ne {C : Mem} {q s b : Nat} {sd m sum : Int32} (h1 : b ≠ q + 1) (h2 : b ≠ q + 3) (h3 : b ≠ q + 7) (h4 : b ≠ q + 15) : ∀ k, shM C q s sd m sum k b = C b
  | 0 => rfl
  | k + 1 => by
    show up (rcv _ _ _ _) _ _ _ b = _
    rw [up_ne h3, rcv_ne h1 h2 h4]
    exact shM_ne h1 h2 h3 h4 k
theorem Wf.shM {C : Mem} {q P s : Nat} {sd m sum : Int32} (h : Wf C q P) (k : Nat) : Wf (shM C q s sd m sum k) q P := h.of (by rw [shM_ne (by omega) (by omega) (by omega) (by omega)]) (shM_ne (by omega) (by omega) (by omega) (by omega) k)
def shRes (C : Mem) (q P s : Nat) (sd m : Int32) : Int32 := if 0 < sB C q P s sd then shP C q s sd m (sB C q P s sd) P else nI 0
def shMem (C : Mem) (q P s : Nat) (sd m : Int32) : Mem := if 0 < sB C q P s sd then shM C q s sd m (sB C q P s sd) P else C
theorem shMem_ne {C : Mem} {q P s b : Nat} {sd m : Int32} (h1 : b ≠ q + 1) (h2 : b ≠ q + 3) (h3 : b ≠ q + 7) (h4 : b ≠ q + 15) : shMem C q P s sd m b = C b := by
  unfold shMem
  split
  · exact shM_ne h1 h2 h3 h4 P
  · rfl
theorem Wf.shMem {C : Mem} {q P s : Nat} {sd m : Int32} (h : Wf C q P) : Wf (shMem C q P s sd m) q P := h.of (by rw [shMem_ne (by omega) (by omega) (by omega) (by omega)]) (shMem_ne (by omega) (by omega) (by omega) (by omega))
set_option maxRecDepth 100000 in
set_option maxHeartbeats 1000000 in
theorem c_X3_shareOut {sh : Sh} {C : Mem} {q P : Nat} (hq : IsSt sh q) (hw : Wf C q P) {s : Nat} (hs : s < 96) (sd m : Int32) : Calls mX3_shareOut 2 0 0 [.inr (some (q)), .inl (nI (s)), .inl (sd), .inl (m)] sh C (some (.inl (shRes C q P s sd m))) sh (shMem C q P s sd m) := by
  refine Calls.of plX3 (Nat.le_of_ble_eq_true rfl) ?_
  show WP mX3_shareOut 2 0 0 0 [some (.inr (some (q))), some (.inl (nI (s))), some (.inl (sd)), some (.inl (m)), none, none, none, none] [] sh (C) (some (.inl (shRes C q P s sd m))) sh (shMem C q P s sd m)
  have hP12 := hw.2.1
  refine zw_aload_n dX3_shareOut_0 rfl ?_
  refine zw_iload_n dX3_shareOut_1 rfl ?_
  refine zw_iload_n dX3_shareOut_2 rfl ?_
  refine zw_cVi dX3_shareOut_3 (c_X3_sumOfBids hq hw (by omega) _) rfl okX3_sumOfBids ml_X3_104 hq.i hq.k (by decide) rfl (Nat.le_of_ble_eq_true rfl) (Nat.le_of_ble_eq_true rfl) ?_
  refine zw_istore dX3_shareOut_6 (by decide) ?_
  refine zw_iload dX3_shareOut_8 rfl ?_
  refine zw_if_gt (tgt := 15) dX3_shareOut_10 (by decide) (fun c10 => ?_) (fun c10 => ?_)
  · refine zw_iconst (v := nI 0) dX3_shareOut_15 (by decide) ?_
    refine zw_istore dX3_shareOut_16 (by decide) ?_
    refine zw_iconst (v := nI 0) dX3_shareOut_18 (by decide) ?_
    refine zw_istore dX3_shareOut_19 (by decide) ?_
    have L21 : ∀ (n_21 k : Nat), k + n_21 = P → WP mX3_shareOut 2 0 0 21 [some (.inr (some (q))), some (.inl (nI (s))), some (.inl (sd)), some (.inl (m)), some (.inl ((sB C q P s sd))), some (.inl (shP C q s sd m (sB C q P s sd) (k))), some (.inl (nI (k))), none] [] sh (shM C q s sd m (sB C q P s sd) (k)) (some (.inl (shRes C q P s sd m))) sh (shMem C q P s sd m) := by
      intro n_21
      induction n_21 with
      | zero =>
        intro k hk21
        have ek21 : P = k := by omega
        subst ek21
        refine zw_iload dX3_shareOut_21 rfl ?_
        refine zw_aload_n dX3_shareOut_23 rfl ?_
        refine zw_getIv (j := 3) (kd := 3) (v := (nI (P))) dX3_shareOut_24 hq.i hq.k (by decide) (by decide) fl_X3_67 rfl (hw.shM (P)).1 ?_
        refine zw_icmp_ge_n (tgt := 78) dX3_shareOut_27 (by decide) (by omega) (by omega) (fun c27 => ?_) (fun c27 => by omega)
        refine zw_iload dX3_shareOut_78 rfl ?_
        exact zw_iretE dX3_shareOut_80 rfl (by simp [shRes, *]) rfl (by simp [shMem, *])
      | succ n_21 ih21 =>
        intro k hk21
        have hlt21 : k < P := by omega
        refine zw_iload dX3_shareOut_21 rfl ?_
        refine zw_aload_n dX3_shareOut_23 rfl ?_
        refine zw_getIv (j := 3) (kd := 3) (v := (nI (P))) dX3_shareOut_24 hq.i hq.k (by decide) (by decide) fl_X3_67 rfl (hw.shM (k)).1 ?_
        refine zw_icmp_ge_n (tgt := 78) dX3_shareOut_27 (by decide) (by omega) (by omega) (fun c27 => by omega) (fun c27 => ?_)
        refine zw_iload_n dX3_shareOut_30 rfl ?_
        refine zw_aload_n dX3_shareOut_31 rfl ?_
        refine zw_iload dX3_shareOut_32 rfl ?_
        refine zw_iload_n dX3_shareOut_34 rfl ?_
        refine zw_iload_n dX3_shareOut_35 rfl ?_
        refine zw_cVi dX3_shareOut_36 (c_X3_bidFor hq (by omega) (by omega) _) rfl okX3_bidFor ml_X3_76 hq.i hq.k (by decide) rfl (Nat.le_of_ble_eq_true rfl) (Nat.le_of_ble_eq_true rfl) ?_
        refine zw_imul dX3_shareOut_39 ?_
        refine zw_iload dX3_shareOut_40 rfl ?_
        refine zw_idiv dX3_shareOut_42 (fun z => absurd c10 (by rw [z]; decide)) ?_
        refine zw_istore dX3_shareOut_43 (by decide) ?_
        refine zw_aload_n dX3_shareOut_45 rfl ?_
        refine zw_iload dX3_shareOut_46 rfl ?_
        refine zw_iload dX3_shareOut_48 rfl ?_
        refine zw_cVv dX3_shareOut_50 (c_X3_receive hq (hw.shM (k)) (by omega) _) rfl okX3_receive ml_X3_141 hq.i hq.k (by decide) rfl (Nat.le_of_ble_eq_true rfl) (Nat.le_of_ble_eq_true rfl) ?_
        refine zw_aload_n dX3_shareOut_53 rfl ?_
        refine zw_getR (j := 10) (kd := 3) dX3_shareOut_54 hq.i hq.k (by decide) (by decide) fl_X3_34 rfl hq.r6 ?_
        refine zw_iload dX3_shareOut_57 rfl ?_
        refine zw_dup2 dX3_shareOut_59 ?_
        refine zw_iald dX3_shareOut_60 hq.i6 hq.k6 hq.L6 rfl (by rw [hq.n6]; omega) ?_
        refine zw_iload dX3_shareOut_61 rfl ?_
        refine zw_iadd dX3_shareOut_63 ?_
        refine zw_iast dX3_shareOut_64 hq.i6 hq.k6 hq.L6 rfl (by rw [hq.n6]; omega) ?_
        refine zw_iload dX3_shareOut_65 rfl ?_
        refine zw_iload dX3_shareOut_67 rfl ?_
        refine zw_iadd dX3_shareOut_69 ?_
        refine zw_istore dX3_shareOut_70 (by decide) ?_
        refine zw_iincn dX3_shareOut_72 rfl (by decide) ?_
        refine zw_goto (tgt := 21) dX3_shareOut_75 (by decide) ?_
        exact WP.sub (ih21 (k + 1) (by omega)) ⟨rfl, rfl, rfl, rfl, rfl, rfl, rfl, trivial⟩
    exact WP.sub (L21 (P) 0 (by omega)) ⟨rfl, rfl, rfl, rfl, rfl, rfl, rfl, trivial⟩
  · refine zw_iconst (v := nI 0) dX3_shareOut_13 (by decide) ?_
    exact zw_iretE dX3_shareOut_14 rfl (by simp [shRes, *]) rfl (by simp [shMem, *])
def bq (C : Mem) (q s : Nat) : Nat → Int32
  | 0 => nI 0
  | k + 1 => if 0 < bF (bm C q k s) (nI 0) then bq C q s k ||| (nI 1 <<< (nI k &&& 31)) else bq C q s k
set_option maxRecDepth 100000 in
set_option maxHeartbeats 1000000 in
theorem c_X3_biddersForQuiet {sh : Sh} {C : Mem} {q P : Nat} (hq : IsSt sh q) (hw : Wf C q P) {s : Nat} (hs : s < 96) : Calls mX3_biddersForQuiet 1 0 0 [.inr (some (q)), .inl (nI (s))] sh C (some (.inl (bq C q s P))) sh (C) := by
  refine Calls.of plX3 (Nat.le_of_ble_eq_true rfl) ?_
  show WP mX3_biddersForQuiet 1 0 0 0 [some (.inr (some (q))), some (.inl (nI (s))), none, none] [] sh (C) (some (.inl (bq C q s P))) sh (C)
  have hP12 := hw.2.1
  refine zw_iconst (v := nI 0) dX3_biddersForQuiet_0 (by decide) ?_
  refine zw_istore_n dX3_biddersForQuiet_1 (by decide) ?_
  refine zw_iconst (v := nI 0) dX3_biddersForQuiet_2 (by decide) ?_
  refine zw_istore_n dX3_biddersForQuiet_3 (by decide) ?_
  have L4 : ∀ (n_4 k : Nat), k + n_4 = P → WP mX3_biddersForQuiet 1 0 0 4 [some (.inr (some (q))), some (.inl (nI (s))), some (.inl (bq C q s (k))), some (.inl (nI (k)))] [] sh (C) (some (.inl (bq C q s P))) sh (C) := by
    intro n_4
    induction n_4 with
    | zero =>
      intro k hk4
      have ek4 : P = k := by omega
      subst ek4
      refine zw_iload_n dX3_biddersForQuiet_4 rfl ?_
      refine zw_aload_n dX3_biddersForQuiet_5 rfl ?_
      refine zw_getIv (j := 3) (kd := 3) (v := (nI (P))) dX3_biddersForQuiet_6 hq.i hq.k (by decide) (by decide) fl_X3_67 rfl hw.1 ?_
      refine zw_icmp_ge_n (tgt := 34) dX3_biddersForQuiet_9 (by decide) (by omega) (by omega) (fun c9 => ?_) (fun c9 => by omega)
      refine zw_iload_n dX3_biddersForQuiet_34 rfl ?_
      exact zw_iretE dX3_biddersForQuiet_35 rfl (rfl) rfl (rfl)
    | succ n_4 ih4 =>
      intro k hk4
      have hlt4 : k < P := by omega
      refine zw_iload_n dX3_biddersForQuiet_4 rfl ?_
      refine zw_aload_n dX3_biddersForQuiet_5 rfl ?_
      refine zw_getIv (j := 3) (kd := 3) (v := (nI (P))) dX3_biddersForQuiet_6 hq.i hq.k (by decide) (by decide) fl_X3_67 rfl hw.1 ?_
      refine zw_icmp_ge_n (tgt := 34) dX3_biddersForQuiet_9 (by decide) (by omega) (by omega) (fun c9 => by omega) (fun c9 => ?_)
      refine zw_aload_n dX3_biddersForQuiet_12 rfl ?_
      refine zw_iload_n dX3_biddersForQuiet_13 rfl ?_
      refine zw_iload_n dX3_biddersForQuiet_14 rfl ?_
      refine zw_iconst (v := nI 0) dX3_biddersForQuiet_15 (by decide) ?_
      refine zw_cVi dX3_biddersForQuiet_16 (c_X3_bidFor hq (by omega) (by omega) _) rfl okX3_bidFor ml_X3_76 hq.i hq.k (by decide) rfl (Nat.le_of_ble_eq_true rfl) (Nat.le_of_ble_eq_true rfl) ?_
      refine zw_if_le (tgt := 28) dX3_biddersForQuiet_19 (by decide) (fun c19 => ?_) (fun c19 => ?_)
      · refine zw_iincn dX3_biddersForQuiet_28 rfl (by decide) ?_
        refine zw_goto (tgt := 4) dX3_biddersForQuiet_31 (by decide) ?_
        exact WP.sub (ih4 (k + 1) (by omega)) ⟨rfl, rfl, (hd_eq (by simp [bq, bm, *])), rfl, trivial⟩
      · refine zw_iload_n dX3_biddersForQuiet_22 rfl ?_
        refine zw_iconst (v := nI 1) dX3_biddersForQuiet_23 (by decide) ?_
        refine zw_iload_n dX3_biddersForQuiet_24 rfl ?_
        refine zw_ishl dX3_biddersForQuiet_25 ?_
        refine zw_ior dX3_biddersForQuiet_26 ?_
        refine zw_istore_n dX3_biddersForQuiet_27 (by decide) ?_
        refine zw_iincn dX3_biddersForQuiet_28 rfl (by decide) ?_
        refine zw_goto (tgt := 4) dX3_biddersForQuiet_31 (by decide) ?_
        exact WP.sub (ih4 (k + 1) (by omega)) ⟨rfl, rfl, (hd_eq (by simp [bq, bm, *])), rfl, trivial⟩
  exact WP.sub (L4 (P) 0 (by omega)) ⟨rfl, rfl, rfl, rfl, trivial⟩
def sBM (C : Mem) (q P s : Nat) : Mem :=
  let sd := oT C q P s
  let ct := if sd = nI 1 then stg C q P s (nI 0) / nI 2 else nI 0
  let C1 := cM C q s sd P
  let C2 := shMem C1 q P s (oS sd) (cP C q s sd P)
  let C3 := up C2 (q + 15) (s / 24) (C2 (q + 15) (s / 24) + (cP C q s sd P - shRes C1 q P s (oS sd) (cP C q s sd P)))
  let C4 := up C3 (q + 10) s sd
  let C5 := up C4 (q + 11) s ct
  let C6 := up C5 (q + 12) s (oS sd)
  let C7 := up C6 (q + 13) s (if sd = 0 then bq C6 q s P else nI 0)
  up C7 (q + 14) s (cP C q s sd P)
theorem sBM_ne {C : Mem} {q P s b : Nat} (h0 : b ≠ q + 1) (h1 : b ≠ q + 3) (h2 : b ≠ q + 5) (h3 : b ≠ q + 6) (h4 : b ≠ q + 7) (h5 : b < q + 10 ∨ q + 16 ≤ b) : sBM C q P s b = C b := by
  unfold sBM
  rw [up_ne (by omega), up_ne (by omega), up_ne (by omega), up_ne (by omega), up_ne (by omega), up_ne (by omega), shMem_ne h0 h1 h4 (by omega), cM_ne h0 h2 h3]
theorem Wf.sBM {C : Mem} {q P s : Nat} (h : Wf C q P) : Wf (sBM C q P s) q P := h.of (by rw [sBM_ne (by omega) (by omega) (by omega) (by omega) (by omega) (by omega)]) (sBM_ne (by omega) (by omega) (by omega) (by omega) (by omega) (by omega))
set_option maxRecDepth 100000 in
set_option maxHeartbeats 1000000 in
theorem c_X3_settleBids {sh : Sh} {C : Mem} {q P : Nat} (hq : IsSt sh q) (hw : Wf C q P) {s : Nat} (hs : s < 96) : Calls mX3_settleBids 4 0 0 [.inr (some (q)), .inl (nI (s))] sh C (none) sh (sBM C q P s) := by
  refine Calls.of plX3 (Nat.le_of_ble_eq_true rfl) ?_
  show WP mX3_settleBids 4 0 0 0 [some (.inr (some (q))), some (.inl (nI (s))), none, none, none, none] [] sh (C) (none) sh (sBM C q P s)
  refine zw_aload_n dX3_settleBids_0 rfl ?_
  refine zw_iload_n dX3_settleBids_1 rfl ?_
  refine zw_cVi dX3_settleBids_2 (c_X3_ownerThen hq hw (by omega)) rfl okX3_ownerThen ml_X3_113 hq.i hq.k (by decide) rfl (Nat.le_of_ble_eq_true rfl) (Nat.le_of_ble_eq_true rfl) ?_
  refine zw_istore_n dX3_settleBids_5 (by decide) ?_
  refine zw_iload_n dX3_settleBids_6 rfl ?_
  refine zw_iconst (v := nI 1) dX3_settleBids_7 (by decide) ?_
  refine zw_icmp_ne (tgt := 22) dX3_settleBids_8 (by decide) (fun c8 => ?_) (fun c8 => ?_)
  · refine zw_iconst (v := nI 0) dX3_settleBids_22 (by decide) ?_
    refine zw_istore_n dX3_settleBids_23 (by decide) ?_
    refine zw_aload_n dX3_settleBids_24 rfl ?_
    refine zw_iload_n dX3_settleBids_25 rfl ?_
    refine zw_iload_n dX3_settleBids_26 rfl ?_
    refine zw_cVi dX3_settleBids_27 (c_X3_collectFrom hq hw (by omega) _) rfl okX3_collectFrom ml_X3_132 hq.i hq.k (by decide) rfl (Nat.le_of_ble_eq_true rfl) (Nat.le_of_ble_eq_true rfl) ?_
    refine zw_istore dX3_settleBids_30 (by decide) ?_
    refine zw_aload_n dX3_settleBids_32 rfl ?_
    refine zw_iload_n dX3_settleBids_33 rfl ?_
    refine zw_iload_n dX3_settleBids_34 rfl ?_
    refine zw_cNi dX3_settleBids_35 (c_X4_otherSide _) rfl okX4_otherSide nl_X3_116 (Nat.le_of_ble_eq_true rfl) (Nat.le_of_ble_eq_true rfl) ?_
    refine zw_iload dX3_settleBids_38 rfl ?_
    refine zw_cVi dX3_settleBids_40 (c_X3_shareOut hq (hw.cM _) (by omega) _ _) rfl okX3_shareOut ml_X3_135 hq.i hq.k (by decide) rfl (Nat.le_of_ble_eq_true rfl) (Nat.le_of_ble_eq_true rfl) ?_
    refine zw_istore dX3_settleBids_43 (by decide) ?_
    refine zw_aload_n dX3_settleBids_45 rfl ?_
    refine zw_getR (j := 18) (kd := 3) dX3_settleBids_46 hq.i hq.k (by decide) (by decide) fl_X3_58 rfl hq.r14 ?_
    refine zw_iload_n dX3_settleBids_49 rfl ?_
    refine zw_bipush (v := nI 24) dX3_settleBids_50 (by decide) ?_
    refine zw_idivn dX3_settleBids_52 (by omega) (by omega) (by omega) ?_
    refine zw_dup2 dX3_settleBids_53 ?_
    refine zw_iald dX3_settleBids_54 hq.i14 hq.k14 hq.L14 rfl (by rw [hq.n14]; omega) ?_
    refine zw_iload dX3_settleBids_55 rfl ?_
    refine zw_iload dX3_settleBids_57 rfl ?_
    refine zw_isub dX3_settleBids_59 ?_
    refine zw_iadd dX3_settleBids_60 ?_
    refine zw_iast dX3_settleBids_61 hq.i14 hq.k14 hq.L14 rfl (by rw [hq.n14]; omega) ?_
    refine zw_aload_n dX3_settleBids_62 rfl ?_
    refine zw_getR (j := 13) (kd := 3) dX3_settleBids_63 hq.i hq.k (by decide) (by decide) fl_X3_43 rfl hq.r9 ?_
    refine zw_iload_n dX3_settleBids_66 rfl ?_
    refine zw_iload_n dX3_settleBids_67 rfl ?_
    refine zw_iast dX3_settleBids_68 hq.i9 hq.k9 hq.L9 rfl (by rw [hq.n9]; omega) ?_
    refine zw_aload_n dX3_settleBids_69 rfl ?_
    refine zw_getR (j := 14) (kd := 3) dX3_settleBids_70 hq.i hq.k (by decide) (by decide) fl_X3_46 rfl hq.r10 ?_
    refine zw_iload_n dX3_settleBids_73 rfl ?_
    refine zw_iload_n dX3_settleBids_74 rfl ?_
    refine zw_iast dX3_settleBids_75 hq.i10 hq.k10 hq.L10 rfl (by rw [hq.n10]; omega) ?_
    refine zw_aload_n dX3_settleBids_76 rfl ?_
    refine zw_getR (j := 15) (kd := 3) dX3_settleBids_77 hq.i hq.k (by decide) (by decide) fl_X3_49 rfl hq.r11 ?_
    refine zw_iload_n dX3_settleBids_80 rfl ?_
    refine zw_iload_n dX3_settleBids_81 rfl ?_
    refine zw_cNi dX3_settleBids_82 (c_X4_otherSide _) rfl okX4_otherSide nl_X3_116 (Nat.le_of_ble_eq_true rfl) (Nat.le_of_ble_eq_true rfl) ?_
    refine zw_iast dX3_settleBids_85 hq.i11 hq.k11 hq.L11 rfl (by rw [hq.n11]; omega) ?_
    refine zw_aload_n dX3_settleBids_86 rfl ?_
    refine zw_getR (j := 16) (kd := 3) dX3_settleBids_87 hq.i hq.k (by decide) (by decide) fl_X3_52 rfl hq.r12 ?_
    refine zw_iload_n dX3_settleBids_90 rfl ?_
    refine zw_iload_n dX3_settleBids_91 rfl ?_
    refine zw_if_ne (tgt := 103) dX3_settleBids_92 (by decide) (fun c92 => ?_) (fun c92 => ?_)
    · refine zw_iconst (v := nI 0) dX3_settleBids_103 (by decide) ?_
      refine zw_iast dX3_settleBids_104 hq.i12 hq.k12 hq.L12 rfl (by rw [hq.n12]; omega) ?_
      refine zw_aload_n dX3_settleBids_105 rfl ?_
      refine zw_getR (j := 17) (kd := 3) dX3_settleBids_106 hq.i hq.k (by decide) (by decide) fl_X3_55 rfl hq.r13 ?_
      refine zw_iload_n dX3_settleBids_109 rfl ?_
      refine zw_iload dX3_settleBids_110 rfl ?_
      refine zw_iast dX3_settleBids_112 hq.i13 hq.k13 hq.L13 rfl (by rw [hq.n13]; omega) ?_
      exact zw_vretE dX3_settleBids_113 rfl rfl rfl (by simp only [sBM]; rw [if_neg c8, if_neg c92])
    · refine zw_aload_n dX3_settleBids_95 rfl ?_
      refine zw_iload_n dX3_settleBids_96 rfl ?_
      refine zw_cVi dX3_settleBids_97 (c_X3_biddersForQuiet hq (Wf.wr (Wf.wr (Wf.wr (Wf.wr (Wf.shMem (hw.cM _)) (by omega) (by omega)) (by omega) (by omega)) (by omega) (by omega)) (by omega) (by omega)) (by omega)) rfl okX3_biddersForQuiet ml_X3_138 hq.i hq.k (by decide) rfl (Nat.le_of_ble_eq_true rfl) (Nat.le_of_ble_eq_true rfl) ?_
      refine zw_goto (tgt := 104) dX3_settleBids_100 (by decide) ?_
      refine zw_iast dX3_settleBids_104 hq.i12 hq.k12 hq.L12 rfl (by rw [hq.n12]; omega) ?_
      refine zw_aload_n dX3_settleBids_105 rfl ?_
      refine zw_getR (j := 17) (kd := 3) dX3_settleBids_106 hq.i hq.k (by decide) (by decide) fl_X3_55 rfl hq.r13 ?_
      refine zw_iload_n dX3_settleBids_109 rfl ?_
      refine zw_iload dX3_settleBids_110 rfl ?_
      refine zw_iast dX3_settleBids_112 hq.i13 hq.k13 hq.L13 rfl (by rw [hq.n13]; omega) ?_
      exact zw_vretE dX3_settleBids_113 rfl rfl rfl (by simp only [sBM]; rw [if_neg c8, if_pos c92])
  · refine zw_aload_n dX3_settleBids_11 rfl ?_
    refine zw_iload_n dX3_settleBids_12 rfl ?_
    refine zw_iconst (v := nI 0) dX3_settleBids_13 (by decide) ?_
    refine zw_cVi dX3_settleBids_14 (c_X3_strength hq hw (by omega) _) rfl okX3_strength ml_X3_110 hq.i hq.k (by decide) rfl (Nat.le_of_ble_eq_true rfl) (Nat.le_of_ble_eq_true rfl) ?_
    refine zw_iconst (v := nI 2) dX3_settleBids_17 (by decide) ?_
    refine zw_idiv dX3_settleBids_18 (nI_ne0 (by decide) (by decide)) ?_
    refine zw_goto (tgt := 23) dX3_settleBids_19 (by decide) ?_
    refine zw_istore_n dX3_settleBids_23 (by decide) ?_
    refine zw_aload_n dX3_settleBids_24 rfl ?_
    refine zw_iload_n dX3_settleBids_25 rfl ?_
    refine zw_iload_n dX3_settleBids_26 rfl ?_
    refine zw_cVi dX3_settleBids_27 (c_X3_collectFrom hq hw (by omega) _) rfl okX3_collectFrom ml_X3_132 hq.i hq.k (by decide) rfl (Nat.le_of_ble_eq_true rfl) (Nat.le_of_ble_eq_true rfl) ?_
    refine zw_istore dX3_settleBids_30 (by decide) ?_
    refine zw_aload_n dX3_settleBids_32 rfl ?_
    refine zw_iload_n dX3_settleBids_33 rfl ?_
    refine zw_iload_n dX3_settleBids_34 rfl ?_
    refine zw_cNi dX3_settleBids_35 (c_X4_otherSide _) rfl okX4_otherSide nl_X3_116 (Nat.le_of_ble_eq_true rfl) (Nat.le_of_ble_eq_true rfl) ?_
    refine zw_iload dX3_settleBids_38 rfl ?_
    refine zw_cVi dX3_settleBids_40 (c_X3_shareOut hq (hw.cM _) (by omega) _ _) rfl okX3_shareOut ml_X3_135 hq.i hq.k (by decide) rfl (Nat.le_of_ble_eq_true rfl) (Nat.le_of_ble_eq_true rfl) ?_
    refine zw_istore dX3_settleBids_43 (by decide) ?_
    refine zw_aload_n dX3_settleBids_45 rfl ?_
    refine zw_getR (j := 18) (kd := 3) dX3_settleBids_46 hq.i hq.k (by decide) (by decide) fl_X3_58 rfl hq.r14 ?_
    refine zw_iload_n dX3_settleBids_49 rfl ?_
    refine zw_bipush (v := nI 24) dX3_settleBids_50 (by decide) ?_
    refine zw_idivn dX3_settleBids_52 (by omega) (by omega) (by omega) ?_
    refine zw_dup2 dX3_settleBids_53 ?_
    refine zw_iald dX3_settleBids_54 hq.i14 hq.k14 hq.L14 rfl (by rw [hq.n14]; omega) ?_
    refine zw_iload dX3_settleBids_55 rfl ?_
    refine zw_iload dX3_settleBids_57 rfl ?_
    refine zw_isub dX3_settleBids_59 ?_
    refine zw_iadd dX3_settleBids_60 ?_
    refine zw_iast dX3_settleBids_61 hq.i14 hq.k14 hq.L14 rfl (by rw [hq.n14]; omega) ?_
    refine zw_aload_n dX3_settleBids_62 rfl ?_
    refine zw_getR (j := 13) (kd := 3) dX3_settleBids_63 hq.i hq.k (by decide) (by decide) fl_X3_43 rfl hq.r9 ?_
    refine zw_iload_n dX3_settleBids_66 rfl ?_
    refine zw_iload_n dX3_settleBids_67 rfl ?_
    refine zw_iast dX3_settleBids_68 hq.i9 hq.k9 hq.L9 rfl (by rw [hq.n9]; omega) ?_
    refine zw_aload_n dX3_settleBids_69 rfl ?_
    refine zw_getR (j := 14) (kd := 3) dX3_settleBids_70 hq.i hq.k (by decide) (by decide) fl_X3_46 rfl hq.r10 ?_
    refine zw_iload_n dX3_settleBids_73 rfl ?_
    refine zw_iload_n dX3_settleBids_74 rfl ?_
    refine zw_iast dX3_settleBids_75 hq.i10 hq.k10 hq.L10 rfl (by rw [hq.n10]; omega) ?_
    refine zw_aload_n dX3_settleBids_76 rfl ?_
    refine zw_getR (j := 15) (kd := 3) dX3_settleBids_77 hq.i hq.k (by decide) (by decide) fl_X3_49 rfl hq.r11 ?_
    refine zw_iload_n dX3_settleBids_80 rfl ?_
    refine zw_iload_n dX3_settleBids_81 rfl ?_
    refine zw_cNi dX3_settleBids_82 (c_X4_otherSide _) rfl okX4_otherSide nl_X3_116 (Nat.le_of_ble_eq_true rfl) (Nat.le_of_ble_eq_true rfl) ?_
    refine zw_iast dX3_settleBids_85 hq.i11 hq.k11 hq.L11 rfl (by rw [hq.n11]; omega) ?_
    refine zw_aload_n dX3_settleBids_86 rfl ?_
    refine zw_getR (j := 16) (kd := 3) dX3_settleBids_87 hq.i hq.k (by decide) (by decide) fl_X3_52 rfl hq.r12 ?_
    refine zw_iload_n dX3_settleBids_90 rfl ?_
    refine zw_iload_n dX3_settleBids_91 rfl ?_
    refine zw_if_ne (tgt := 103) dX3_settleBids_92 (by decide) (fun c92 => ?_) (fun c92 => ?_)
    · refine zw_iconst (v := nI 0) dX3_settleBids_103 (by decide) ?_
      refine zw_iast dX3_settleBids_104 hq.i12 hq.k12 hq.L12 rfl (by rw [hq.n12]; omega) ?_
      refine zw_aload_n dX3_settleBids_105 rfl ?_
      refine zw_getR (j := 17) (kd := 3) dX3_settleBids_106 hq.i hq.k (by decide) (by decide) fl_X3_55 rfl hq.r13 ?_
      refine zw_iload_n dX3_settleBids_109 rfl ?_
      refine zw_iload dX3_settleBids_110 rfl ?_
      refine zw_iast dX3_settleBids_112 hq.i13 hq.k13 hq.L13 rfl (by rw [hq.n13]; omega) ?_
      exact zw_vretE dX3_settleBids_113 rfl rfl rfl (by simp only [sBM]; rw [if_pos c8, if_neg c92])
    · refine zw_aload_n dX3_settleBids_95 rfl ?_
      refine zw_iload_n dX3_settleBids_96 rfl ?_
      refine zw_cVi dX3_settleBids_97 (c_X3_biddersForQuiet hq (Wf.wr (Wf.wr (Wf.wr (Wf.wr (Wf.shMem (hw.cM _)) (by omega) (by omega)) (by omega) (by omega)) (by omega) (by omega)) (by omega) (by omega)) (by omega)) rfl okX3_biddersForQuiet ml_X3_138 hq.i hq.k (by decide) rfl (Nat.le_of_ble_eq_true rfl) (Nat.le_of_ble_eq_true rfl) ?_
      refine zw_goto (tgt := 104) dX3_settleBids_100 (by decide) ?_
      refine zw_iast dX3_settleBids_104 hq.i12 hq.k12 hq.L12 rfl (by rw [hq.n12]; omega) ?_
      refine zw_aload_n dX3_settleBids_105 rfl ?_
      refine zw_getR (j := 17) (kd := 3) dX3_settleBids_106 hq.i hq.k (by decide) (by decide) fl_X3_55 rfl hq.r13 ?_
      refine zw_iload_n dX3_settleBids_109 rfl ?_
      refine zw_iload dX3_settleBids_110 rfl ?_
      refine zw_iast dX3_settleBids_112 hq.i13 hq.k13 hq.L13 rfl (by rw [hq.n13]; omega) ?_
      exact zw_vretE dX3_settleBids_113 rfl rfl rfl (by simp only [sBM]; rw [if_pos c8, if_pos c92])
def sdSt (C : Mem) (q P s : Nat) : Mem := if nB C q P s = 0 then
    let C1 := up C (q + 11) s (C (q + 11) s / nI 2)
    up C1 (q + 14) s (nI 0)
  else sBM C q P s
def sdM (C : Mem) (q P : Nat) : Nat → Mem
  | 0 => C
  | s + 1 => sdSt (sdM C q P s) q P s
theorem sdM_ne {C : Mem} {q P b : Nat} (h0 : b ≠ q + 1) (h1 : b ≠ q + 3) (h2 : b ≠ q + 5) (h3 : b ≠ q + 6) (h4 : b ≠ q + 7) (h5 : b < q + 10 ∨ q + 16 ≤ b) : ∀ s, sdM C q P s b = C b
  | 0 => rfl
  | s + 1 => by
    show sdSt _ _ _ _ b = _
    unfold sdSt
    split
    · rw [up_ne (by omega), up_ne (by omega)]
      exact sdM_ne h0 h1 h2 h3 h4 h5 s
    · rw [sBM_ne h0 h1 h2 h3 h4 h5]
      exact sdM_ne h0 h1 h2 h3 h4 h5 s
theorem Wf.sdM {C : Mem} {q P : Nat} (h : Wf C q P) (s : Nat) : Wf (sdM C q P s) q P := h.of (by rw [sdM_ne (by omega) (by omega) (by omega) (by omega) (by omega) (by omega)]) (sdM_ne (by omega) (by omega) (by omega) (by omega) (by omega) (by omega) s)
def sdD (C : Mem) (q P : Nat) : Mem :=
  let C1 := sdM C q P 96
  let C2 := fillM C1 (q + 9) (nI 0) 1152
  let C3 := fillM C2 (q + 2) (nI 0) 12
  up C3 q 0 (C3 q 0 + nI 1)
set_option maxRecDepth 100000 in
set_option maxHeartbeats 1000000 in
theorem c_X3_settleDay {sh : Sh} {C : Mem} {q P : Nat} (hq : IsSt sh q) (hw : Wf C q P)  : Calls mX3_settleDay 5 0 0 [.inr (some (q))] sh C (none) sh (sdD C q P) := by
  refine Calls.of plX3 (Nat.le_of_ble_eq_true rfl) ?_
  show WP mX3_settleDay 5 0 0 0 [some (.inr (some (q))), none] [] sh (C) (none) sh (sdD C q P)
  refine zw_iconst (v := nI 0) dX3_settleDay_0 (by decide) ?_
  refine zw_istore_n dX3_settleDay_1 (by decide) ?_
  have L2 : ∀ (n_2 k : Nat), k + n_2 = 96 → WP mX3_settleDay 5 0 0 2 [some (.inr (some (q))), some (.inl (nI (k)))] [] sh (sdM C q P (k)) (none) sh (sdD C q P) := by
    intro n_2
    induction n_2 with
    | zero =>
      intro k hk2
      have ek2 : 96 = k := by omega
      subst ek2
      refine zw_iload_n dX3_settleDay_2 rfl ?_
      refine zw_bipush (v := nI 96) dX3_settleDay_3 (by decide) ?_
      refine zw_icmp_ge_n (tgt := 47) dX3_settleDay_5 (by decide) (by omega) (by omega) (fun c5 => ?_) (fun c5 => by omega)
      refine zw_aload_n dX3_settleDay_47 rfl ?_
      refine zw_getR (j := 12) (kd := 3) dX3_settleDay_48 hq.i hq.k (by decide) (by decide) fl_X3_40 rfl hq.r8 ?_
      refine zw_iconst (v := nI 0) dX3_settleDay_51 (by decide) ?_
      refine zw_cSv dX3_settleDay_52 (c_J7_fill_53178 hq.i8 hq.k8 hq.n8 (by decide) _) rfl okJ7_fill_53178 ml_X3_126 (Nat.le_of_ble_eq_true rfl) (Nat.le_of_ble_eq_true rfl) ?_
      refine zw_aload_n dX3_settleDay_55 rfl ?_
      refine zw_getR (j := 5) (kd := 3) dX3_settleDay_56 hq.i hq.k (by decide) (by decide) fl_X3_19 rfl hq.r1 ?_
      refine zw_iconst (v := nI 0) dX3_settleDay_59 (by decide) ?_
      refine zw_cSv dX3_settleDay_60 (c_J7_fill_53178 hq.i1 hq.k1 hq.n1 (by decide) _) rfl okJ7_fill_53178 ml_X3_126 (Nat.le_of_ble_eq_true rfl) (Nat.le_of_ble_eq_true rfl) ?_
      refine zw_aload_n dX3_settleDay_63 rfl ?_
      refine zw_dup dX3_settleDay_64 ?_
      refine zw_getI (j := 0) (kd := 3) dX3_settleDay_65 hq.i hq.k (by decide) (by decide) fl_X3_61 rfl ?_
      refine zw_iconst (v := nI 1) dX3_settleDay_68 (by decide) ?_
      refine zw_iadd dX3_settleDay_69 ?_
      refine zw_putI (j := 0) (kd := 3) dX3_settleDay_70 hq.i hq.k (by decide) (by decide) fl_X3_61 rfl rfl rfl ?_
      exact zw_vretE dX3_settleDay_73 rfl rfl rfl (rfl)
    | succ n_2 ih2 =>
      intro k hk2
      have hlt2 : k < 96 := by omega
      refine zw_iload_n dX3_settleDay_2 rfl ?_
      refine zw_bipush (v := nI 96) dX3_settleDay_3 (by decide) ?_
      refine zw_icmp_ge_n (tgt := 47) dX3_settleDay_5 (by decide) (by omega) (by omega) (fun c5 => by omega) (fun c5 => ?_)
      refine zw_aload_n dX3_settleDay_8 rfl ?_
      refine zw_iload_n dX3_settleDay_9 rfl ?_
      refine zw_cVi dX3_settleDay_10 (c_X3_bidsFor hq (hw.sdM (k)) (by omega)) rfl okX3_bidsFor ml_X3_107 hq.i hq.k (by decide) rfl (Nat.le_of_ble_eq_true rfl) (Nat.le_of_ble_eq_true rfl) ?_
      refine zw_if_ne (tgt := 36) dX3_settleDay_13 (by decide) (fun c13 => ?_) (fun c13 => ?_)
      · refine zw_aload_n dX3_settleDay_36 rfl ?_
        refine zw_iload_n dX3_settleDay_37 rfl ?_
        refine zw_cVv dX3_settleDay_38 (c_X3_settleBids hq (hw.sdM (k)) (by omega)) rfl okX3_settleBids ml_X3_122 hq.i hq.k (by decide) rfl (Nat.le_of_ble_eq_true rfl) (Nat.le_of_ble_eq_true rfl) ?_
        refine zw_iincn dX3_settleDay_41 rfl (by decide) ?_
        refine zw_goto (tgt := 2) dX3_settleDay_44 (by decide) ?_
        refine zw_mem (C2 := sdM C q P (k + 1)) (by simp [sdM, sdSt, *]) ?_
        exact WP.sub (ih2 (k + 1) (by omega)) ⟨rfl, rfl, trivial⟩
      · refine zw_aload_n dX3_settleDay_16 rfl ?_
        refine zw_getR (j := 14) (kd := 3) dX3_settleDay_17 hq.i hq.k (by decide) (by decide) fl_X3_46 rfl hq.r10 ?_
        refine zw_iload_n dX3_settleDay_20 rfl ?_
        refine zw_dup2 dX3_settleDay_21 ?_
        refine zw_iald dX3_settleDay_22 hq.i10 hq.k10 hq.L10 rfl (by rw [hq.n10]; omega) ?_
        refine zw_iconst (v := nI 2) dX3_settleDay_23 (by decide) ?_
        refine zw_idiv dX3_settleDay_24 (nI_ne0 (by decide) (by decide)) ?_
        refine zw_iast dX3_settleDay_25 hq.i10 hq.k10 hq.L10 rfl (by rw [hq.n10]; omega) ?_
        refine zw_aload_n dX3_settleDay_26 rfl ?_
        refine zw_getR (j := 17) (kd := 3) dX3_settleDay_27 hq.i hq.k (by decide) (by decide) fl_X3_55 rfl hq.r13 ?_
        refine zw_iload_n dX3_settleDay_30 rfl ?_
        refine zw_iconst (v := nI 0) dX3_settleDay_31 (by decide) ?_
        refine zw_iast dX3_settleDay_32 hq.i13 hq.k13 hq.L13 rfl (by rw [hq.n13]; omega) ?_
        refine zw_goto (tgt := 41) dX3_settleDay_33 (by decide) ?_
        refine zw_iincn dX3_settleDay_41 rfl (by decide) ?_
        refine zw_goto (tgt := 2) dX3_settleDay_44 (by decide) ?_
        refine zw_mem (C2 := sdM C q P (k + 1)) (by simp [sdM, sdSt, *]) ?_
        exact WP.sub (ih2 (k + 1) (by omega)) ⟨rfl, rfl, trivial⟩
  exact WP.sub (L2 (96) 0 (by omega)) ⟨rfl, rfl, trivial⟩
theorem Wf.bs {C : Mem} {q P p j : Nat} (h : Wf C q P) (hj : j < 4) : Wf (up C (q + 4) p (nI j)) q P := by
  refine ⟨by rw [up_ne (by omega)]; exact h.1, h.2.1, fun i hi => ?_⟩
  by_cases hip : i = p
  · subst hip
    rw [up_eq]
    exact vp_in_nI hj (by decide)
  · rw [up_ne2 hip]
    exact h.2.2 i hi
def bcF (x0 : Int32) : Int32 :=
  let us := fun (x y : Int32) => (x.toUInt32 >>> (y.toUInt32 &&& Int32.toUInt32 31)).toInt32
  let x1 := x0 - (us x0 (nI 1) &&& nI 1431655765)
  let x2 := (x1 &&& nI 858993459) + (us x1 (nI 2) &&& nI 858993459)
  let x3 := (x2 + us x2 (nI 4)) &&& nI 252645135
  let x4 := x3 + us x3 (nI 8)
  let x5 := x4 + us x4 (nI 16)
  x5 &&& nI 63
set_option maxRecDepth 100000 in
set_option maxHeartbeats 1000000 in
theorem c_J6_bitCount_0f7a4 {sh : Sh} {C : Mem} (x : Int32) : Calls mJ6_bitCount_0f7a4 0 0 0 [.inl (x)] sh C (some (.inl (bcF x))) sh (C) := by
  refine Calls.of plJ6 (Nat.le_of_ble_eq_true rfl) ?_
  show WP mJ6_bitCount_0f7a4 0 0 0 0 [some (.inl (x))] [] sh (C) (some (.inl (bcF x))) sh (C)
  refine zw_iload_n dJ6_bitCount_0f7a4_0 rfl ?_
  refine zw_iload_n dJ6_bitCount_0f7a4_1 rfl ?_
  refine zw_iconst (v := nI 1) dJ6_bitCount_0f7a4_2 (by decide) ?_
  refine zw_iushr dJ6_bitCount_0f7a4_3 ?_
  refine zw_ldc_w (v := nI 1431655765) dJ6_bitCount_0f7a4_4 cs_J6_265 ?_
  refine zw_iand dJ6_bitCount_0f7a4_7 ?_
  refine zw_isub dJ6_bitCount_0f7a4_8 ?_
  refine zw_istore_n dJ6_bitCount_0f7a4_9 (by decide) ?_
  refine zw_iload_n dJ6_bitCount_0f7a4_10 rfl ?_
  refine zw_ldc_w (v := nI 858993459) dJ6_bitCount_0f7a4_11 cs_J6_266 ?_
  refine zw_iand dJ6_bitCount_0f7a4_14 ?_
  refine zw_iload_n dJ6_bitCount_0f7a4_15 rfl ?_
  refine zw_iconst (v := nI 2) dJ6_bitCount_0f7a4_16 (by decide) ?_
  refine zw_iushr dJ6_bitCount_0f7a4_17 ?_
  refine zw_ldc_w (v := nI 858993459) dJ6_bitCount_0f7a4_18 cs_J6_266 ?_
  refine zw_iand dJ6_bitCount_0f7a4_21 ?_
  refine zw_iadd dJ6_bitCount_0f7a4_22 ?_
  refine zw_istore_n dJ6_bitCount_0f7a4_23 (by decide) ?_
  refine zw_iload_n dJ6_bitCount_0f7a4_24 rfl ?_
  refine zw_iload_n dJ6_bitCount_0f7a4_25 rfl ?_
  refine zw_iconst (v := nI 4) dJ6_bitCount_0f7a4_26 (by decide) ?_
  refine zw_iushr dJ6_bitCount_0f7a4_27 ?_
  refine zw_iadd dJ6_bitCount_0f7a4_28 ?_
  refine zw_ldc_w (v := nI 252645135) dJ6_bitCount_0f7a4_29 cs_J6_267 ?_
  refine zw_iand dJ6_bitCount_0f7a4_32 ?_
  refine zw_istore_n dJ6_bitCount_0f7a4_33 (by decide) ?_
  refine zw_iload_n dJ6_bitCount_0f7a4_34 rfl ?_
  refine zw_iload_n dJ6_bitCount_0f7a4_35 rfl ?_
  refine zw_bipush (v := nI 8) dJ6_bitCount_0f7a4_36 (by decide) ?_
  refine zw_iushr dJ6_bitCount_0f7a4_38 ?_
  refine zw_iadd dJ6_bitCount_0f7a4_39 ?_
  refine zw_istore_n dJ6_bitCount_0f7a4_40 (by decide) ?_
  refine zw_iload_n dJ6_bitCount_0f7a4_41 rfl ?_
  refine zw_iload_n dJ6_bitCount_0f7a4_42 rfl ?_
  refine zw_bipush (v := nI 16) dJ6_bitCount_0f7a4_43 (by decide) ?_
  refine zw_iushr dJ6_bitCount_0f7a4_45 ?_
  refine zw_iadd dJ6_bitCount_0f7a4_46 ?_
  refine zw_istore_n dJ6_bitCount_0f7a4_47 (by decide) ?_
  refine zw_iload_n dJ6_bitCount_0f7a4_48 rfl ?_
  refine zw_bipush (v := nI 63) dJ6_bitCount_0f7a4_49 (by decide) ?_
  refine zw_iand dJ6_bitCount_0f7a4_51 ?_
  exact zw_iretE dJ6_bitCount_0f7a4_52 rfl (rfl) rfl (rfl)
def sfM (C : Mem) (q s : Nat) (part : Int32) : Nat → Mem
  | 0 => C
  | k + 1 => if (sfM C q s part k (q + 13) s >>> (nI k &&& 31)) &&& nI 1 = nI 1 then rcv (sfM C q s part k) q k part else sfM C q s part k
theorem sfM_ne {C : Mem} {q s b : Nat} {part : Int32} (h1 : b ≠ q + 1) (h2 : b ≠ q + 3) (h4 : b ≠ q + 15) : ∀ k, sfM C q s part k b = C b
  | 0 => rfl
  | k + 1 => by
    unfold sfM
    split
    · rw [rcv_ne h1 h2 h4]
      exact sfM_ne h1 h2 h4 k
    · exact sfM_ne h1 h2 h4 k
theorem Wf.sfM {C : Mem} {q P s : Nat} {part : Int32} (h : Wf C q P) (k : Nat) : Wf (sfM C q s part k) q P := h.of (by rw [sfM_ne (by omega) (by omega) (by omega)]) (sfM_ne (by omega) (by omega) (by omega) k)
def sfRes (C : Mem) (q s : Nat) (m : Int32) : Int32 := if 0 < bcF (C (q + 13) s) then m / bcF (C (q + 13) s) * bcF (C (q + 13) s) else nI 0
def sfMem (C : Mem) (q P s : Nat) (m : Int32) : Mem := if 0 < bcF (C (q + 13) s) then sfM C q s (m / bcF (C (q + 13) s)) P else C
set_option maxRecDepth 100000 in
set_option maxHeartbeats 1000000 in
theorem c_X3_shareFine {sh : Sh} {C : Mem} {q P : Nat} (hq : IsSt sh q) (hw : Wf C q P) {s : Nat} (hs : s < 96) (m : Int32) : Calls mX3_shareFine 2 0 0 [.inr (some (q)), .inl (nI (s)), .inl (m)] sh C (some (.inl (sfRes C q s m))) sh (sfMem C q P s m) := by
  refine Calls.of plX3 (Nat.le_of_ble_eq_true rfl) ?_
  show WP mX3_shareFine 2 0 0 0 [some (.inr (some (q))), some (.inl (nI (s))), some (.inl (m)), none, none, none] [] sh (C) (some (.inl (sfRes C q s m))) sh (sfMem C q P s m)
  have hP12 := hw.2.1
  refine zw_aload_n dX3_shareFine_0 rfl ?_
  refine zw_getR (j := 16) (kd := 3) dX3_shareFine_1 hq.i hq.k (by decide) (by decide) fl_X3_52 rfl hq.r12 ?_
  refine zw_iload_n dX3_shareFine_4 rfl ?_
  refine zw_iald dX3_shareFine_5 hq.i12 hq.k12 hq.L12 rfl (by rw [hq.n12]; omega) ?_
  refine zw_cSi dX3_shareFine_6 (c_J6_bitCount_0f7a4 _) rfl okJ6_bitCount_0f7a4 ml_X3_148 (Nat.le_of_ble_eq_true rfl) (Nat.le_of_ble_eq_true rfl) ?_
  refine zw_istore_n dX3_shareFine_9 (by decide) ?_
  refine zw_iload_n dX3_shareFine_10 rfl ?_
  refine zw_if_gt (tgt := 16) dX3_shareFine_11 (by decide) (fun c11 => ?_) (fun c11 => ?_)
  · refine zw_iload_n dX3_shareFine_16 rfl ?_
    refine zw_iload_n dX3_shareFine_17 rfl ?_
    refine zw_idiv dX3_shareFine_18 (fun z => absurd c11 (by rw [z]; decide)) ?_
    refine zw_istore dX3_shareFine_19 (by decide) ?_
    refine zw_iconst (v := nI 0) dX3_shareFine_21 (by decide) ?_
    refine zw_istore dX3_shareFine_22 (by decide) ?_
    have L24 : ∀ (n_24 k : Nat), k + n_24 = P → WP mX3_shareFine 2 0 0 24 [some (.inr (some (q))), some (.inl (nI (s))), some (.inl (m)), some (.inl (bcF (C (q + 13) s))), some (.inl ((m / bcF (C (q + 13) s)))), some (.inl (nI (k)))] [] sh (sfM C q s (m / bcF (C (q + 13) s)) (k)) (some (.inl (sfRes C q s m))) sh (sfMem C q P s m) := by
      intro n_24
      induction n_24 with
      | zero =>
        intro k hk24
        have ek24 : P = k := by omega
        subst ek24
        refine zw_iload dX3_shareFine_24 rfl ?_
        refine zw_aload_n dX3_shareFine_26 rfl ?_
        refine zw_getIv (j := 3) (kd := 3) (v := (nI (P))) dX3_shareFine_27 hq.i hq.k (by decide) (by decide) fl_X3_67 rfl (hw.sfM (P)).1 ?_
        refine zw_icmp_ge_n (tgt := 62) dX3_shareFine_30 (by decide) (by omega) (by omega) (fun c30 => ?_) (fun c30 => by omega)
        refine zw_iload dX3_shareFine_62 rfl ?_
        refine zw_iload_n dX3_shareFine_64 rfl ?_
        refine zw_imul dX3_shareFine_65 ?_
        exact zw_iretE dX3_shareFine_66 rfl (by simp [sfRes, *]) rfl (by simp [sfMem, *])
      | succ n_24 ih24 =>
        intro k hk24
        have hlt24 : k < P := by omega
        refine zw_iload dX3_shareFine_24 rfl ?_
        refine zw_aload_n dX3_shareFine_26 rfl ?_
        refine zw_getIv (j := 3) (kd := 3) (v := (nI (P))) dX3_shareFine_27 hq.i hq.k (by decide) (by decide) fl_X3_67 rfl (hw.sfM (k)).1 ?_
        refine zw_icmp_ge_n (tgt := 62) dX3_shareFine_30 (by decide) (by omega) (by omega) (fun c30 => by omega) (fun c30 => ?_)
        refine zw_aload_n dX3_shareFine_33 rfl ?_
        refine zw_getR (j := 16) (kd := 3) dX3_shareFine_34 hq.i hq.k (by decide) (by decide) fl_X3_52 rfl hq.r12 ?_
        refine zw_iload_n dX3_shareFine_37 rfl ?_
        refine zw_iald dX3_shareFine_38 hq.i12 hq.k12 hq.L12 rfl (by rw [hq.n12]; omega) ?_
        refine zw_iload dX3_shareFine_39 rfl ?_
        refine zw_ishr dX3_shareFine_41 ?_
        refine zw_iconst (v := nI 1) dX3_shareFine_42 (by decide) ?_
        refine zw_iand dX3_shareFine_43 ?_
        refine zw_iconst (v := nI 1) dX3_shareFine_44 (by decide) ?_
        refine zw_icmp_ne (tgt := 56) dX3_shareFine_45 (by decide) (fun c45 => ?_) (fun c45 => ?_)
        · refine zw_iincn dX3_shareFine_56 rfl (by decide) ?_
          refine zw_goto (tgt := 24) dX3_shareFine_59 (by decide) ?_
          refine zw_mem (C2 := sfM C q s (m / bcF (C (q + 13) s)) (k + 1)) (by simp [sfM, *]) ?_
          exact WP.sub (ih24 (k + 1) (by omega)) ⟨rfl, rfl, rfl, rfl, rfl, rfl, trivial⟩
        · refine zw_aload_n dX3_shareFine_48 rfl ?_
          refine zw_iload dX3_shareFine_49 rfl ?_
          refine zw_iload dX3_shareFine_51 rfl ?_
          refine zw_cVv dX3_shareFine_53 (c_X3_receive hq (hw.sfM (k)) (by omega) _) rfl okX3_receive ml_X3_141 hq.i hq.k (by decide) rfl (Nat.le_of_ble_eq_true rfl) (Nat.le_of_ble_eq_true rfl) ?_
          refine zw_iincn dX3_shareFine_56 rfl (by decide) ?_
          refine zw_goto (tgt := 24) dX3_shareFine_59 (by decide) ?_
          refine zw_mem (C2 := sfM C q s (m / bcF (C (q + 13) s)) (k + 1)) (by simp [sfM, *]) ?_
          exact WP.sub (ih24 (k + 1) (by omega)) ⟨rfl, rfl, rfl, rfl, rfl, rfl, trivial⟩
    exact WP.sub (L24 (P) 0 (by omega)) ⟨rfl, rfl, rfl, rfl, rfl, rfl, trivial⟩
  · refine zw_iconst (v := nI 0) dX3_shareFine_14 (by decide) ?_
    exact zw_iretE dX3_shareFine_15 rfl (by simp [sfRes, *]) rfl (by simp [sfMem, *])
def nbM (C : Mem) (q P p s : Nat) : Mem :=
  let C1 := up C q 2 (C q 2 + nI 1)
  let C2 := up C1 (q + 8) p (C1 (q + 8) p + nI 1)
  let C3 := up C2 (q + 4) p (nI (s / 24))
  let paid := mn (C3 q 1) (fM C3 q p)
  let C4 := up C3 (q + 1) p (C3 (q + 1) p - paid)
  let C5 := up C4 (q + 3) p (C4 (q + 3) p + (C4 q 1 - paid))
  let C6 := sfMem C5 q P s paid
  up C6 (q + 15) (s / 24) (C6 (q + 15) (s / 24) + (paid - sfRes C5 q s paid))
def nbR (C : Mem) (q p s : Nat) : Int32 :=
  let C1 := up C q 2 (C q 2 + nI 1)
  let C2 := up C1 (q + 8) p (C1 (q + 8) p + nI 1)
  let C3 := up C2 (q + 4) p (nI (s / 24))
  mn (C3 q 1) (fM C3 q p)
set_option maxRecDepth 100000 in
set_option maxHeartbeats 1000000 in
theorem c_X3_noteBreach {sh : Sh} {C : Mem} {q P : Nat} (hq : IsSt sh q) (hw : Wf C q P) {p s : Nat} (hp : p < 12) (hs : s < 96) : Calls mX3_noteBreach 3 0 0 [.inr (some (q)), .inl (nI (p)), .inl (nI (s))] sh C (some (.inl (nbR C q p s))) sh (nbM C q P p s) := by
  refine Calls.of plX3 (Nat.le_of_ble_eq_true rfl) ?_
  show WP mX3_noteBreach 3 0 0 0 [some (.inr (some (q))), some (.inl (nI (p))), some (.inl (nI (s))), none, none, none] [] sh (C) (some (.inl (nbR C q p s))) sh (nbM C q P p s)
  refine zw_iload_n dX3_noteBreach_0 rfl ?_
  refine zw_bipush (v := nI 24) dX3_noteBreach_1 (by decide) ?_
  refine zw_idivn dX3_noteBreach_3 (by omega) (by omega) (by omega) ?_
  refine zw_istore_n dX3_noteBreach_4 (by decide) ?_
  refine zw_aload_n dX3_noteBreach_5 rfl ?_
  refine zw_dup dX3_noteBreach_6 ?_
  refine zw_getI (j := 2) (kd := 3) dX3_noteBreach_7 hq.i hq.k (by decide) (by decide) fl_X3_64 rfl ?_
  refine zw_iconst (v := nI 1) dX3_noteBreach_10 (by decide) ?_
  refine zw_iadd dX3_noteBreach_11 ?_
  refine zw_putI (j := 2) (kd := 3) dX3_noteBreach_12 hq.i hq.k (by decide) (by decide) fl_X3_64 rfl rfl rfl ?_
  refine zw_aload_n dX3_noteBreach_15 rfl ?_
  refine zw_getR (j := 11) (kd := 3) dX3_noteBreach_16 hq.i hq.k (by decide) (by decide) fl_X3_37 rfl hq.r7 ?_
  refine zw_iload_n dX3_noteBreach_19 rfl ?_
  refine zw_dup2 dX3_noteBreach_20 ?_
  refine zw_iald dX3_noteBreach_21 hq.i7 hq.k7 hq.L7 rfl (by rw [hq.n7]; omega) ?_
  refine zw_iconst (v := nI 1) dX3_noteBreach_22 (by decide) ?_
  refine zw_iadd dX3_noteBreach_23 ?_
  refine zw_iast dX3_noteBreach_24 hq.i7 hq.k7 hq.L7 rfl (by rw [hq.n7]; omega) ?_
  refine zw_aload_n dX3_noteBreach_25 rfl ?_
  refine zw_getR (j := 7) (kd := 3) dX3_noteBreach_26 hq.i hq.k (by decide) (by decide) fl_X3_25 rfl hq.r3 ?_
  refine zw_iload_n dX3_noteBreach_29 rfl ?_
  refine zw_iload_n dX3_noteBreach_30 rfl ?_
  refine zw_iast dX3_noteBreach_31 hq.i3 hq.k3 hq.L3 rfl (by rw [hq.n3]; omega) ?_
  refine zw_aload_n dX3_noteBreach_32 rfl ?_
  refine zw_getI (j := 1) (kd := 3) dX3_noteBreach_33 hq.i hq.k (by decide) (by decide) fl_X3_9 rfl ?_
  refine zw_aload_n dX3_noteBreach_36 rfl ?_
  refine zw_iload_n dX3_noteBreach_37 rfl ?_
  refine zw_cVi dX3_noteBreach_38 (c_X3_freeMoney hq (by omega)) rfl okX3_freeMoney ml_X3_84 hq.i hq.k (by decide) rfl (Nat.le_of_ble_eq_true rfl) (Nat.le_of_ble_eq_true rfl) ?_
  refine zw_mmin dX3_noteBreach_41 ml_X3_95 (by decide) (Nat.le_of_ble_eq_true rfl) ?_
  refine zw_istore dX3_noteBreach_44 (by decide) ?_
  refine zw_aload_n dX3_noteBreach_46 rfl ?_
  refine zw_getR (j := 4) (kd := 3) dX3_noteBreach_47 hq.i hq.k (by decide) (by decide) fl_X3_15 rfl hq.r0 ?_
  refine zw_iload_n dX3_noteBreach_50 rfl ?_
  refine zw_dup2 dX3_noteBreach_51 ?_
  refine zw_iald dX3_noteBreach_52 hq.i0 hq.k0 hq.L0 rfl (by rw [hq.n0]; omega) ?_
  refine zw_iload dX3_noteBreach_53 rfl ?_
  refine zw_isub dX3_noteBreach_55 ?_
  refine zw_iast dX3_noteBreach_56 hq.i0 hq.k0 hq.L0 rfl (by rw [hq.n0]; omega) ?_
  refine zw_aload_n dX3_noteBreach_57 rfl ?_
  refine zw_getR (j := 6) (kd := 3) dX3_noteBreach_58 hq.i hq.k (by decide) (by decide) fl_X3_22 rfl hq.r2 ?_
  refine zw_iload_n dX3_noteBreach_61 rfl ?_
  refine zw_dup2 dX3_noteBreach_62 ?_
  refine zw_iald dX3_noteBreach_63 hq.i2 hq.k2 hq.L2 rfl (by rw [hq.n2]; omega) ?_
  refine zw_aload_n dX3_noteBreach_64 rfl ?_
  refine zw_getI (j := 1) (kd := 3) dX3_noteBreach_65 hq.i hq.k (by decide) (by decide) fl_X3_9 rfl ?_
  refine zw_iload dX3_noteBreach_68 rfl ?_
  refine zw_isub dX3_noteBreach_70 ?_
  refine zw_iadd dX3_noteBreach_71 ?_
  refine zw_iast dX3_noteBreach_72 hq.i2 hq.k2 hq.L2 rfl (by rw [hq.n2]; omega) ?_
  refine zw_aload_n dX3_noteBreach_73 rfl ?_
  refine zw_iload_n dX3_noteBreach_74 rfl ?_
  refine zw_iload dX3_noteBreach_75 rfl ?_
  refine zw_cVi dX3_noteBreach_77 (c_X3_shareFine hq (Wf.wr (Wf.wr (Wf.bs (Wf.wr (Wf.wrf hw (by decide)) (by omega) (by omega)) (by omega)) (by omega) (by omega)) (by omega) (by omega)) (by omega) _) rfl okX3_shareFine ml_X3_145 hq.i hq.k (by decide) rfl (Nat.le_of_ble_eq_true rfl) (Nat.le_of_ble_eq_true rfl) ?_
  refine zw_istore dX3_noteBreach_80 (by decide) ?_
  refine zw_aload_n dX3_noteBreach_82 rfl ?_
  refine zw_getR (j := 18) (kd := 3) dX3_noteBreach_83 hq.i hq.k (by decide) (by decide) fl_X3_58 rfl hq.r14 ?_
  refine zw_iload_n dX3_noteBreach_86 rfl ?_
  refine zw_dup2 dX3_noteBreach_87 ?_
  refine zw_iald dX3_noteBreach_88 hq.i14 hq.k14 hq.L14 rfl (by rw [hq.n14]; omega) ?_
  refine zw_iload dX3_noteBreach_89 rfl ?_
  refine zw_iload dX3_noteBreach_91 rfl ?_
  refine zw_isub dX3_noteBreach_93 ?_
  refine zw_iadd dX3_noteBreach_94 ?_
  refine zw_iast dX3_noteBreach_95 hq.i14 hq.k14 hq.L14 rfl (by rw [hq.n14]; omega) ?_
  refine zw_iload dX3_noteBreach_96 rfl ?_
  exact zw_iretE dX3_noteBreach_98 rfl (rfl) rfl (rfl)
def qh (C : Mem) (q st : Nat) : Int32 := sm (fun h => if C (q + 10) (st * 24 + h) = 0 then nI 1 else nI 0) 24
set_option maxRecDepth 100000 in
set_option maxHeartbeats 1000000 in
theorem c_X3_quietHours {sh : Sh} {C : Mem} {q st : Nat} (hq : IsSt sh q) (hst : st < 4) : Calls mX3_quietHours 1 0 0 [.inr (some (q)), .inl (nI (st))] sh C (some (.inl (qh C q st))) sh (C) := by
  refine Calls.of plX3 (Nat.le_of_ble_eq_true rfl) ?_
  show WP mX3_quietHours 1 0 0 0 [some (.inr (some (q))), some (.inl (nI (st))), none, none] [] sh (C) (some (.inl (qh C q st))) sh (C)
  refine zw_iconst (v := nI 0) dX3_quietHours_0 (by decide) ?_
  refine zw_istore_n dX3_quietHours_1 (by decide) ?_
  refine zw_iconst (v := nI 0) dX3_quietHours_2 (by decide) ?_
  refine zw_istore_n dX3_quietHours_3 (by decide) ?_
  have L4 : ∀ (n_4 k : Nat), k + n_4 = 24 → WP mX3_quietHours 1 0 0 4 [some (.inr (some (q))), some (.inl (nI (st))), some (.inl (sm (fun h => if C (q + 10) (st * 24 + h) = 0 then nI 1 else nI 0) (k))), some (.inl (nI (k)))] [] sh (C) (some (.inl (qh C q st))) sh (C) := by
    intro n_4
    induction n_4 with
    | zero =>
      intro k hk4
      have ek4 : 24 = k := by omega
      subst ek4
      refine zw_iload_n dX3_quietHours_4 rfl ?_
      refine zw_bipush (v := nI 24) dX3_quietHours_5 (by decide) ?_
      refine zw_icmp_ge_n (tgt := 37) dX3_quietHours_7 (by decide) (by omega) (by omega) (fun c7 => ?_) (fun c7 => by omega)
      refine zw_iload_n dX3_quietHours_37 rfl ?_
      exact zw_iretE dX3_quietHours_38 rfl (rfl) rfl (rfl)
    | succ n_4 ih4 =>
      intro k hk4
      have hlt4 : k < 24 := by omega
      refine zw_iload_n dX3_quietHours_4 rfl ?_
      refine zw_bipush (v := nI 24) dX3_quietHours_5 (by decide) ?_
      refine zw_icmp_ge_n (tgt := 37) dX3_quietHours_7 (by decide) (by omega) (by omega) (fun c7 => by omega) (fun c7 => ?_)
      refine zw_iload_n dX3_quietHours_10 rfl ?_
      refine zw_aload_n dX3_quietHours_11 rfl ?_
      refine zw_getR (j := 13) (kd := 3) dX3_quietHours_12 hq.i hq.k (by decide) (by decide) fl_X3_43 rfl hq.r9 ?_
      refine zw_iload_n dX3_quietHours_15 rfl ?_
      refine zw_iload_n dX3_quietHours_16 rfl ?_
      refine zw_cNi dX3_quietHours_17 (c_X4_slotAt _ _) rfl okX4_slotAt nl_X3_156 (Nat.le_of_ble_eq_true rfl) (Nat.le_of_ble_eq_true rfl) ?_
      refine zw_iald dX3_quietHours_20 hq.i9 hq.k9 hq.L9 rfl (by rw [hq.n9]; omega) ?_
      refine zw_if_ne (tgt := 28) dX3_quietHours_21 (by decide) (fun c21 => ?_) (fun c21 => ?_)
      · refine zw_iconst (v := nI 0) dX3_quietHours_28 (by decide) ?_
        refine zw_iadd dX3_quietHours_29 ?_
        refine zw_istore_n dX3_quietHours_30 (by decide) ?_
        refine zw_iincn dX3_quietHours_31 rfl (by decide) ?_
        refine zw_goto (tgt := 4) dX3_quietHours_34 (by decide) ?_
        exact WP.sub (ih4 (k + 1) (by omega)) ⟨rfl, rfl, (hd_eq (by simp [sm, *])), rfl, trivial⟩
      · refine zw_iconst (v := nI 1) dX3_quietHours_24 (by decide) ?_
        refine zw_goto (tgt := 29) dX3_quietHours_25 (by decide) ?_
        refine zw_iadd dX3_quietHours_29 ?_
        refine zw_istore_n dX3_quietHours_30 (by decide) ?_
        refine zw_iincn dX3_quietHours_31 rfl (by decide) ?_
        refine zw_goto (tgt := 4) dX3_quietHours_34 (by decide) ?_
        exact WP.sub (ih4 (k + 1) (by omega)) ⟨rfl, rfl, (hd_eq (by simp [sm, *])), rfl, trivial⟩
  exact WP.sub (L4 (24) 0 (by omega)) ⟨rfl, rfl, rfl, rfl, trivial⟩
set_option maxRecDepth 100000 in
set_option maxHeartbeats 1000000 in
theorem c_X3_noisySlots {sh : Sh} {C : Mem} {q : Nat} (hq : IsSt sh q) : Calls mX3_noisySlots 2 0 0 [.inr (some (q))] sh C (some (.inl (sm (fun st => nI 24 - qh C q st) 4))) sh (C) := by
  refine Calls.of plX3 (Nat.le_of_ble_eq_true rfl) ?_
  show WP mX3_noisySlots 2 0 0 0 [some (.inr (some (q))), none, none] [] sh (C) (some (.inl (sm (fun st => nI 24 - qh C q st) 4))) sh (C)
  refine zw_iconst (v := nI 0) dX3_noisySlots_0 (by decide) ?_
  refine zw_istore_n dX3_noisySlots_1 (by decide) ?_
  refine zw_iconst (v := nI 0) dX3_noisySlots_2 (by decide) ?_
  refine zw_istore_n dX3_noisySlots_3 (by decide) ?_
  have L4 : ∀ (n_4 k : Nat), k + n_4 = 4 → WP mX3_noisySlots 2 0 0 4 [some (.inr (some (q))), some (.inl (sm (fun st => nI 24 - qh C q st) (k))), some (.inl (nI (k)))] [] sh (C) (some (.inl (sm (fun st => nI 24 - qh C q st) 4))) sh (C) := by
    intro n_4
    induction n_4 with
    | zero =>
      intro k hk4
      have ek4 : 4 = k := by omega
      subst ek4
      refine zw_iload_n dX3_noisySlots_4 rfl ?_
      refine zw_iconst (v := nI 4) dX3_noisySlots_5 (by decide) ?_
      refine zw_icmp_ge_n (tgt := 26) dX3_noisySlots_6 (by decide) (by omega) (by omega) (fun c6 => ?_) (fun c6 => by omega)
      refine zw_iload_n dX3_noisySlots_26 rfl ?_
      exact zw_iretE dX3_noisySlots_27 rfl (rfl) rfl (rfl)
    | succ n_4 ih4 =>
      intro k hk4
      have hlt4 : k < 4 := by omega
      refine zw_iload_n dX3_noisySlots_4 rfl ?_
      refine zw_iconst (v := nI 4) dX3_noisySlots_5 (by decide) ?_
      refine zw_icmp_ge_n (tgt := 26) dX3_noisySlots_6 (by decide) (by omega) (by omega) (fun c6 => by omega) (fun c6 => ?_)
      refine zw_iload_n dX3_noisySlots_9 rfl ?_
      refine zw_bipush (v := nI 24) dX3_noisySlots_10 (by decide) ?_
      refine zw_aload_n dX3_noisySlots_12 rfl ?_
      refine zw_iload_n dX3_noisySlots_13 rfl ?_
      refine zw_cVi dX3_noisySlots_14 (c_X3_quietHours hq (by omega)) rfl okX3_quietHours ml_X3_153 hq.i hq.k (by decide) rfl (Nat.le_of_ble_eq_true rfl) (Nat.le_of_ble_eq_true rfl) ?_
      refine zw_isub dX3_noisySlots_17 ?_
      refine zw_iadd dX3_noisySlots_18 ?_
      refine zw_istore_n dX3_noisySlots_19 (by decide) ?_
      refine zw_iincn dX3_noisySlots_20 rfl (by decide) ?_
      refine zw_goto (tgt := 4) dX3_noisySlots_23 (by decide) ?_
      exact WP.sub (ih4 (k + 1) (by omega)) ⟨rfl, rfl, rfl, trivial⟩
  exact WP.sub (L4 (4) 0 (by omega)) ⟨rfl, rfl, rfl, trivial⟩
def qrun (f : Nat → Int32) : Nat → Nat → Nat
  | 0, _ => 0
  | n + 1, h => if f h = 0 then qrun f n (h + 1) + 1 else 0
theorem qrun_le (f : Nat → Int32) : ∀ n h, qrun f n h ≤ n
  | 0, _ => Nat.le_refl 0
  | n + 1, h => by
    unfold qrun
    have := qrun_le f n (h + 1)
    split <;> omega
abbrev owr (C : Mem) (q st : Nat) : Nat → Int32 := fun h => C (q + 10) (st * 24 + h)
theorem nI_mx {a b : Nat} (ha : a < 2 ^ 31) (hb : b < 2 ^ 31) : (if nI a < nI b then nI b else nI a) = nI (max a b) := by
  by_cases h : a < b
  · rw [if_pos ((nI_ltI ha hb).mpr h), Nat.max_eq_right (by omega)]
  · rw [if_neg (fun z => h ((nI_ltI ha hb).mp z)), Nat.max_eq_left (by omega)]
def lqn (f : Nat → Int32) : Nat → Nat
  | 0 => 0
  | k + 1 => max (lqn f k) (qrun f (24 - k) k)
theorem lqn_le (f : Nat → Int32) : ∀ k, lqn f k ≤ 24
  | 0 => Nat.zero_le _
  | k + 1 => by
    have h1 := lqn_le f k
    have h2 := qrun_le f (24 - k) k
    show max _ _ ≤ 24
    omega
def lqs (f : Nat → Int32) : Nat → Int32
  | 0 => (-9)
  | k + 1 => if lqn f k < qrun f (24 - k) k then nI k else lqs f k
set_option maxRecDepth 100000 in
set_option maxHeartbeats 1000000 in
theorem c_X3_quietFrom {sh : Sh} {C : Mem} {q st h : Nat} (hq : IsSt sh q) (hst : st < 4) (hh : h < 24) : Calls mX3_quietFrom 1 0 0 [.inr (some (q)), .inl (nI (st)), .inl (nI (h))] sh C (some (.inl (nI (qrun (owr C q st) (24 - h) h)))) sh (C) := by
  refine Calls.of plX3 (Nat.le_of_ble_eq_true rfl) ?_
  show WP mX3_quietFrom 1 0 0 0 [some (.inr (some (q))), some (.inl (nI (st))), some (.inl (nI (h))), none] [] sh (C) (some (.inl (nI (qrun (owr C q st) (24 - h) h)))) sh (C)
  refine zw_iload_n dX3_quietFrom_0 rfl ?_
  refine zw_istore_n dX3_quietFrom_1 (by decide) ?_
  have L2 : ∀ (n_2 k : Nat), k + n_2 = 24 → h ≤ k → qrun (owr C q st) (24 - h) h = (k - h) + qrun (owr C q st) (24 - k) k → WP mX3_quietFrom 1 0 0 2 [some (.inr (some (q))), some (.inl (nI (st))), some (.inl (nI (h))), some (.inl (nI (k)))] [] sh (C) (some (.inl (nI (qrun (owr C q st) (24 - h) h)))) sh (C) := by
    intro n_2
    induction n_2 with
    | zero =>
      intro k hk2 hle hx
      have ek2 : 24 = k := by omega
      subst ek2
      refine zw_iload_n dX3_quietFrom_2 rfl ?_
      refine zw_bipush (v := nI 24) dX3_quietFrom_3 (by decide) ?_
      refine zw_icmp_ge_n (tgt := 27) dX3_quietFrom_5 (by decide) (by omega) (by omega) (fun c5 => ?_) (fun c5 => by omega)
      refine zw_iload_n dX3_quietFrom_27 rfl ?_
      refine zw_iload_n dX3_quietFrom_28 rfl ?_
      refine zw_isubn dX3_quietFrom_29 (by omega) ?_
      exact zw_iretE dX3_quietFrom_30 rfl (by rw [hx]; simp [qrun]) rfl (rfl)
    | succ n_2 ih2 =>
      intro k hk2 hle hx
      have hlt2 : k < 24 := by omega
      refine zw_iload_n dX3_quietFrom_2 rfl ?_
      refine zw_bipush (v := nI 24) dX3_quietFrom_3 (by decide) ?_
      refine zw_icmp_ge_n (tgt := 27) dX3_quietFrom_5 (by decide) (by omega) (by omega) (fun c5 => by omega) (fun c5 => ?_)
      refine zw_aload_n dX3_quietFrom_8 rfl ?_
      refine zw_getR (j := 13) (kd := 3) dX3_quietFrom_9 hq.i hq.k (by decide) (by decide) fl_X3_43 rfl hq.r9 ?_
      refine zw_iload_n dX3_quietFrom_12 rfl ?_
      refine zw_iload_n dX3_quietFrom_13 rfl ?_
      refine zw_cNi dX3_quietFrom_14 (c_X4_slotAt _ _) rfl okX4_slotAt nl_X3_156 (Nat.le_of_ble_eq_true rfl) (Nat.le_of_ble_eq_true rfl) ?_
      refine zw_iald dX3_quietFrom_17 hq.i9 hq.k9 hq.L9 rfl (by rw [hq.n9]; omega) ?_
      refine zw_if_ne (tgt := 27) dX3_quietFrom_18 (by decide) (fun c18 => ?_) (fun c18 => ?_)
      · refine zw_iload_n dX3_quietFrom_27 rfl ?_
        refine zw_iload_n dX3_quietFrom_28 rfl ?_
        refine zw_isubn dX3_quietFrom_29 (by omega) ?_
        exact zw_iretE dX3_quietFrom_30 rfl (by congr 3; have hz := hx; rw [show 24 - k = n_2 + 1 by omega] at hz; simp only [qrun] at hz; rw [if_neg c18] at hz; omega) rfl (rfl)
      · refine zw_iincn dX3_quietFrom_21 rfl (by decide) ?_
        refine zw_goto (tgt := 2) dX3_quietFrom_24 (by decide) ?_
        exact WP.sub (ih2 (k + 1) (by omega) (by omega) (by have hz := hx; rw [show 24 - k = n_2 + 1 by omega] at hz; simp only [qrun] at hz; rw [if_pos c18] at hz; rw [show 24 - (k + 1) = n_2 by omega]; omega)) ⟨rfl, rfl, rfl, rfl, trivial⟩
  exact WP.sub (L2 (24 - h) h (by omega) (Nat.le_refl h) (by rw [Nat.sub_self, Nat.zero_add])) ⟨rfl, rfl, rfl, rfl, trivial⟩
set_option maxRecDepth 100000 in
set_option maxHeartbeats 1000000 in
theorem c_X3_longestQuiet {sh : Sh} {C : Mem} {q st : Nat} (hq : IsSt sh q) (hst : st < 4) : Calls mX3_longestQuiet 2 0 0 [.inr (some (q)), .inl (nI (st))] sh C (some (.inl (nI (lqn (owr C q st) 24)))) sh (C) := by
  refine Calls.of plX3 (Nat.le_of_ble_eq_true rfl) ?_
  show WP mX3_longestQuiet 2 0 0 0 [some (.inr (some (q))), some (.inl (nI (st))), none, none] [] sh (C) (some (.inl (nI (lqn (owr C q st) 24)))) sh (C)
  refine zw_iconst (v := nI 0) dX3_longestQuiet_0 (by decide) ?_
  refine zw_istore_n dX3_longestQuiet_1 (by decide) ?_
  refine zw_iconst (v := nI 0) dX3_longestQuiet_2 (by decide) ?_
  refine zw_istore_n dX3_longestQuiet_3 (by decide) ?_
  have L4 : ∀ (n_4 k : Nat), k + n_4 = 24 → WP mX3_longestQuiet 2 0 0 4 [some (.inr (some (q))), some (.inl (nI (st))), some (.inl (nI (lqn (owr C q st) (k)))), some (.inl (nI (k)))] [] sh (C) (some (.inl (nI (lqn (owr C q st) 24)))) sh (C) := by
    intro n_4
    induction n_4 with
    | zero =>
      intro k hk4
      have ek4 : 24 = k := by omega
      subst ek4
      refine zw_iload_n dX3_longestQuiet_4 rfl ?_
      refine zw_bipush (v := nI 24) dX3_longestQuiet_5 (by decide) ?_
      refine zw_icmp_ge_n (tgt := 27) dX3_longestQuiet_7 (by decide) (by omega) (by omega) (fun c7 => ?_) (fun c7 => by omega)
      refine zw_iload_n dX3_longestQuiet_27 rfl ?_
      exact zw_iretE dX3_longestQuiet_28 rfl (rfl) rfl (rfl)
    | succ n_4 ih4 =>
      intro k hk4
      have hlt4 : k < 24 := by omega
      refine zw_iload_n dX3_longestQuiet_4 rfl ?_
      refine zw_bipush (v := nI 24) dX3_longestQuiet_5 (by decide) ?_
      refine zw_icmp_ge_n (tgt := 27) dX3_longestQuiet_7 (by decide) (by omega) (by omega) (fun c7 => by omega) (fun c7 => ?_)
      refine zw_iload_n dX3_longestQuiet_10 rfl ?_
      refine zw_aload_n dX3_longestQuiet_11 rfl ?_
      refine zw_iload_n dX3_longestQuiet_12 rfl ?_
      refine zw_iload_n dX3_longestQuiet_13 rfl ?_
      refine zw_cVi dX3_longestQuiet_14 (c_X3_quietFrom hq (by omega) (by omega)) rfl okX3_quietFrom ml_X3_159 hq.i hq.k (by decide) rfl (Nat.le_of_ble_eq_true rfl) (Nat.le_of_ble_eq_true rfl) ?_
      refine zw_mmax dX3_longestQuiet_17 ml_X3_119 (by decide) (Nat.le_of_ble_eq_true rfl) ?_
      refine zw_top (x2 := (nI (max (lqn (owr C q st) k) (qrun (owr C q st) (24 - k) k)))) (nI_mx (by have := lqn_le (owr C q st) k; omega) (by have := qrun_le (owr C q st) (24 - k) k; omega)) ?_
      refine zw_istore_n dX3_longestQuiet_20 (by decide) ?_
      refine zw_iincn dX3_longestQuiet_21 rfl (by decide) ?_
      refine zw_goto (tgt := 4) dX3_longestQuiet_24 (by decide) ?_
      exact WP.sub (ih4 (k + 1) (by omega)) ⟨rfl, rfl, rfl, rfl, trivial⟩
  exact WP.sub (L4 (24) 0 (by omega)) ⟨rfl, rfl, rfl, rfl, trivial⟩
set_option maxRecDepth 100000 in
set_option maxHeartbeats 1000000 in
theorem c_X3_longestQuietStart {sh : Sh} {C : Mem} {q st : Nat} (hq : IsSt sh q) (hst : st < 4) : Calls mX3_longestQuietStart 2 0 0 [.inr (some (q)), .inl (nI (st))] sh C (some (.inl (lqs (owr C q st) 24))) sh (C) := by
  refine Calls.of plX3 (Nat.le_of_ble_eq_true rfl) ?_
  show WP mX3_longestQuietStart 2 0 0 0 [some (.inr (some (q))), some (.inl (nI (st))), none, none, none, none] [] sh (C) (some (.inl (lqs (owr C q st) 24))) sh (C)
  refine zw_bipush (v := (-9)) dX3_longestQuietStart_0 (by decide) ?_
  refine zw_istore_n dX3_longestQuietStart_2 (by decide) ?_
  refine zw_iconst (v := nI 0) dX3_longestQuietStart_3 (by decide) ?_
  refine zw_istore_n dX3_longestQuietStart_4 (by decide) ?_
  refine zw_iconst (v := nI 0) dX3_longestQuietStart_5 (by decide) ?_
  refine zw_istore dX3_longestQuietStart_6 (by decide) ?_
  have L8 : ∀ (n_8 k : Nat), k + n_8 = 24 → WP mX3_longestQuietStart 2 0 0 8 [some (.inr (some (q))), some (.inl (nI (st))), some (.inl (lqs (owr C q st) (k))), some (.inl (nI (lqn (owr C q st) (k)))), some (.inl (nI (k))), none] [] sh (C) (some (.inl (lqs (owr C q st) 24))) sh (C) := by
    intro n_8
    induction n_8 with
    | zero =>
      intro k hk8
      have ek8 : 24 = k := by omega
      subst ek8
      refine zw_iload dX3_longestQuietStart_8 rfl ?_
      refine zw_bipush (v := nI 24) dX3_longestQuietStart_10 (by decide) ?_
      refine zw_icmp_ge_n (tgt := 42) dX3_longestQuietStart_12 (by decide) (by omega) (by omega) (fun c12 => ?_) (fun c12 => by omega)
      refine zw_iload_n dX3_longestQuietStart_42 rfl ?_
      exact zw_iretE dX3_longestQuietStart_43 rfl (rfl) rfl (rfl)
    | succ n_8 ih8 =>
      intro k hk8
      have hlt8 : k < 24 := by omega
      refine zw_iload dX3_longestQuietStart_8 rfl ?_
      refine zw_bipush (v := nI 24) dX3_longestQuietStart_10 (by decide) ?_
      refine zw_icmp_ge_n (tgt := 42) dX3_longestQuietStart_12 (by decide) (by omega) (by omega) (fun c12 => by omega) (fun c12 => ?_)
      refine zw_aload_n dX3_longestQuietStart_15 rfl ?_
      refine zw_iload_n dX3_longestQuietStart_16 rfl ?_
      refine zw_iload dX3_longestQuietStart_17 rfl ?_
      refine zw_cVi dX3_longestQuietStart_19 (c_X3_quietFrom hq (by omega) (by omega)) rfl okX3_quietFrom ml_X3_159 hq.i hq.k (by decide) rfl (Nat.le_of_ble_eq_true rfl) (Nat.le_of_ble_eq_true rfl) ?_
      refine zw_istore dX3_longestQuietStart_22 (by decide) ?_
      refine zw_iload dX3_longestQuietStart_24 rfl ?_
      refine zw_iload_n dX3_longestQuietStart_26 rfl ?_
      have hl1 := lqn_le (owr C q st) k
      have hl2 := qrun_le (owr C q st) (24 - k) k
      refine zw_icmp_le_n (tgt := 36) dX3_longestQuietStart_27 (by decide) (by omega) (by omega) (fun c27 => ?_) (fun c27 => ?_)
      · refine zw_iincn dX3_longestQuietStart_36 rfl (by decide) ?_
        refine zw_goto (tgt := 8) dX3_longestQuietStart_39 (by decide) ?_
        exact WP.sub (ih8 (k + 1) (by omega)) ⟨rfl, rfl, (hd_eq (by simp [lqs, c27] <;> (intro; omega))), (hd_eq (by simp only [lqn]; congr 4; omega)), rfl, trivial⟩
      · refine zw_iload dX3_longestQuietStart_30 rfl ?_
        refine zw_istore_n dX3_longestQuietStart_32 (by decide) ?_
        refine zw_iload dX3_longestQuietStart_33 rfl ?_
        refine zw_istore_n dX3_longestQuietStart_35 (by decide) ?_
        refine zw_iincn dX3_longestQuietStart_36 rfl (by decide) ?_
        refine zw_goto (tgt := 8) dX3_longestQuietStart_39 (by decide) ?_
        exact WP.sub (ih8 (k + 1) (by omega)) ⟨rfl, rfl, (hd_eq (by simp [lqs, c27] <;> (intro; omega))), (hd_eq (by simp only [lqn]; congr 4; omega)), rfl, trivial⟩
  exact WP.sub (L8 (24) 0 (by omega)) ⟨rfl, rfl, rfl, rfl, rfl, trivial⟩
/-! ===== History ===== -/
def recM (C : Mem) (h o z f : Nat) : Mem :=
  let C1 := cpM C f (h + 2 + 16 * ((o + z) % 5))
  if z < 5 then up C1 h 2 (nI (z + 1)) else up C1 h 1 (nI ((o + 1) % 5))
set_option maxRecDepth 100000 in
set_option maxHeartbeats 1000000 in
theorem c_X0_record {sh : Sh} {C : Mem} {h f o z : Nat} (hh : IsHi sh h) (hf : IsSt sh f) (ho : C h 1 = nI o) (hz : C h 2 = nI z) (ho5 : o < 5) (hz5 : z ≤ 5) : Calls mX0_record 2 0 0 [.inr (some (h)), .inr (some (f))] sh C (none) sh (recM C h o z f) := by
  refine Calls.of plX0 (Nat.le_of_ble_eq_true rfl) ?_
  show WP mX0_record 2 0 0 0 [some (.inr (some (h))), some (.inr (some (f)))] [] sh (C) (none) sh (recM C h o z f)
  refine zw_aload_n dX0_record_0 rfl ?_
  refine zw_getR (j := 0) (kd := 0) dX0_record_1 hh.i hh.k (by decide) (by decide) fl_X0_11 rfl hh.r0 ?_
  refine zw_aload_n dX0_record_4 rfl ?_
  refine zw_getIv (j := 1) (kd := 0) (v := (nI (o))) dX0_record_5 hh.i hh.k (by decide) (by decide) fl_X0_18 rfl (by first | exact ho | (rw [cpM_ne (by omega)]; exact ho)) ?_
  refine zw_aload_n dX0_record_8 rfl ?_
  refine zw_getIv (j := 2) (kd := 0) (v := (nI (z))) dX0_record_9 hh.i hh.k (by decide) (by decide) fl_X0_22 rfl (by first | exact hz | (rw [cpM_ne (by omega)]; exact hz)) ?_
  refine zw_iaddn dX0_record_12 ?_
  refine zw_iconst (v := nI 5) dX0_record_13 (by decide) ?_
  refine zw_iremn dX0_record_14 (by omega) (by omega) (by omega) ?_
  refine zw_aaldS dX0_record_15 hh.i0 hh.k0 hh.L0 rfl (by rw [hh.n0]; exact (by omega)) (hh.row (by omega)) ?_
  refine zw_aload_n dX0_record_16 rfl ?_
  refine zw_cVv dX0_record_17 (c_X3_copyFrom (hh.st (by omega)) hf) rfl okX3_copyFrom ml_X0_25 (hh.st (by omega)).i (hh.st (by omega)).k (by decide) rfl (Nat.le_of_ble_eq_true rfl) (Nat.le_of_ble_eq_true rfl) ?_
  refine zw_aload_n dX0_record_20 rfl ?_
  refine zw_getIv (j := 2) (kd := 0) (v := (nI (z))) dX0_record_21 hh.i hh.k (by decide) (by decide) fl_X0_22 rfl (by first | exact hz | (rw [cpM_ne (by omega)]; exact hz)) ?_
  refine zw_iconst (v := nI 5) dX0_record_24 (by decide) ?_
  refine zw_icmp_ge_n (tgt := 41) dX0_record_25 (by decide) (by omega) (by omega) (fun c25 => ?_) (fun c25 => ?_)
  · refine zw_aload_n dX0_record_41 rfl ?_
    refine zw_aload_n dX0_record_42 rfl ?_
    refine zw_getIv (j := 1) (kd := 0) (v := (nI (o))) dX0_record_43 hh.i hh.k (by decide) (by decide) fl_X0_18 rfl (by first | exact ho | (rw [cpM_ne (by omega)]; exact ho)) ?_
    refine zw_iconst (v := nI 1) dX0_record_46 (by decide) ?_
    refine zw_iaddn dX0_record_47 ?_
    refine zw_iconst (v := nI 5) dX0_record_48 (by decide) ?_
    refine zw_iremn dX0_record_49 (by omega) (by omega) (by omega) ?_
    refine zw_putI (j := 1) (kd := 0) dX0_record_50 hh.i hh.k (by decide) (by decide) fl_X0_18 rfl rfl rfl ?_
    exact zw_vretE dX0_record_53 rfl rfl rfl (by simp only [recM]; rw [if_neg (by omega)])
  · refine zw_aload_n dX0_record_28 rfl ?_
    refine zw_dup dX0_record_29 ?_
    refine zw_getIv (j := 2) (kd := 0) (v := (nI (z))) dX0_record_30 hh.i hh.k (by decide) (by decide) fl_X0_22 rfl (by first | exact hz | (rw [cpM_ne (by omega)]; exact hz)) ?_
    refine zw_iconst (v := nI 1) dX0_record_33 (by decide) ?_
    refine zw_iaddn dX0_record_34 ?_
    refine zw_putI (j := 2) (kd := 0) dX0_record_35 hh.i hh.k (by decide) (by decide) fl_X0_22 rfl rfl rfl ?_
    refine zw_goto (tgt := 53) dX0_record_38 (by decide) ?_
    exact zw_vretE dX0_record_53 rfl rfl rfl (by simp only [recM]; rw [if_pos (by omega)])
def resM (C : Mem) (h o z f : Nat) : Mem := if 0 < z then cpM (up C h 2 (nI (z - 1))) (h + 2 + 16 * ((o + (z - 1)) % 5)) f else C
set_option maxRecDepth 100000 in
set_option maxHeartbeats 1000000 in
theorem c_X0_restoreLatest {sh : Sh} {C : Mem} {h f o z : Nat} (hh : IsHi sh h) (hf : IsSt sh f) (ho : C h 1 = nI o) (hz : C h 2 = nI z) (ho5 : o < 5) (hz5 : z ≤ 5) : Calls mX0_restoreLatest 2 0 0 [.inr (some (h)), .inr (some (f))] sh C (none) sh (resM C h o z f) := by
  refine Calls.of plX0 (Nat.le_of_ble_eq_true rfl) ?_
  show WP mX0_restoreLatest 2 0 0 0 [some (.inr (some (h))), some (.inr (some (f)))] [] sh (C) (none) sh (resM C h o z f)
  refine zw_aload_n dX0_restoreLatest_0 rfl ?_
  refine zw_getIv (j := 2) (kd := 0) (v := (nI (z))) dX0_restoreLatest_1 hh.i hh.k (by decide) (by decide) fl_X0_22 rfl hz ?_
  refine zw_if_le_n (tgt := 37) dX0_restoreLatest_4 (by decide) (by omega) (fun c4 => ?_) (fun c4 => ?_)
  · exact zw_vretE dX0_restoreLatest_37 rfl rfl rfl (by simp only [resM]; rw [if_neg (by omega)])
  · refine zw_aload_n dX0_restoreLatest_7 rfl ?_
    refine zw_dup dX0_restoreLatest_8 ?_
    refine zw_getIv (j := 2) (kd := 0) (v := (nI (z))) dX0_restoreLatest_9 hh.i hh.k (by decide) (by decide) fl_X0_22 rfl hz ?_
    refine zw_iconst (v := nI 1) dX0_restoreLatest_12 (by decide) ?_
    refine zw_isubn dX0_restoreLatest_13 (by omega) ?_
    refine zw_putI (j := 2) (kd := 0) dX0_restoreLatest_14 hh.i hh.k (by decide) (by decide) fl_X0_22 rfl rfl rfl ?_
    refine zw_aload_n dX0_restoreLatest_17 rfl ?_
    refine zw_aload_n dX0_restoreLatest_18 rfl ?_
    refine zw_getR (j := 0) (kd := 0) dX0_restoreLatest_19 hh.i hh.k (by decide) (by decide) fl_X0_11 rfl hh.r0 ?_
    refine zw_aload_n dX0_restoreLatest_22 rfl ?_
    refine zw_getIv (j := 1) (kd := 0) (v := (nI (o))) dX0_restoreLatest_23 hh.i hh.k (by decide) (by decide) fl_X0_18 rfl (by rw [up_ne2 (by decide)]; exact ho) ?_
    refine zw_aload_n dX0_restoreLatest_26 rfl ?_
    refine zw_getIv (j := 2) (kd := 0) (v := (nI (z - 1))) dX0_restoreLatest_27 hh.i hh.k (by decide) (by decide) fl_X0_22 rfl up_eq ?_
    refine zw_iaddn dX0_restoreLatest_30 ?_
    refine zw_iconst (v := nI 5) dX0_restoreLatest_31 (by decide) ?_
    refine zw_iremn dX0_restoreLatest_32 (by omega) (by omega) (by omega) ?_
    refine zw_aaldS dX0_restoreLatest_33 hh.i0 hh.k0 hh.L0 rfl (by rw [hh.n0]; exact (by omega)) (hh.row (by omega)) ?_
    refine zw_cVv dX0_restoreLatest_34 (c_X3_copyFrom hf (hh.st (by omega))) rfl okX3_copyFrom ml_X0_25 hf.i hf.k (by decide) rfl (Nat.le_of_ble_eq_true rfl) (Nat.le_of_ble_eq_true rfl) ?_
    exact zw_vretE dX0_restoreLatest_37 rfl rfl rfl (by simp only [resM]; rw [if_pos (by omega)])
