/-! THE LAW'S LOOP. -/
/-- a call of the class and the same call of the reference: the same answer, and the relation is kept -/
def Bth (yc yd : MI) (sh : Sh) (Rel : Nat → Mem → Prop) (args : List AV) (t : Nat) (M : Mem) : Prop :=
  ∃ (r : Int32) (M1 M2 : Mem) (dc dd : Nat), dc ≤ 8 ∧ dd ≤ 8 ∧ Calls yc dc 0 0 (.inr (some 0) :: args) sh M (some (.inl r)) sh M1 ∧ Calls yd dd 0 0 (.inr (some 134) :: args) sh M1 (some (.inl r)) sh M2 ∧ Rel (t + 1) M2
def Stp20 (sh : Sh) (Rel : Nat → Mem → Prop) : Prop := ∀ (t : Nat) (M : Mem), t < 512 → Rel t M →
  (∀ x1 x2 x3 x4 x5 : Int32, Bth mX4_join mX5_join sh Rel [.inl x1] t M) ∧
  (∀ x1 x2 x3 x4 x5 : Int32, Bth mX4_pay mX5_pay sh Rel [.inl x1, .inl x2] t M) ∧
  (∀ x1 x2 x3 x4 x5 : Int32, Bth mX4_bid mX5_bid sh Rel [.inl x1, .inl x2, .inl x3, .inl x4, .inl x5] t M) ∧
  (∀ x1 x2 x3 x4 x5 : Int32, Bth mX4_setFine mX5_setFine sh Rel [.inl x1] t M) ∧
  (∀ x1 x2 x3 x4 x5 : Int32, Bth mX4_settle mX5_settle sh Rel [] t M) ∧
  (∀ x1 x2 x3 x4 x5 : Int32, Bth mX4_breach mX5_breach sh Rel [.inl x1, .inl x2, .inl x3] t M) ∧
  (∀ x1 x2 x3 x4 x5 : Int32, Bth mX4_undo mX5_undo sh Rel [] t M) ∧
  (∀ x1 x2 x3 x4 x5 : Int32, Bth mX4_append mX5_append sh Rel [.inl x1] t M) ∧
  (∀ x1 x2 x3 x4 x5 : Int32, Bth mX4_clearText mX5_clearText sh Rel [] t M) ∧
  (∀ x1 x2 x3 x4 x5 : Int32, Bth mX4_run mX5_run sh Rel [.inl x1] t M) ∧
  (∀ x1 x2 x3 x4 x5 : Int32, Bth mX4_failure mX5_failure sh Rel [.inl x1] t M) ∧
  (∀ x1 x2 x3 x4 x5 : Int32, Bth mX4_count mX5_count sh Rel [.inl x1] t M) ∧
  (∀ x1 x2 x3 x4 x5 : Int32, Bth mX4_person mX5_person sh Rel [.inl x1, .inl x2] t M) ∧
  (∀ x1 x2 x3 x4 x5 : Int32, Bth mX4_slot mX5_slot sh Rel [.inl x1, .inl x2, .inl x3] t M) ∧
  (∀ x1 x2 x3 x4 x5 : Int32, Bth mX4_bidOf mX5_bidOf sh Rel [.inl x1, .inl x2, .inl x3] t M) ∧
  (∀ x1 x2 x3 x4 x5 : Int32, Bth mX4_fund mX5_fund sh Rel [.inl x1] t M) ∧
  (∀ x1 x2 x3 x4 x5 : Int32, Bth mX4_winner mX5_winner sh Rel [.inl x1, .inl x2] t M) ∧
  (∀ x1 x2 x3 x4 x5 : Int32, Bth mX4_needed mX5_needed sh Rel [.inl x1, .inl x2, .inl x3] t M) ∧
  (∀ x1 x2 x3 x4 x5 : Int32, Bth mX4_quiet mX5_quiet sh Rel [.inl x1, .inl x2] t M) ∧
  (∀ x1 x2 x3 x4 x5 : Int32, Bth mX4_purseThen mX5_purseThen sh Rel [.inl x1] t M) ∧
  Rel (t + 1) M
theorem zl_iaddn {b L : Nat} {xs : Nat → Int32} {k n pc : Nat} {ls : List (Nat × LV)} {stk : List LV} {sh : Sh} {C : Mem} {i j : Nat} (hd : decode cL_law pc = .ok (.iadd, 1)) (kk : LWP b L xs k n (pc + 1) ls (.inl (.inl (nI (i + j))) :: stk) sh C) : LWP b L xs k n pc ls (.inl (.inl (nI j)) :: .inl (.inl (nI i)) :: stk) sh C := by
  refine zl_iadd hd ?_
  rw [nI_add]
  exact kk
abbrev lws (t : Nat) : List (Nat × LV) := [(3, .inl (.inl (nI (6 * t)))), (2, .inl (.inr (some 134))), (1, .inl (.inr (some 0))), (0, .inr ())]
theorem law_lt {L t : Nat} (hL : L ≤ 3072) (h : ¬ nI L - nI 6 < nI (6 * t)) (ht : t ≤ 512) : 6 * t + 6 ≤ L := by
  by_cases h6 : 6 ≤ L
  · have e : nI L - nI 6 = nI (L - 6) := by
      have : nI (L - 6) + nI 6 = nI L := by rw [nI_add]; congr 1; omega
      rw [← this]
      exact Int32.add_sub_cancel _ _
    rw [e, nI_ltI (by omega) (by omega)] at h
    omega
  · exfalso
    apply h
    have hl : L < 6 := by omega
    have h0 : (0 : Int32) ≤ nI (6 * t) := nI_pos' (by omega)
    have h1 : nI L - nI 6 < 0 := by
      rcases (show L = 0 ∨ L = 1 ∨ L = 2 ∨ L = 3 ∨ L = 4 ∨ L = 5 by omega) with rfl | rfl | rfl | rfl | rfl | rfl <;> decide
    exact Int32.lt_of_lt_of_le h1 h0
theorem lw_tail {b L : Nat} {xs : Nat → Int32} {sh : Sh} {M : Mem} {t : Nat} (kk : LWP b L xs 0 0 18 (lws (t + 1)) [] sh M) : LWP b L xs 0 0 718 (lws t) [] sh M := by
  refine zl_iinc (j := 0) (v := nI (6 * (t + 1))) (ls2 := lws (t + 1)) dL_law_718 rfl (by decide) ((nI_add _ 6).trans (congrArg nI (by omega))) (fun _ _ => rfl) ?_
  exact zl_goto (tgt := 18) dL_law_721 (by decide) kk
theorem lw_join {b L : Nat} {xs : Nat → Int32} {sh : Sh} {M M1 M2 : Mem} {t : Nat} {r : Int32} {dc dd : Nat} (hs : IsSH sh 0) (hm : IsMo sh 134) (hL : L ≤ 3072) (ht : 6 * t + 6 ≤ L) (hdc : dc ≤ 8) (hdd : dd ≤ 8) (hc : Calls mX4_join dc 0 0 [.inr (some 0), .inl (xs (6 * t + 1))] sh M (some (.inl r)) sh M1) (hd : Calls mX5_join dd 0 0 [.inr (some 134), .inl (xs (6 * t + 1))] sh M1 (some (.inl r)) sh M2) (kk : LWP b L xs 0 0 18 (lws (t + 1)) [] sh M2) : LWP b L xs 0 0 128 (lws t) [] sh M := by
  refine zl_aload_n (j := 2) dL_law_128 rfl ?_
  refine zl_aload_s (j := 3) dL_law_129 rfl ?_
  refine zl_iload_n (j := 0) dL_law_130 rfl ?_
  refine zl_iconst (v := nI 1) dL_law_131 (by decide) ?_
  refine zl_iaddn dL_law_132 ?_
  refine zl_sld dL_law_133 rfl (show 6 * t + 1 < L by omega) (by omega) ?_
  refine zl_invV (k2 := 0) (k3 := 0) (n2 := 0) (n3 := 0) (args2 := [.inl (xs (6 * t + 1))]) (stk := []) (i := 0) (ci := 4) dL_law_134 okX4_join ml_L_13 hs.i hs.k (by decide) rfl hdc rfl (Nat.zero_le 8) rfl rfl rfl hc ?_
  refine zl_aload_n (j := 1) dL_law_137 rfl ?_
  refine zl_aload_s (j := 3) dL_law_138 rfl ?_
  refine zl_iload_n (j := 0) dL_law_139 rfl ?_
  refine zl_iconst (v := nI 1) dL_law_140 (by decide) ?_
  refine zl_iaddn dL_law_141 ?_
  refine zl_sld dL_law_142 rfl (show 6 * t + 1 < L by omega) (by omega) ?_
  refine zl_invV (k2 := 0) (k3 := 0) (n2 := 0) (n3 := 0) (args2 := [.inl (xs (6 * t + 1))]) (stk := [.inl (.inl r)]) (i := 134) (ci := 5) dL_law_143 okX5_join ml_L_17 hm.i hm.k (by decide) rfl hdd rfl (Nat.le_of_ble_eq_true rfl) rfl rfl rfl hd ?_
  refine zl_icmp_eq (tgt := 718) dL_law_146 (by decide) (fun _ => ?_) (fun z => absurd rfl z)
  exact lw_tail kk
theorem lw_pay {b L : Nat} {xs : Nat → Int32} {sh : Sh} {M M1 M2 : Mem} {t : Nat} {r : Int32} {dc dd : Nat} (hs : IsSH sh 0) (hm : IsMo sh 134) (hL : L ≤ 3072) (ht : 6 * t + 6 ≤ L) (hdc : dc ≤ 8) (hdd : dd ≤ 8) (hc : Calls mX4_pay dc 0 0 [.inr (some 0), .inl (xs (6 * t + 1)), .inl (xs (6 * t + 2))] sh M (some (.inl r)) sh M1) (hd : Calls mX5_pay dd 0 0 [.inr (some 134), .inl (xs (6 * t + 1)), .inl (xs (6 * t + 2))] sh M1 (some (.inl r)) sh M2) (kk : LWP b L xs 0 0 18 (lws (t + 1)) [] sh M2) : LWP b L xs 0 0 151 (lws t) [] sh M := by
  refine zl_aload_n (j := 2) dL_law_151 rfl ?_
  refine zl_aload_s (j := 3) dL_law_152 rfl ?_
  refine zl_iload_n (j := 0) dL_law_153 rfl ?_
  refine zl_iconst (v := nI 1) dL_law_154 (by decide) ?_
  refine zl_iaddn dL_law_155 ?_
  refine zl_sld dL_law_156 rfl (show 6 * t + 1 < L by omega) (by omega) ?_
  refine zl_aload_s (j := 3) dL_law_157 rfl ?_
  refine zl_iload_n (j := 0) dL_law_158 rfl ?_
  refine zl_iconst (v := nI 2) dL_law_159 (by decide) ?_
  refine zl_iaddn dL_law_160 ?_
  refine zl_sld dL_law_161 rfl (show 6 * t + 2 < L by omega) (by omega) ?_
  refine zl_invV (k2 := 0) (k3 := 0) (n2 := 0) (n3 := 0) (args2 := [.inl (xs (6 * t + 1)), .inl (xs (6 * t + 2))]) (stk := []) (i := 0) (ci := 4) dL_law_162 okX4_pay ml_L_18 hs.i hs.k (by decide) rfl hdc rfl (Nat.zero_le 8) rfl rfl rfl hc ?_
  refine zl_aload_n (j := 1) dL_law_165 rfl ?_
  refine zl_aload_s (j := 3) dL_law_166 rfl ?_
  refine zl_iload_n (j := 0) dL_law_167 rfl ?_
  refine zl_iconst (v := nI 1) dL_law_168 (by decide) ?_
  refine zl_iaddn dL_law_169 ?_
  refine zl_sld dL_law_170 rfl (show 6 * t + 1 < L by omega) (by omega) ?_
  refine zl_aload_s (j := 3) dL_law_171 rfl ?_
  refine zl_iload_n (j := 0) dL_law_172 rfl ?_
  refine zl_iconst (v := nI 2) dL_law_173 (by decide) ?_
  refine zl_iaddn dL_law_174 ?_
  refine zl_sld dL_law_175 rfl (show 6 * t + 2 < L by omega) (by omega) ?_
  refine zl_invV (k2 := 0) (k3 := 0) (n2 := 0) (n3 := 0) (args2 := [.inl (xs (6 * t + 1)), .inl (xs (6 * t + 2))]) (stk := [.inl (.inl r)]) (i := 134) (ci := 5) dL_law_176 okX5_pay ml_L_22 hm.i hm.k (by decide) rfl hdd rfl (Nat.le_of_ble_eq_true rfl) rfl rfl rfl hd ?_
  refine zl_icmp_eq (tgt := 718) dL_law_179 (by decide) (fun _ => ?_) (fun z => absurd rfl z)
  exact lw_tail kk
theorem lw_bid {b L : Nat} {xs : Nat → Int32} {sh : Sh} {M M1 M2 : Mem} {t : Nat} {r : Int32} {dc dd : Nat} (hs : IsSH sh 0) (hm : IsMo sh 134) (hL : L ≤ 3072) (ht : 6 * t + 6 ≤ L) (hdc : dc ≤ 8) (hdd : dd ≤ 8) (hc : Calls mX4_bid dc 0 0 [.inr (some 0), .inl (xs (6 * t + 1)), .inl (xs (6 * t + 2)), .inl (xs (6 * t + 3)), .inl (xs (6 * t + 4)), .inl (xs (6 * t + 5))] sh M (some (.inl r)) sh M1) (hd : Calls mX5_bid dd 0 0 [.inr (some 134), .inl (xs (6 * t + 1)), .inl (xs (6 * t + 2)), .inl (xs (6 * t + 3)), .inl (xs (6 * t + 4)), .inl (xs (6 * t + 5))] sh M1 (some (.inl r)) sh M2) (kk : LWP b L xs 0 0 18 (lws (t + 1)) [] sh M2) : LWP b L xs 0 0 184 (lws t) [] sh M := by
  refine zl_aload_n (j := 2) dL_law_184 rfl ?_
  refine zl_aload_s (j := 3) dL_law_185 rfl ?_
  refine zl_iload_n (j := 0) dL_law_186 rfl ?_
  refine zl_iconst (v := nI 1) dL_law_187 (by decide) ?_
  refine zl_iaddn dL_law_188 ?_
  refine zl_sld dL_law_189 rfl (show 6 * t + 1 < L by omega) (by omega) ?_
  refine zl_aload_s (j := 3) dL_law_190 rfl ?_
  refine zl_iload_n (j := 0) dL_law_191 rfl ?_
  refine zl_iconst (v := nI 2) dL_law_192 (by decide) ?_
  refine zl_iaddn dL_law_193 ?_
  refine zl_sld dL_law_194 rfl (show 6 * t + 2 < L by omega) (by omega) ?_
  refine zl_aload_s (j := 3) dL_law_195 rfl ?_
  refine zl_iload_n (j := 0) dL_law_196 rfl ?_
  refine zl_iconst (v := nI 3) dL_law_197 (by decide) ?_
  refine zl_iaddn dL_law_198 ?_
  refine zl_sld dL_law_199 rfl (show 6 * t + 3 < L by omega) (by omega) ?_
  refine zl_aload_s (j := 3) dL_law_200 rfl ?_
  refine zl_iload_n (j := 0) dL_law_201 rfl ?_
  refine zl_iconst (v := nI 4) dL_law_202 (by decide) ?_
  refine zl_iaddn dL_law_203 ?_
  refine zl_sld dL_law_204 rfl (show 6 * t + 4 < L by omega) (by omega) ?_
  refine zl_aload_s (j := 3) dL_law_205 rfl ?_
  refine zl_iload_n (j := 0) dL_law_206 rfl ?_
  refine zl_iconst (v := nI 5) dL_law_207 (by decide) ?_
  refine zl_iaddn dL_law_208 ?_
  refine zl_sld dL_law_209 rfl (show 6 * t + 5 < L by omega) (by omega) ?_
  refine zl_invV (k2 := 0) (k3 := 0) (n2 := 0) (n3 := 0) (args2 := [.inl (xs (6 * t + 1)), .inl (xs (6 * t + 2)), .inl (xs (6 * t + 3)), .inl (xs (6 * t + 4)), .inl (xs (6 * t + 5))]) (stk := []) (i := 0) (ci := 4) dL_law_210 okX4_bid ml_L_23 hs.i hs.k (by decide) rfl hdc rfl (Nat.zero_le 8) rfl rfl rfl hc ?_
  refine zl_aload_n (j := 1) dL_law_213 rfl ?_
  refine zl_aload_s (j := 3) dL_law_214 rfl ?_
  refine zl_iload_n (j := 0) dL_law_215 rfl ?_
  refine zl_iconst (v := nI 1) dL_law_216 (by decide) ?_
  refine zl_iaddn dL_law_217 ?_
  refine zl_sld dL_law_218 rfl (show 6 * t + 1 < L by omega) (by omega) ?_
  refine zl_aload_s (j := 3) dL_law_219 rfl ?_
  refine zl_iload_n (j := 0) dL_law_220 rfl ?_
  refine zl_iconst (v := nI 2) dL_law_221 (by decide) ?_
  refine zl_iaddn dL_law_222 ?_
  refine zl_sld dL_law_223 rfl (show 6 * t + 2 < L by omega) (by omega) ?_
  refine zl_aload_s (j := 3) dL_law_224 rfl ?_
  refine zl_iload_n (j := 0) dL_law_225 rfl ?_
  refine zl_iconst (v := nI 3) dL_law_226 (by decide) ?_
  refine zl_iaddn dL_law_227 ?_
  refine zl_sld dL_law_228 rfl (show 6 * t + 3 < L by omega) (by omega) ?_
  refine zl_aload_s (j := 3) dL_law_229 rfl ?_
  refine zl_iload_n (j := 0) dL_law_230 rfl ?_
  refine zl_iconst (v := nI 4) dL_law_231 (by decide) ?_
  refine zl_iaddn dL_law_232 ?_
  refine zl_sld dL_law_233 rfl (show 6 * t + 4 < L by omega) (by omega) ?_
  refine zl_aload_s (j := 3) dL_law_234 rfl ?_
  refine zl_iload_n (j := 0) dL_law_235 rfl ?_
  refine zl_iconst (v := nI 5) dL_law_236 (by decide) ?_
  refine zl_iaddn dL_law_237 ?_
  refine zl_sld dL_law_238 rfl (show 6 * t + 5 < L by omega) (by omega) ?_
  refine zl_invV (k2 := 0) (k3 := 0) (n2 := 0) (n3 := 0) (args2 := [.inl (xs (6 * t + 1)), .inl (xs (6 * t + 2)), .inl (xs (6 * t + 3)), .inl (xs (6 * t + 4)), .inl (xs (6 * t + 5))]) (stk := [.inl (.inl r)]) (i := 134) (ci := 5) dL_law_239 okX5_bid ml_L_27 hm.i hm.k (by decide) rfl hdd rfl (Nat.le_of_ble_eq_true rfl) rfl rfl rfl hd ?_
  refine zl_icmp_eq (tgt := 718) dL_law_242 (by decide) (fun _ => ?_) (fun z => absurd rfl z)
  exact lw_tail kk
theorem lw_setFine {b L : Nat} {xs : Nat → Int32} {sh : Sh} {M M1 M2 : Mem} {t : Nat} {r : Int32} {dc dd : Nat} (hs : IsSH sh 0) (hm : IsMo sh 134) (hL : L ≤ 3072) (ht : 6 * t + 6 ≤ L) (hdc : dc ≤ 8) (hdd : dd ≤ 8) (hc : Calls mX4_setFine dc 0 0 [.inr (some 0), .inl (xs (6 * t + 1))] sh M (some (.inl r)) sh M1) (hd : Calls mX5_setFine dd 0 0 [.inr (some 134), .inl (xs (6 * t + 1))] sh M1 (some (.inl r)) sh M2) (kk : LWP b L xs 0 0 18 (lws (t + 1)) [] sh M2) : LWP b L xs 0 0 247 (lws t) [] sh M := by
  refine zl_aload_n (j := 2) dL_law_247 rfl ?_
  refine zl_aload_s (j := 3) dL_law_248 rfl ?_
  refine zl_iload_n (j := 0) dL_law_249 rfl ?_
  refine zl_iconst (v := nI 1) dL_law_250 (by decide) ?_
  refine zl_iaddn dL_law_251 ?_
  refine zl_sld dL_law_252 rfl (show 6 * t + 1 < L by omega) (by omega) ?_
  refine zl_invV (k2 := 0) (k3 := 0) (n2 := 0) (n3 := 0) (args2 := [.inl (xs (6 * t + 1))]) (stk := []) (i := 0) (ci := 4) dL_law_253 okX4_setFine ml_L_28 hs.i hs.k (by decide) rfl hdc rfl (Nat.zero_le 8) rfl rfl rfl hc ?_
  refine zl_aload_n (j := 1) dL_law_256 rfl ?_
  refine zl_aload_s (j := 3) dL_law_257 rfl ?_
  refine zl_iload_n (j := 0) dL_law_258 rfl ?_
  refine zl_iconst (v := nI 1) dL_law_259 (by decide) ?_
  refine zl_iaddn dL_law_260 ?_
  refine zl_sld dL_law_261 rfl (show 6 * t + 1 < L by omega) (by omega) ?_
  refine zl_invV (k2 := 0) (k3 := 0) (n2 := 0) (n3 := 0) (args2 := [.inl (xs (6 * t + 1))]) (stk := [.inl (.inl r)]) (i := 134) (ci := 5) dL_law_262 okX5_setFine ml_L_31 hm.i hm.k (by decide) rfl hdd rfl (Nat.le_of_ble_eq_true rfl) rfl rfl rfl hd ?_
  refine zl_icmp_eq (tgt := 718) dL_law_265 (by decide) (fun _ => ?_) (fun z => absurd rfl z)
  exact lw_tail kk
theorem lw_settle {b L : Nat} {xs : Nat → Int32} {sh : Sh} {M M1 M2 : Mem} {t : Nat} {r : Int32} {dc dd : Nat} (hs : IsSH sh 0) (hm : IsMo sh 134) (hL : L ≤ 3072) (ht : 6 * t + 6 ≤ L) (hdc : dc ≤ 8) (hdd : dd ≤ 8) (hc : Calls mX4_settle dc 0 0 [.inr (some 0)] sh M (some (.inl r)) sh M1) (hd : Calls mX5_settle dd 0 0 [.inr (some 134)] sh M1 (some (.inl r)) sh M2) (kk : LWP b L xs 0 0 18 (lws (t + 1)) [] sh M2) : LWP b L xs 0 0 270 (lws t) [] sh M := by
  refine zl_aload_n (j := 2) dL_law_270 rfl ?_
  refine zl_invV (k2 := 0) (k3 := 0) (n2 := 0) (n3 := 0) (args2 := []) (stk := []) (i := 0) (ci := 4) dL_law_271 okX4_settle ml_L_32 hs.i hs.k (by decide) rfl hdc rfl (Nat.zero_le 8) rfl rfl rfl hc ?_
  refine zl_aload_n (j := 1) dL_law_274 rfl ?_
  refine zl_invV (k2 := 0) (k3 := 0) (n2 := 0) (n3 := 0) (args2 := []) (stk := [.inl (.inl r)]) (i := 134) (ci := 5) dL_law_275 okX5_settle ml_L_36 hm.i hm.k (by decide) rfl hdd rfl (Nat.le_of_ble_eq_true rfl) rfl rfl rfl hd ?_
  refine zl_icmp_eq (tgt := 718) dL_law_278 (by decide) (fun _ => ?_) (fun z => absurd rfl z)
  exact lw_tail kk
theorem lw_breach {b L : Nat} {xs : Nat → Int32} {sh : Sh} {M M1 M2 : Mem} {t : Nat} {r : Int32} {dc dd : Nat} (hs : IsSH sh 0) (hm : IsMo sh 134) (hL : L ≤ 3072) (ht : 6 * t + 6 ≤ L) (hdc : dc ≤ 8) (hdd : dd ≤ 8) (hc : Calls mX4_breach dc 0 0 [.inr (some 0), .inl (xs (6 * t + 1)), .inl (xs (6 * t + 2)), .inl (xs (6 * t + 3))] sh M (some (.inl r)) sh M1) (hd : Calls mX5_breach dd 0 0 [.inr (some 134), .inl (xs (6 * t + 1)), .inl (xs (6 * t + 2)), .inl (xs (6 * t + 3))] sh M1 (some (.inl r)) sh M2) (kk : LWP b L xs 0 0 18 (lws (t + 1)) [] sh M2) : LWP b L xs 0 0 283 (lws t) [] sh M := by
  refine zl_aload_n (j := 2) dL_law_283 rfl ?_
  refine zl_aload_s (j := 3) dL_law_284 rfl ?_
  refine zl_iload_n (j := 0) dL_law_285 rfl ?_
  refine zl_iconst (v := nI 1) dL_law_286 (by decide) ?_
  refine zl_iaddn dL_law_287 ?_
  refine zl_sld dL_law_288 rfl (show 6 * t + 1 < L by omega) (by omega) ?_
  refine zl_aload_s (j := 3) dL_law_289 rfl ?_
  refine zl_iload_n (j := 0) dL_law_290 rfl ?_
  refine zl_iconst (v := nI 2) dL_law_291 (by decide) ?_
  refine zl_iaddn dL_law_292 ?_
  refine zl_sld dL_law_293 rfl (show 6 * t + 2 < L by omega) (by omega) ?_
  refine zl_aload_s (j := 3) dL_law_294 rfl ?_
  refine zl_iload_n (j := 0) dL_law_295 rfl ?_
  refine zl_iconst (v := nI 3) dL_law_296 (by decide) ?_
  refine zl_iaddn dL_law_297 ?_
  refine zl_sld dL_law_298 rfl (show 6 * t + 3 < L by omega) (by omega) ?_
  refine zl_invV (k2 := 0) (k3 := 0) (n2 := 0) (n3 := 0) (args2 := [.inl (xs (6 * t + 1)), .inl (xs (6 * t + 2)), .inl (xs (6 * t + 3))]) (stk := []) (i := 0) (ci := 4) dL_law_299 okX4_breach ml_L_37 hs.i hs.k (by decide) rfl hdc rfl (Nat.zero_le 8) rfl rfl rfl hc ?_
  refine zl_aload_n (j := 1) dL_law_302 rfl ?_
  refine zl_aload_s (j := 3) dL_law_303 rfl ?_
  refine zl_iload_n (j := 0) dL_law_304 rfl ?_
  refine zl_iconst (v := nI 1) dL_law_305 (by decide) ?_
  refine zl_iaddn dL_law_306 ?_
  refine zl_sld dL_law_307 rfl (show 6 * t + 1 < L by omega) (by omega) ?_
  refine zl_aload_s (j := 3) dL_law_308 rfl ?_
  refine zl_iload_n (j := 0) dL_law_309 rfl ?_
  refine zl_iconst (v := nI 2) dL_law_310 (by decide) ?_
  refine zl_iaddn dL_law_311 ?_
  refine zl_sld dL_law_312 rfl (show 6 * t + 2 < L by omega) (by omega) ?_
  refine zl_aload_s (j := 3) dL_law_313 rfl ?_
  refine zl_iload_n (j := 0) dL_law_314 rfl ?_
  refine zl_iconst (v := nI 3) dL_law_315 (by decide) ?_
  refine zl_iaddn dL_law_316 ?_
  refine zl_sld dL_law_317 rfl (show 6 * t + 3 < L by omega) (by omega) ?_
  refine zl_invV (k2 := 0) (k3 := 0) (n2 := 0) (n3 := 0) (args2 := [.inl (xs (6 * t + 1)), .inl (xs (6 * t + 2)), .inl (xs (6 * t + 3))]) (stk := [.inl (.inl r)]) (i := 134) (ci := 5) dL_law_318 okX5_breach ml_L_41 hm.i hm.k (by decide) rfl hdd rfl (Nat.le_of_ble_eq_true rfl) rfl rfl rfl hd ?_
  refine zl_icmp_eq (tgt := 718) dL_law_321 (by decide) (fun _ => ?_) (fun z => absurd rfl z)
  exact lw_tail kk
theorem lw_undo {b L : Nat} {xs : Nat → Int32} {sh : Sh} {M M1 M2 : Mem} {t : Nat} {r : Int32} {dc dd : Nat} (hs : IsSH sh 0) (hm : IsMo sh 134) (hL : L ≤ 3072) (ht : 6 * t + 6 ≤ L) (hdc : dc ≤ 8) (hdd : dd ≤ 8) (hc : Calls mX4_undo dc 0 0 [.inr (some 0)] sh M (some (.inl r)) sh M1) (hd : Calls mX5_undo dd 0 0 [.inr (some 134)] sh M1 (some (.inl r)) sh M2) (kk : LWP b L xs 0 0 18 (lws (t + 1)) [] sh M2) : LWP b L xs 0 0 326 (lws t) [] sh M := by
  refine zl_aload_n (j := 2) dL_law_326 rfl ?_
  refine zl_invV (k2 := 0) (k3 := 0) (n2 := 0) (n3 := 0) (args2 := []) (stk := []) (i := 0) (ci := 4) dL_law_327 okX4_undo ml_L_42 hs.i hs.k (by decide) rfl hdc rfl (Nat.zero_le 8) rfl rfl rfl hc ?_
  refine zl_aload_n (j := 1) dL_law_330 rfl ?_
  refine zl_invV (k2 := 0) (k3 := 0) (n2 := 0) (n3 := 0) (args2 := []) (stk := [.inl (.inl r)]) (i := 134) (ci := 5) dL_law_331 okX5_undo ml_L_45 hm.i hm.k (by decide) rfl hdd rfl (Nat.le_of_ble_eq_true rfl) rfl rfl rfl hd ?_
  refine zl_icmp_eq (tgt := 718) dL_law_334 (by decide) (fun _ => ?_) (fun z => absurd rfl z)
  exact lw_tail kk
theorem lw_append {b L : Nat} {xs : Nat → Int32} {sh : Sh} {M M1 M2 : Mem} {t : Nat} {r : Int32} {dc dd : Nat} (hs : IsSH sh 0) (hm : IsMo sh 134) (hL : L ≤ 3072) (ht : 6 * t + 6 ≤ L) (hdc : dc ≤ 8) (hdd : dd ≤ 8) (hc : Calls mX4_append dc 0 0 [.inr (some 0), .inl (xs (6 * t + 1))] sh M (some (.inl r)) sh M1) (hd : Calls mX5_append dd 0 0 [.inr (some 134), .inl (xs (6 * t + 1))] sh M1 (some (.inl r)) sh M2) (kk : LWP b L xs 0 0 18 (lws (t + 1)) [] sh M2) : LWP b L xs 0 0 339 (lws t) [] sh M := by
  refine zl_aload_n (j := 2) dL_law_339 rfl ?_
  refine zl_aload_s (j := 3) dL_law_340 rfl ?_
  refine zl_iload_n (j := 0) dL_law_341 rfl ?_
  refine zl_iconst (v := nI 1) dL_law_342 (by decide) ?_
  refine zl_iaddn dL_law_343 ?_
  refine zl_sld dL_law_344 rfl (show 6 * t + 1 < L by omega) (by omega) ?_
  refine zl_invV (k2 := 0) (k3 := 0) (n2 := 0) (n3 := 0) (args2 := [.inl (xs (6 * t + 1))]) (stk := []) (i := 0) (ci := 4) dL_law_345 okX4_append ml_L_46 hs.i hs.k (by decide) rfl hdc rfl (Nat.zero_le 8) rfl rfl rfl hc ?_
  refine zl_aload_n (j := 1) dL_law_348 rfl ?_
  refine zl_aload_s (j := 3) dL_law_349 rfl ?_
  refine zl_iload_n (j := 0) dL_law_350 rfl ?_
  refine zl_iconst (v := nI 1) dL_law_351 (by decide) ?_
  refine zl_iaddn dL_law_352 ?_
  refine zl_sld dL_law_353 rfl (show 6 * t + 1 < L by omega) (by omega) ?_
  refine zl_invV (k2 := 0) (k3 := 0) (n2 := 0) (n3 := 0) (args2 := [.inl (xs (6 * t + 1))]) (stk := [.inl (.inl r)]) (i := 134) (ci := 5) dL_law_354 okX5_append ml_L_49 hm.i hm.k (by decide) rfl hdd rfl (Nat.le_of_ble_eq_true rfl) rfl rfl rfl hd ?_
  refine zl_icmp_eq (tgt := 718) dL_law_357 (by decide) (fun _ => ?_) (fun z => absurd rfl z)
  exact lw_tail kk
theorem lw_clearText {b L : Nat} {xs : Nat → Int32} {sh : Sh} {M M1 M2 : Mem} {t : Nat} {r : Int32} {dc dd : Nat} (hs : IsSH sh 0) (hm : IsMo sh 134) (hL : L ≤ 3072) (ht : 6 * t + 6 ≤ L) (hdc : dc ≤ 8) (hdd : dd ≤ 8) (hc : Calls mX4_clearText dc 0 0 [.inr (some 0)] sh M (some (.inl r)) sh M1) (hd : Calls mX5_clearText dd 0 0 [.inr (some 134)] sh M1 (some (.inl r)) sh M2) (kk : LWP b L xs 0 0 18 (lws (t + 1)) [] sh M2) : LWP b L xs 0 0 362 (lws t) [] sh M := by
  refine zl_aload_n (j := 2) dL_law_362 rfl ?_
  refine zl_invV (k2 := 0) (k3 := 0) (n2 := 0) (n3 := 0) (args2 := []) (stk := []) (i := 0) (ci := 4) dL_law_363 okX4_clearText ml_L_50 hs.i hs.k (by decide) rfl hdc rfl (Nat.zero_le 8) rfl rfl rfl hc ?_
  refine zl_aload_n (j := 1) dL_law_366 rfl ?_
  refine zl_invV (k2 := 0) (k3 := 0) (n2 := 0) (n3 := 0) (args2 := []) (stk := [.inl (.inl r)]) (i := 134) (ci := 5) dL_law_367 okX5_clearText ml_L_53 hm.i hm.k (by decide) rfl hdd rfl (Nat.le_of_ble_eq_true rfl) rfl rfl rfl hd ?_
  refine zl_icmp_eq (tgt := 718) dL_law_370 (by decide) (fun _ => ?_) (fun z => absurd rfl z)
  exact lw_tail kk
theorem lw_run {b L : Nat} {xs : Nat → Int32} {sh : Sh} {M M1 M2 : Mem} {t : Nat} {r : Int32} {dc dd : Nat} (hs : IsSH sh 0) (hm : IsMo sh 134) (hL : L ≤ 3072) (ht : 6 * t + 6 ≤ L) (hdc : dc ≤ 8) (hdd : dd ≤ 8) (hc : Calls mX4_run dc 0 0 [.inr (some 0), .inl (xs (6 * t + 1))] sh M (some (.inl r)) sh M1) (hd : Calls mX5_run dd 0 0 [.inr (some 134), .inl (xs (6 * t + 1))] sh M1 (some (.inl r)) sh M2) (kk : LWP b L xs 0 0 18 (lws (t + 1)) [] sh M2) : LWP b L xs 0 0 375 (lws t) [] sh M := by
  refine zl_aload_n (j := 2) dL_law_375 rfl ?_
  refine zl_aload_s (j := 3) dL_law_376 rfl ?_
  refine zl_iload_n (j := 0) dL_law_377 rfl ?_
  refine zl_iconst (v := nI 1) dL_law_378 (by decide) ?_
  refine zl_iaddn dL_law_379 ?_
  refine zl_sld dL_law_380 rfl (show 6 * t + 1 < L by omega) (by omega) ?_
  refine zl_invV (k2 := 0) (k3 := 0) (n2 := 0) (n3 := 0) (args2 := [.inl (xs (6 * t + 1))]) (stk := []) (i := 0) (ci := 4) dL_law_381 okX4_run ml_L_54 hs.i hs.k (by decide) rfl hdc rfl (Nat.zero_le 8) rfl rfl rfl hc ?_
  refine zl_aload_n (j := 1) dL_law_384 rfl ?_
  refine zl_aload_s (j := 3) dL_law_385 rfl ?_
  refine zl_iload_n (j := 0) dL_law_386 rfl ?_
  refine zl_iconst (v := nI 1) dL_law_387 (by decide) ?_
  refine zl_iaddn dL_law_388 ?_
  refine zl_sld dL_law_389 rfl (show 6 * t + 1 < L by omega) (by omega) ?_
  refine zl_invV (k2 := 0) (k3 := 0) (n2 := 0) (n3 := 0) (args2 := [.inl (xs (6 * t + 1))]) (stk := [.inl (.inl r)]) (i := 134) (ci := 5) dL_law_390 okX5_run ml_L_57 hm.i hm.k (by decide) rfl hdd rfl (Nat.le_of_ble_eq_true rfl) rfl rfl rfl hd ?_
  refine zl_icmp_eq (tgt := 718) dL_law_393 (by decide) (fun _ => ?_) (fun z => absurd rfl z)
  exact lw_tail kk
theorem lw_failure {b L : Nat} {xs : Nat → Int32} {sh : Sh} {M M1 M2 : Mem} {t : Nat} {r : Int32} {dc dd : Nat} (hs : IsSH sh 0) (hm : IsMo sh 134) (hL : L ≤ 3072) (ht : 6 * t + 6 ≤ L) (hdc : dc ≤ 8) (hdd : dd ≤ 8) (hc : Calls mX4_failure dc 0 0 [.inr (some 0), .inl (xs (6 * t + 1))] sh M (some (.inl r)) sh M1) (hd : Calls mX5_failure dd 0 0 [.inr (some 134), .inl (xs (6 * t + 1))] sh M1 (some (.inl r)) sh M2) (kk : LWP b L xs 0 0 18 (lws (t + 1)) [] sh M2) : LWP b L xs 0 0 398 (lws t) [] sh M := by
  refine zl_aload_n (j := 2) dL_law_398 rfl ?_
  refine zl_aload_s (j := 3) dL_law_399 rfl ?_
  refine zl_iload_n (j := 0) dL_law_400 rfl ?_
  refine zl_iconst (v := nI 1) dL_law_401 (by decide) ?_
  refine zl_iaddn dL_law_402 ?_
  refine zl_sld dL_law_403 rfl (show 6 * t + 1 < L by omega) (by omega) ?_
  refine zl_invV (k2 := 0) (k3 := 0) (n2 := 0) (n3 := 0) (args2 := [.inl (xs (6 * t + 1))]) (stk := []) (i := 0) (ci := 4) dL_law_404 okX4_failure ml_L_58 hs.i hs.k (by decide) rfl hdc rfl (Nat.zero_le 8) rfl rfl rfl hc ?_
  refine zl_aload_n (j := 1) dL_law_407 rfl ?_
  refine zl_aload_s (j := 3) dL_law_408 rfl ?_
  refine zl_iload_n (j := 0) dL_law_409 rfl ?_
  refine zl_iconst (v := nI 1) dL_law_410 (by decide) ?_
  refine zl_iaddn dL_law_411 ?_
  refine zl_sld dL_law_412 rfl (show 6 * t + 1 < L by omega) (by omega) ?_
  refine zl_invV (k2 := 0) (k3 := 0) (n2 := 0) (n3 := 0) (args2 := [.inl (xs (6 * t + 1))]) (stk := [.inl (.inl r)]) (i := 134) (ci := 5) dL_law_413 okX5_failure ml_L_61 hm.i hm.k (by decide) rfl hdd rfl (Nat.le_of_ble_eq_true rfl) rfl rfl rfl hd ?_
  refine zl_icmp_eq (tgt := 718) dL_law_416 (by decide) (fun _ => ?_) (fun z => absurd rfl z)
  exact lw_tail kk
theorem lw_count {b L : Nat} {xs : Nat → Int32} {sh : Sh} {M M1 M2 : Mem} {t : Nat} {r : Int32} {dc dd : Nat} (hs : IsSH sh 0) (hm : IsMo sh 134) (hL : L ≤ 3072) (ht : 6 * t + 6 ≤ L) (hdc : dc ≤ 8) (hdd : dd ≤ 8) (hc : Calls mX4_count dc 0 0 [.inr (some 0), .inl (xs (6 * t + 1))] sh M (some (.inl r)) sh M1) (hd : Calls mX5_count dd 0 0 [.inr (some 134), .inl (xs (6 * t + 1))] sh M1 (some (.inl r)) sh M2) (kk : LWP b L xs 0 0 18 (lws (t + 1)) [] sh M2) : LWP b L xs 0 0 421 (lws t) [] sh M := by
  refine zl_aload_n (j := 2) dL_law_421 rfl ?_
  refine zl_aload_s (j := 3) dL_law_422 rfl ?_
  refine zl_iload_n (j := 0) dL_law_423 rfl ?_
  refine zl_iconst (v := nI 1) dL_law_424 (by decide) ?_
  refine zl_iaddn dL_law_425 ?_
  refine zl_sld dL_law_426 rfl (show 6 * t + 1 < L by omega) (by omega) ?_
  refine zl_invV (k2 := 0) (k3 := 0) (n2 := 0) (n3 := 0) (args2 := [.inl (xs (6 * t + 1))]) (stk := []) (i := 0) (ci := 4) dL_law_427 okX4_count ml_L_62 hs.i hs.k (by decide) rfl hdc rfl (Nat.zero_le 8) rfl rfl rfl hc ?_
  refine zl_aload_n (j := 1) dL_law_430 rfl ?_
  refine zl_aload_s (j := 3) dL_law_431 rfl ?_
  refine zl_iload_n (j := 0) dL_law_432 rfl ?_
  refine zl_iconst (v := nI 1) dL_law_433 (by decide) ?_
  refine zl_iaddn dL_law_434 ?_
  refine zl_sld dL_law_435 rfl (show 6 * t + 1 < L by omega) (by omega) ?_
  refine zl_invV (k2 := 0) (k3 := 0) (n2 := 0) (n3 := 0) (args2 := [.inl (xs (6 * t + 1))]) (stk := [.inl (.inl r)]) (i := 134) (ci := 5) dL_law_436 okX5_count ml_L_65 hm.i hm.k (by decide) rfl hdd rfl (Nat.le_of_ble_eq_true rfl) rfl rfl rfl hd ?_
  refine zl_icmp_eq (tgt := 718) dL_law_439 (by decide) (fun _ => ?_) (fun z => absurd rfl z)
  exact lw_tail kk
theorem lw_person {b L : Nat} {xs : Nat → Int32} {sh : Sh} {M M1 M2 : Mem} {t : Nat} {r : Int32} {dc dd : Nat} (hs : IsSH sh 0) (hm : IsMo sh 134) (hL : L ≤ 3072) (ht : 6 * t + 6 ≤ L) (hdc : dc ≤ 8) (hdd : dd ≤ 8) (hc : Calls mX4_person dc 0 0 [.inr (some 0), .inl (xs (6 * t + 1)), .inl (xs (6 * t + 2))] sh M (some (.inl r)) sh M1) (hd : Calls mX5_person dd 0 0 [.inr (some 134), .inl (xs (6 * t + 1)), .inl (xs (6 * t + 2))] sh M1 (some (.inl r)) sh M2) (kk : LWP b L xs 0 0 18 (lws (t + 1)) [] sh M2) : LWP b L xs 0 0 444 (lws t) [] sh M := by
  refine zl_aload_n (j := 2) dL_law_444 rfl ?_
  refine zl_aload_s (j := 3) dL_law_445 rfl ?_
  refine zl_iload_n (j := 0) dL_law_446 rfl ?_
  refine zl_iconst (v := nI 1) dL_law_447 (by decide) ?_
  refine zl_iaddn dL_law_448 ?_
  refine zl_sld dL_law_449 rfl (show 6 * t + 1 < L by omega) (by omega) ?_
  refine zl_aload_s (j := 3) dL_law_450 rfl ?_
  refine zl_iload_n (j := 0) dL_law_451 rfl ?_
  refine zl_iconst (v := nI 2) dL_law_452 (by decide) ?_
  refine zl_iaddn dL_law_453 ?_
  refine zl_sld dL_law_454 rfl (show 6 * t + 2 < L by omega) (by omega) ?_
  refine zl_invV (k2 := 0) (k3 := 0) (n2 := 0) (n3 := 0) (args2 := [.inl (xs (6 * t + 1)), .inl (xs (6 * t + 2))]) (stk := []) (i := 0) (ci := 4) dL_law_455 okX4_person ml_L_66 hs.i hs.k (by decide) rfl hdc rfl (Nat.zero_le 8) rfl rfl rfl hc ?_
  refine zl_aload_n (j := 1) dL_law_458 rfl ?_
  refine zl_aload_s (j := 3) dL_law_459 rfl ?_
  refine zl_iload_n (j := 0) dL_law_460 rfl ?_
  refine zl_iconst (v := nI 1) dL_law_461 (by decide) ?_
  refine zl_iaddn dL_law_462 ?_
  refine zl_sld dL_law_463 rfl (show 6 * t + 1 < L by omega) (by omega) ?_
  refine zl_aload_s (j := 3) dL_law_464 rfl ?_
  refine zl_iload_n (j := 0) dL_law_465 rfl ?_
  refine zl_iconst (v := nI 2) dL_law_466 (by decide) ?_
  refine zl_iaddn dL_law_467 ?_
  refine zl_sld dL_law_468 rfl (show 6 * t + 2 < L by omega) (by omega) ?_
  refine zl_invV (k2 := 0) (k3 := 0) (n2 := 0) (n3 := 0) (args2 := [.inl (xs (6 * t + 1)), .inl (xs (6 * t + 2))]) (stk := [.inl (.inl r)]) (i := 134) (ci := 5) dL_law_469 okX5_person ml_L_69 hm.i hm.k (by decide) rfl hdd rfl (Nat.le_of_ble_eq_true rfl) rfl rfl rfl hd ?_
  refine zl_icmp_eq (tgt := 718) dL_law_472 (by decide) (fun _ => ?_) (fun z => absurd rfl z)
  exact lw_tail kk
theorem lw_slot {b L : Nat} {xs : Nat → Int32} {sh : Sh} {M M1 M2 : Mem} {t : Nat} {r : Int32} {dc dd : Nat} (hs : IsSH sh 0) (hm : IsMo sh 134) (hL : L ≤ 3072) (ht : 6 * t + 6 ≤ L) (hdc : dc ≤ 8) (hdd : dd ≤ 8) (hc : Calls mX4_slot dc 0 0 [.inr (some 0), .inl (xs (6 * t + 1)), .inl (xs (6 * t + 2)), .inl (xs (6 * t + 3))] sh M (some (.inl r)) sh M1) (hd : Calls mX5_slot dd 0 0 [.inr (some 134), .inl (xs (6 * t + 1)), .inl (xs (6 * t + 2)), .inl (xs (6 * t + 3))] sh M1 (some (.inl r)) sh M2) (kk : LWP b L xs 0 0 18 (lws (t + 1)) [] sh M2) : LWP b L xs 0 0 477 (lws t) [] sh M := by
  refine zl_aload_n (j := 2) dL_law_477 rfl ?_
  refine zl_aload_s (j := 3) dL_law_478 rfl ?_
  refine zl_iload_n (j := 0) dL_law_479 rfl ?_
  refine zl_iconst (v := nI 1) dL_law_480 (by decide) ?_
  refine zl_iaddn dL_law_481 ?_
  refine zl_sld dL_law_482 rfl (show 6 * t + 1 < L by omega) (by omega) ?_
  refine zl_aload_s (j := 3) dL_law_483 rfl ?_
  refine zl_iload_n (j := 0) dL_law_484 rfl ?_
  refine zl_iconst (v := nI 2) dL_law_485 (by decide) ?_
  refine zl_iaddn dL_law_486 ?_
  refine zl_sld dL_law_487 rfl (show 6 * t + 2 < L by omega) (by omega) ?_
  refine zl_aload_s (j := 3) dL_law_488 rfl ?_
  refine zl_iload_n (j := 0) dL_law_489 rfl ?_
  refine zl_iconst (v := nI 3) dL_law_490 (by decide) ?_
  refine zl_iaddn dL_law_491 ?_
  refine zl_sld dL_law_492 rfl (show 6 * t + 3 < L by omega) (by omega) ?_
  refine zl_invV (k2 := 0) (k3 := 0) (n2 := 0) (n3 := 0) (args2 := [.inl (xs (6 * t + 1)), .inl (xs (6 * t + 2)), .inl (xs (6 * t + 3))]) (stk := []) (i := 0) (ci := 4) dL_law_493 okX4_slot ml_L_70 hs.i hs.k (by decide) rfl hdc rfl (Nat.zero_le 8) rfl rfl rfl hc ?_
  refine zl_aload_n (j := 1) dL_law_496 rfl ?_
  refine zl_aload_s (j := 3) dL_law_497 rfl ?_
  refine zl_iload_n (j := 0) dL_law_498 rfl ?_
  refine zl_iconst (v := nI 1) dL_law_499 (by decide) ?_
  refine zl_iaddn dL_law_500 ?_
  refine zl_sld dL_law_501 rfl (show 6 * t + 1 < L by omega) (by omega) ?_
  refine zl_aload_s (j := 3) dL_law_502 rfl ?_
  refine zl_iload_n (j := 0) dL_law_503 rfl ?_
  refine zl_iconst (v := nI 2) dL_law_504 (by decide) ?_
  refine zl_iaddn dL_law_505 ?_
  refine zl_sld dL_law_506 rfl (show 6 * t + 2 < L by omega) (by omega) ?_
  refine zl_aload_s (j := 3) dL_law_507 rfl ?_
  refine zl_iload_n (j := 0) dL_law_508 rfl ?_
  refine zl_iconst (v := nI 3) dL_law_509 (by decide) ?_
  refine zl_iaddn dL_law_510 ?_
  refine zl_sld dL_law_511 rfl (show 6 * t + 3 < L by omega) (by omega) ?_
  refine zl_invV (k2 := 0) (k3 := 0) (n2 := 0) (n3 := 0) (args2 := [.inl (xs (6 * t + 1)), .inl (xs (6 * t + 2)), .inl (xs (6 * t + 3))]) (stk := [.inl (.inl r)]) (i := 134) (ci := 5) dL_law_512 okX5_slot ml_L_73 hm.i hm.k (by decide) rfl hdd rfl (Nat.le_of_ble_eq_true rfl) rfl rfl rfl hd ?_
  refine zl_icmp_eq (tgt := 718) dL_law_515 (by decide) (fun _ => ?_) (fun z => absurd rfl z)
  exact lw_tail kk
theorem lw_bidOf {b L : Nat} {xs : Nat → Int32} {sh : Sh} {M M1 M2 : Mem} {t : Nat} {r : Int32} {dc dd : Nat} (hs : IsSH sh 0) (hm : IsMo sh 134) (hL : L ≤ 3072) (ht : 6 * t + 6 ≤ L) (hdc : dc ≤ 8) (hdd : dd ≤ 8) (hc : Calls mX4_bidOf dc 0 0 [.inr (some 0), .inl (xs (6 * t + 1)), .inl (xs (6 * t + 2)), .inl (xs (6 * t + 3))] sh M (some (.inl r)) sh M1) (hd : Calls mX5_bidOf dd 0 0 [.inr (some 134), .inl (xs (6 * t + 1)), .inl (xs (6 * t + 2)), .inl (xs (6 * t + 3))] sh M1 (some (.inl r)) sh M2) (kk : LWP b L xs 0 0 18 (lws (t + 1)) [] sh M2) : LWP b L xs 0 0 520 (lws t) [] sh M := by
  refine zl_aload_n (j := 2) dL_law_520 rfl ?_
  refine zl_aload_s (j := 3) dL_law_521 rfl ?_
  refine zl_iload_n (j := 0) dL_law_522 rfl ?_
  refine zl_iconst (v := nI 1) dL_law_523 (by decide) ?_
  refine zl_iaddn dL_law_524 ?_
  refine zl_sld dL_law_525 rfl (show 6 * t + 1 < L by omega) (by omega) ?_
  refine zl_aload_s (j := 3) dL_law_526 rfl ?_
  refine zl_iload_n (j := 0) dL_law_527 rfl ?_
  refine zl_iconst (v := nI 2) dL_law_528 (by decide) ?_
  refine zl_iaddn dL_law_529 ?_
  refine zl_sld dL_law_530 rfl (show 6 * t + 2 < L by omega) (by omega) ?_
  refine zl_aload_s (j := 3) dL_law_531 rfl ?_
  refine zl_iload_n (j := 0) dL_law_532 rfl ?_
  refine zl_iconst (v := nI 3) dL_law_533 (by decide) ?_
  refine zl_iaddn dL_law_534 ?_
  refine zl_sld dL_law_535 rfl (show 6 * t + 3 < L by omega) (by omega) ?_
  refine zl_invV (k2 := 0) (k3 := 0) (n2 := 0) (n3 := 0) (args2 := [.inl (xs (6 * t + 1)), .inl (xs (6 * t + 2)), .inl (xs (6 * t + 3))]) (stk := []) (i := 0) (ci := 4) dL_law_536 okX4_bidOf ml_L_74 hs.i hs.k (by decide) rfl hdc rfl (Nat.zero_le 8) rfl rfl rfl hc ?_
  refine zl_aload_n (j := 1) dL_law_539 rfl ?_
  refine zl_aload_s (j := 3) dL_law_540 rfl ?_
  refine zl_iload_n (j := 0) dL_law_541 rfl ?_
  refine zl_iconst (v := nI 1) dL_law_542 (by decide) ?_
  refine zl_iaddn dL_law_543 ?_
  refine zl_sld dL_law_544 rfl (show 6 * t + 1 < L by omega) (by omega) ?_
  refine zl_aload_s (j := 3) dL_law_545 rfl ?_
  refine zl_iload_n (j := 0) dL_law_546 rfl ?_
  refine zl_iconst (v := nI 2) dL_law_547 (by decide) ?_
  refine zl_iaddn dL_law_548 ?_
  refine zl_sld dL_law_549 rfl (show 6 * t + 2 < L by omega) (by omega) ?_
  refine zl_aload_s (j := 3) dL_law_550 rfl ?_
  refine zl_iload_n (j := 0) dL_law_551 rfl ?_
  refine zl_iconst (v := nI 3) dL_law_552 (by decide) ?_
  refine zl_iaddn dL_law_553 ?_
  refine zl_sld dL_law_554 rfl (show 6 * t + 3 < L by omega) (by omega) ?_
  refine zl_invV (k2 := 0) (k3 := 0) (n2 := 0) (n3 := 0) (args2 := [.inl (xs (6 * t + 1)), .inl (xs (6 * t + 2)), .inl (xs (6 * t + 3))]) (stk := [.inl (.inl r)]) (i := 134) (ci := 5) dL_law_555 okX5_bidOf ml_L_77 hm.i hm.k (by decide) rfl hdd rfl (Nat.le_of_ble_eq_true rfl) rfl rfl rfl hd ?_
  refine zl_icmp_eq (tgt := 718) dL_law_558 (by decide) (fun _ => ?_) (fun z => absurd rfl z)
  exact lw_tail kk
theorem lw_fund {b L : Nat} {xs : Nat → Int32} {sh : Sh} {M M1 M2 : Mem} {t : Nat} {r : Int32} {dc dd : Nat} (hs : IsSH sh 0) (hm : IsMo sh 134) (hL : L ≤ 3072) (ht : 6 * t + 6 ≤ L) (hdc : dc ≤ 8) (hdd : dd ≤ 8) (hc : Calls mX4_fund dc 0 0 [.inr (some 0), .inl (xs (6 * t + 1))] sh M (some (.inl r)) sh M1) (hd : Calls mX5_fund dd 0 0 [.inr (some 134), .inl (xs (6 * t + 1))] sh M1 (some (.inl r)) sh M2) (kk : LWP b L xs 0 0 18 (lws (t + 1)) [] sh M2) : LWP b L xs 0 0 563 (lws t) [] sh M := by
  refine zl_aload_n (j := 2) dL_law_563 rfl ?_
  refine zl_aload_s (j := 3) dL_law_564 rfl ?_
  refine zl_iload_n (j := 0) dL_law_565 rfl ?_
  refine zl_iconst (v := nI 1) dL_law_566 (by decide) ?_
  refine zl_iaddn dL_law_567 ?_
  refine zl_sld dL_law_568 rfl (show 6 * t + 1 < L by omega) (by omega) ?_
  refine zl_invV (k2 := 0) (k3 := 0) (n2 := 0) (n3 := 0) (args2 := [.inl (xs (6 * t + 1))]) (stk := []) (i := 0) (ci := 4) dL_law_569 okX4_fund ml_L_78 hs.i hs.k (by decide) rfl hdc rfl (Nat.zero_le 8) rfl rfl rfl hc ?_
  refine zl_aload_n (j := 1) dL_law_572 rfl ?_
  refine zl_aload_s (j := 3) dL_law_573 rfl ?_
  refine zl_iload_n (j := 0) dL_law_574 rfl ?_
  refine zl_iconst (v := nI 1) dL_law_575 (by decide) ?_
  refine zl_iaddn dL_law_576 ?_
  refine zl_sld dL_law_577 rfl (show 6 * t + 1 < L by omega) (by omega) ?_
  refine zl_invV (k2 := 0) (k3 := 0) (n2 := 0) (n3 := 0) (args2 := [.inl (xs (6 * t + 1))]) (stk := [.inl (.inl r)]) (i := 134) (ci := 5) dL_law_578 okX5_fund ml_L_81 hm.i hm.k (by decide) rfl hdd rfl (Nat.le_of_ble_eq_true rfl) rfl rfl rfl hd ?_
  refine zl_icmp_eq (tgt := 718) dL_law_581 (by decide) (fun _ => ?_) (fun z => absurd rfl z)
  exact lw_tail kk
theorem lw_winner {b L : Nat} {xs : Nat → Int32} {sh : Sh} {M M1 M2 : Mem} {t : Nat} {r : Int32} {dc dd : Nat} (hs : IsSH sh 0) (hm : IsMo sh 134) (hL : L ≤ 3072) (ht : 6 * t + 6 ≤ L) (hdc : dc ≤ 8) (hdd : dd ≤ 8) (hc : Calls mX4_winner dc 0 0 [.inr (some 0), .inl (xs (6 * t + 1)), .inl (xs (6 * t + 2))] sh M (some (.inl r)) sh M1) (hd : Calls mX5_winner dd 0 0 [.inr (some 134), .inl (xs (6 * t + 1)), .inl (xs (6 * t + 2))] sh M1 (some (.inl r)) sh M2) (kk : LWP b L xs 0 0 18 (lws (t + 1)) [] sh M2) : LWP b L xs 0 0 586 (lws t) [] sh M := by
  refine zl_aload_n (j := 2) dL_law_586 rfl ?_
  refine zl_aload_s (j := 3) dL_law_587 rfl ?_
  refine zl_iload_n (j := 0) dL_law_588 rfl ?_
  refine zl_iconst (v := nI 1) dL_law_589 (by decide) ?_
  refine zl_iaddn dL_law_590 ?_
  refine zl_sld dL_law_591 rfl (show 6 * t + 1 < L by omega) (by omega) ?_
  refine zl_aload_s (j := 3) dL_law_592 rfl ?_
  refine zl_iload_n (j := 0) dL_law_593 rfl ?_
  refine zl_iconst (v := nI 2) dL_law_594 (by decide) ?_
  refine zl_iaddn dL_law_595 ?_
  refine zl_sld dL_law_596 rfl (show 6 * t + 2 < L by omega) (by omega) ?_
  refine zl_invV (k2 := 0) (k3 := 0) (n2 := 0) (n3 := 0) (args2 := [.inl (xs (6 * t + 1)), .inl (xs (6 * t + 2))]) (stk := []) (i := 0) (ci := 4) dL_law_597 okX4_winner ml_L_82 hs.i hs.k (by decide) rfl hdc rfl (Nat.zero_le 8) rfl rfl rfl hc ?_
  refine zl_aload_n (j := 1) dL_law_600 rfl ?_
  refine zl_aload_s (j := 3) dL_law_601 rfl ?_
  refine zl_iload_n (j := 0) dL_law_602 rfl ?_
  refine zl_iconst (v := nI 1) dL_law_603 (by decide) ?_
  refine zl_iaddn dL_law_604 ?_
  refine zl_sld dL_law_605 rfl (show 6 * t + 1 < L by omega) (by omega) ?_
  refine zl_aload_s (j := 3) dL_law_606 rfl ?_
  refine zl_iload_n (j := 0) dL_law_607 rfl ?_
  refine zl_iconst (v := nI 2) dL_law_608 (by decide) ?_
  refine zl_iaddn dL_law_609 ?_
  refine zl_sld dL_law_610 rfl (show 6 * t + 2 < L by omega) (by omega) ?_
  refine zl_invV (k2 := 0) (k3 := 0) (n2 := 0) (n3 := 0) (args2 := [.inl (xs (6 * t + 1)), .inl (xs (6 * t + 2))]) (stk := [.inl (.inl r)]) (i := 134) (ci := 5) dL_law_611 okX5_winner ml_L_85 hm.i hm.k (by decide) rfl hdd rfl (Nat.le_of_ble_eq_true rfl) rfl rfl rfl hd ?_
  refine zl_icmp_eq (tgt := 718) dL_law_614 (by decide) (fun _ => ?_) (fun z => absurd rfl z)
  exact lw_tail kk
theorem lw_needed {b L : Nat} {xs : Nat → Int32} {sh : Sh} {M M1 M2 : Mem} {t : Nat} {r : Int32} {dc dd : Nat} (hs : IsSH sh 0) (hm : IsMo sh 134) (hL : L ≤ 3072) (ht : 6 * t + 6 ≤ L) (hdc : dc ≤ 8) (hdd : dd ≤ 8) (hc : Calls mX4_needed dc 0 0 [.inr (some 0), .inl (xs (6 * t + 1)), .inl (xs (6 * t + 2)), .inl (xs (6 * t + 3))] sh M (some (.inl r)) sh M1) (hd : Calls mX5_needed dd 0 0 [.inr (some 134), .inl (xs (6 * t + 1)), .inl (xs (6 * t + 2)), .inl (xs (6 * t + 3))] sh M1 (some (.inl r)) sh M2) (kk : LWP b L xs 0 0 18 (lws (t + 1)) [] sh M2) : LWP b L xs 0 0 619 (lws t) [] sh M := by
  refine zl_aload_n (j := 2) dL_law_619 rfl ?_
  refine zl_aload_s (j := 3) dL_law_620 rfl ?_
  refine zl_iload_n (j := 0) dL_law_621 rfl ?_
  refine zl_iconst (v := nI 1) dL_law_622 (by decide) ?_
  refine zl_iaddn dL_law_623 ?_
  refine zl_sld dL_law_624 rfl (show 6 * t + 1 < L by omega) (by omega) ?_
  refine zl_aload_s (j := 3) dL_law_625 rfl ?_
  refine zl_iload_n (j := 0) dL_law_626 rfl ?_
  refine zl_iconst (v := nI 2) dL_law_627 (by decide) ?_
  refine zl_iaddn dL_law_628 ?_
  refine zl_sld dL_law_629 rfl (show 6 * t + 2 < L by omega) (by omega) ?_
  refine zl_aload_s (j := 3) dL_law_630 rfl ?_
  refine zl_iload_n (j := 0) dL_law_631 rfl ?_
  refine zl_iconst (v := nI 3) dL_law_632 (by decide) ?_
  refine zl_iaddn dL_law_633 ?_
  refine zl_sld dL_law_634 rfl (show 6 * t + 3 < L by omega) (by omega) ?_
  refine zl_invV (k2 := 0) (k3 := 0) (n2 := 0) (n3 := 0) (args2 := [.inl (xs (6 * t + 1)), .inl (xs (6 * t + 2)), .inl (xs (6 * t + 3))]) (stk := []) (i := 0) (ci := 4) dL_law_635 okX4_needed ml_L_86 hs.i hs.k (by decide) rfl hdc rfl (Nat.zero_le 8) rfl rfl rfl hc ?_
  refine zl_aload_n (j := 1) dL_law_638 rfl ?_
  refine zl_aload_s (j := 3) dL_law_639 rfl ?_
  refine zl_iload_n (j := 0) dL_law_640 rfl ?_
  refine zl_iconst (v := nI 1) dL_law_641 (by decide) ?_
  refine zl_iaddn dL_law_642 ?_
  refine zl_sld dL_law_643 rfl (show 6 * t + 1 < L by omega) (by omega) ?_
  refine zl_aload_s (j := 3) dL_law_644 rfl ?_
  refine zl_iload_n (j := 0) dL_law_645 rfl ?_
  refine zl_iconst (v := nI 2) dL_law_646 (by decide) ?_
  refine zl_iaddn dL_law_647 ?_
  refine zl_sld dL_law_648 rfl (show 6 * t + 2 < L by omega) (by omega) ?_
  refine zl_aload_s (j := 3) dL_law_649 rfl ?_
  refine zl_iload_n (j := 0) dL_law_650 rfl ?_
  refine zl_iconst (v := nI 3) dL_law_651 (by decide) ?_
  refine zl_iaddn dL_law_652 ?_
  refine zl_sld dL_law_653 rfl (show 6 * t + 3 < L by omega) (by omega) ?_
  refine zl_invV (k2 := 0) (k3 := 0) (n2 := 0) (n3 := 0) (args2 := [.inl (xs (6 * t + 1)), .inl (xs (6 * t + 2)), .inl (xs (6 * t + 3))]) (stk := [.inl (.inl r)]) (i := 134) (ci := 5) dL_law_654 okX5_needed ml_L_89 hm.i hm.k (by decide) rfl hdd rfl (Nat.le_of_ble_eq_true rfl) rfl rfl rfl hd ?_
  refine zl_icmp_eq (tgt := 718) dL_law_657 (by decide) (fun _ => ?_) (fun z => absurd rfl z)
  exact lw_tail kk
theorem lw_quiet {b L : Nat} {xs : Nat → Int32} {sh : Sh} {M M1 M2 : Mem} {t : Nat} {r : Int32} {dc dd : Nat} (hs : IsSH sh 0) (hm : IsMo sh 134) (hL : L ≤ 3072) (ht : 6 * t + 6 ≤ L) (hdc : dc ≤ 8) (hdd : dd ≤ 8) (hc : Calls mX4_quiet dc 0 0 [.inr (some 0), .inl (xs (6 * t + 1)), .inl (xs (6 * t + 2))] sh M (some (.inl r)) sh M1) (hd : Calls mX5_quiet dd 0 0 [.inr (some 134), .inl (xs (6 * t + 1)), .inl (xs (6 * t + 2))] sh M1 (some (.inl r)) sh M2) (kk : LWP b L xs 0 0 18 (lws (t + 1)) [] sh M2) : LWP b L xs 0 0 662 (lws t) [] sh M := by
  refine zl_aload_n (j := 2) dL_law_662 rfl ?_
  refine zl_aload_s (j := 3) dL_law_663 rfl ?_
  refine zl_iload_n (j := 0) dL_law_664 rfl ?_
  refine zl_iconst (v := nI 1) dL_law_665 (by decide) ?_
  refine zl_iaddn dL_law_666 ?_
  refine zl_sld dL_law_667 rfl (show 6 * t + 1 < L by omega) (by omega) ?_
  refine zl_aload_s (j := 3) dL_law_668 rfl ?_
  refine zl_iload_n (j := 0) dL_law_669 rfl ?_
  refine zl_iconst (v := nI 2) dL_law_670 (by decide) ?_
  refine zl_iaddn dL_law_671 ?_
  refine zl_sld dL_law_672 rfl (show 6 * t + 2 < L by omega) (by omega) ?_
  refine zl_invV (k2 := 0) (k3 := 0) (n2 := 0) (n3 := 0) (args2 := [.inl (xs (6 * t + 1)), .inl (xs (6 * t + 2))]) (stk := []) (i := 0) (ci := 4) dL_law_673 okX4_quiet ml_L_90 hs.i hs.k (by decide) rfl hdc rfl (Nat.zero_le 8) rfl rfl rfl hc ?_
  refine zl_aload_n (j := 1) dL_law_676 rfl ?_
  refine zl_aload_s (j := 3) dL_law_677 rfl ?_
  refine zl_iload_n (j := 0) dL_law_678 rfl ?_
  refine zl_iconst (v := nI 1) dL_law_679 (by decide) ?_
  refine zl_iaddn dL_law_680 ?_
  refine zl_sld dL_law_681 rfl (show 6 * t + 1 < L by omega) (by omega) ?_
  refine zl_aload_s (j := 3) dL_law_682 rfl ?_
  refine zl_iload_n (j := 0) dL_law_683 rfl ?_
  refine zl_iconst (v := nI 2) dL_law_684 (by decide) ?_
  refine zl_iaddn dL_law_685 ?_
  refine zl_sld dL_law_686 rfl (show 6 * t + 2 < L by omega) (by omega) ?_
  refine zl_invV (k2 := 0) (k3 := 0) (n2 := 0) (n3 := 0) (args2 := [.inl (xs (6 * t + 1)), .inl (xs (6 * t + 2))]) (stk := [.inl (.inl r)]) (i := 134) (ci := 5) dL_law_687 okX5_quiet ml_L_93 hm.i hm.k (by decide) rfl hdd rfl (Nat.le_of_ble_eq_true rfl) rfl rfl rfl hd ?_
  refine zl_icmp_eq (tgt := 718) dL_law_690 (by decide) (fun _ => ?_) (fun z => absurd rfl z)
  exact lw_tail kk
theorem lw_purseThen {b L : Nat} {xs : Nat → Int32} {sh : Sh} {M M1 M2 : Mem} {t : Nat} {r : Int32} {dc dd : Nat} (hs : IsSH sh 0) (hm : IsMo sh 134) (hL : L ≤ 3072) (ht : 6 * t + 6 ≤ L) (hdc : dc ≤ 8) (hdd : dd ≤ 8) (hc : Calls mX4_purseThen dc 0 0 [.inr (some 0), .inl (xs (6 * t + 1))] sh M (some (.inl r)) sh M1) (hd : Calls mX5_purseThen dd 0 0 [.inr (some 134), .inl (xs (6 * t + 1))] sh M1 (some (.inl r)) sh M2) (kk : LWP b L xs 0 0 18 (lws (t + 1)) [] sh M2) : LWP b L xs 0 0 695 (lws t) [] sh M := by
  refine zl_aload_n (j := 2) dL_law_695 rfl ?_
  refine zl_aload_s (j := 3) dL_law_696 rfl ?_
  refine zl_iload_n (j := 0) dL_law_697 rfl ?_
  refine zl_iconst (v := nI 1) dL_law_698 (by decide) ?_
  refine zl_iaddn dL_law_699 ?_
  refine zl_sld dL_law_700 rfl (show 6 * t + 1 < L by omega) (by omega) ?_
  refine zl_invV (k2 := 0) (k3 := 0) (n2 := 0) (n3 := 0) (args2 := [.inl (xs (6 * t + 1))]) (stk := []) (i := 0) (ci := 4) dL_law_701 okX4_purseThen ml_L_94 hs.i hs.k (by decide) rfl hdc rfl (Nat.zero_le 8) rfl rfl rfl hc ?_
  refine zl_aload_n (j := 1) dL_law_704 rfl ?_
  refine zl_aload_s (j := 3) dL_law_705 rfl ?_
  refine zl_iload_n (j := 0) dL_law_706 rfl ?_
  refine zl_iconst (v := nI 1) dL_law_707 (by decide) ?_
  refine zl_iaddn dL_law_708 ?_
  refine zl_sld dL_law_709 rfl (show 6 * t + 1 < L by omega) (by omega) ?_
  refine zl_invV (k2 := 0) (k3 := 0) (n2 := 0) (n3 := 0) (args2 := [.inl (xs (6 * t + 1))]) (stk := [.inl (.inl r)]) (i := 134) (ci := 5) dL_law_710 okX5_purseThen ml_L_97 hm.i hm.k (by decide) rfl hdd rfl (Nat.le_of_ble_eq_true rfl) rfl rfl rfl hd ?_
  refine zl_icmp_eq (tgt := 718) dL_law_713 (by decide) (fun _ => ?_) (fun z => absurd rfl z)
  exact lw_tail kk
theorem law_loop {b L : Nat} {xs : Nat → Int32} {sh : Sh} {Rel : Nat → Mem → Prop} (hs : IsSH sh 0) (hm : IsMo sh 134) (hL : L ≤ 3072) (hst : Stp20 sh Rel) : ∀ (n t : Nat) (M : Mem), 513 ≤ t + n → t ≤ 512 → Rel t M → LWP b L xs 0 0 18 (lws t) [] sh M := by
  intro n
  induction n with
  | zero => intro t M h1 h2; exact absurd h1 (by omega)
  | succ n ih =>
    intro t M h1 h2 hR
    refine zl_iload_n (j := 0) dL_law_18 rfl ?_
    refine zl_aload_s (j := 3) dL_law_19 rfl ?_
    refine zl_slen dL_law_20 ?_
    refine zl_bipush (v := nI 6) dL_law_21 (by decide) ?_
    refine zl_isub dL_law_23 ?_
    refine zl_icmp_gt (tgt := 724) dL_law_24 (by decide) (fun _ => ?_) (fun c24 => ?_)
    · refine zl_iconst (v := 1) dL_law_724 (by decide) ?_
      exact zl_ret (stk := []) dL_law_725
    have ht := law_lt hL c24 h2
    have ht5 : t < 512 := by omega
    refine zl_aload_s (j := 3) dL_law_27 rfl ?_
    refine zl_iload_n (j := 0) dL_law_28 rfl ?_
    refine zl_sld dL_law_29 rfl (show 6 * t < L by omega) (by omega) ?_
    refine zl_bipush (v := nI 31) dL_law_30 (by decide) ?_
    refine zl_iand dL_law_32 ?_
    generalize xs (6 * t) &&& nI 31 = op
    obtain ⟨g0, g1, g2, g3, g4, g5, g6, g7, g8, g9, g10, g11, g12, g13, g14, g15, g16, g17, g18, g19, gW⟩ := hst t M ht5 hR
    by_cases hin : 0 ≤ op.toInt ∧ op.toInt ≤ 19
    · obtain ⟨q, hq, hq2⟩ : ∃ q : Nat, op.toInt = (q : Int) ∧ q ≤ 19 := ⟨op.toInt.toNat, by omega, by omega⟩
      rcases (show q = 0 ∨ q = 1 ∨ q = 2 ∨ q = 3 ∨ q = 4 ∨ q = 5 ∨ q = 6 ∨ q = 7 ∨ q = 8 ∨ q = 9 ∨ q = 10 ∨ q = 11 ∨ q = 12 ∨ q = 13 ∨ q = 14 ∨ q = 15 ∨ q = 16 ∨ q = 17 ∨ q = 18 ∨ q = 19 by omega) with rfl | rfl | rfl | rfl | rfl | rfl | rfl | rfl | rfl | rfl | rfl | rfl | rfl | rfl | rfl | rfl | rfl | rfl | rfl | rfl
      · obtain ⟨r, M1, M2, dc, dd, hdc, hdd, hc, hd, hR2⟩ := g0 (xs (6 * t + 1)) 0 0 0 0
        refine zl_tswIn (off := 95) (tgt := 128) dL_law_33 (by rw [hq]; decide) (by rw [hq]; decide) (by rw [hq]; rfl) (by decide) ?_
        exact lw_join hs hm hL ht hdc hdd hc hd (ih _ _ (by omega) (by omega) hR2)
      · obtain ⟨r, M1, M2, dc, dd, hdc, hdd, hc, hd, hR2⟩ := g1 (xs (6 * t + 1)) (xs (6 * t + 2)) 0 0 0
        refine zl_tswIn (off := 118) (tgt := 151) dL_law_33 (by rw [hq]; decide) (by rw [hq]; decide) (by rw [hq]; rfl) (by decide) ?_
        exact lw_pay hs hm hL ht hdc hdd hc hd (ih _ _ (by omega) (by omega) hR2)
      · obtain ⟨r, M1, M2, dc, dd, hdc, hdd, hc, hd, hR2⟩ := g2 (xs (6 * t + 1)) (xs (6 * t + 2)) (xs (6 * t + 3)) (xs (6 * t + 4)) (xs (6 * t + 5))
        refine zl_tswIn (off := 151) (tgt := 184) dL_law_33 (by rw [hq]; decide) (by rw [hq]; decide) (by rw [hq]; rfl) (by decide) ?_
        exact lw_bid hs hm hL ht hdc hdd hc hd (ih _ _ (by omega) (by omega) hR2)
      · obtain ⟨r, M1, M2, dc, dd, hdc, hdd, hc, hd, hR2⟩ := g3 (xs (6 * t + 1)) 0 0 0 0
        refine zl_tswIn (off := 214) (tgt := 247) dL_law_33 (by rw [hq]; decide) (by rw [hq]; decide) (by rw [hq]; rfl) (by decide) ?_
        exact lw_setFine hs hm hL ht hdc hdd hc hd (ih _ _ (by omega) (by omega) hR2)
      · obtain ⟨r, M1, M2, dc, dd, hdc, hdd, hc, hd, hR2⟩ := g4 0 0 0 0 0
        refine zl_tswIn (off := 237) (tgt := 270) dL_law_33 (by rw [hq]; decide) (by rw [hq]; decide) (by rw [hq]; rfl) (by decide) ?_
        exact lw_settle hs hm hL ht hdc hdd hc hd (ih _ _ (by omega) (by omega) hR2)
      · obtain ⟨r, M1, M2, dc, dd, hdc, hdd, hc, hd, hR2⟩ := g5 (xs (6 * t + 1)) (xs (6 * t + 2)) (xs (6 * t + 3)) 0 0
        refine zl_tswIn (off := 250) (tgt := 283) dL_law_33 (by rw [hq]; decide) (by rw [hq]; decide) (by rw [hq]; rfl) (by decide) ?_
        exact lw_breach hs hm hL ht hdc hdd hc hd (ih _ _ (by omega) (by omega) hR2)
      · obtain ⟨r, M1, M2, dc, dd, hdc, hdd, hc, hd, hR2⟩ := g6 0 0 0 0 0
        refine zl_tswIn (off := 293) (tgt := 326) dL_law_33 (by rw [hq]; decide) (by rw [hq]; decide) (by rw [hq]; rfl) (by decide) ?_
        exact lw_undo hs hm hL ht hdc hdd hc hd (ih _ _ (by omega) (by omega) hR2)
      · obtain ⟨r, M1, M2, dc, dd, hdc, hdd, hc, hd, hR2⟩ := g7 (xs (6 * t + 1)) 0 0 0 0
        refine zl_tswIn (off := 306) (tgt := 339) dL_law_33 (by rw [hq]; decide) (by rw [hq]; decide) (by rw [hq]; rfl) (by decide) ?_
        exact lw_append hs hm hL ht hdc hdd hc hd (ih _ _ (by omega) (by omega) hR2)
      · obtain ⟨r, M1, M2, dc, dd, hdc, hdd, hc, hd, hR2⟩ := g8 0 0 0 0 0
        refine zl_tswIn (off := 329) (tgt := 362) dL_law_33 (by rw [hq]; decide) (by rw [hq]; decide) (by rw [hq]; rfl) (by decide) ?_
        exact lw_clearText hs hm hL ht hdc hdd hc hd (ih _ _ (by omega) (by omega) hR2)
      · obtain ⟨r, M1, M2, dc, dd, hdc, hdd, hc, hd, hR2⟩ := g9 (xs (6 * t + 1)) 0 0 0 0
        refine zl_tswIn (off := 342) (tgt := 375) dL_law_33 (by rw [hq]; decide) (by rw [hq]; decide) (by rw [hq]; rfl) (by decide) ?_
        exact lw_run hs hm hL ht hdc hdd hc hd (ih _ _ (by omega) (by omega) hR2)
      · obtain ⟨r, M1, M2, dc, dd, hdc, hdd, hc, hd, hR2⟩ := g10 (xs (6 * t + 1)) 0 0 0 0
        refine zl_tswIn (off := 365) (tgt := 398) dL_law_33 (by rw [hq]; decide) (by rw [hq]; decide) (by rw [hq]; rfl) (by decide) ?_
        exact lw_failure hs hm hL ht hdc hdd hc hd (ih _ _ (by omega) (by omega) hR2)
      · obtain ⟨r, M1, M2, dc, dd, hdc, hdd, hc, hd, hR2⟩ := g11 (xs (6 * t + 1)) 0 0 0 0
        refine zl_tswIn (off := 388) (tgt := 421) dL_law_33 (by rw [hq]; decide) (by rw [hq]; decide) (by rw [hq]; rfl) (by decide) ?_
        exact lw_count hs hm hL ht hdc hdd hc hd (ih _ _ (by omega) (by omega) hR2)
      · obtain ⟨r, M1, M2, dc, dd, hdc, hdd, hc, hd, hR2⟩ := g12 (xs (6 * t + 1)) (xs (6 * t + 2)) 0 0 0
        refine zl_tswIn (off := 411) (tgt := 444) dL_law_33 (by rw [hq]; decide) (by rw [hq]; decide) (by rw [hq]; rfl) (by decide) ?_
        exact lw_person hs hm hL ht hdc hdd hc hd (ih _ _ (by omega) (by omega) hR2)
      · obtain ⟨r, M1, M2, dc, dd, hdc, hdd, hc, hd, hR2⟩ := g13 (xs (6 * t + 1)) (xs (6 * t + 2)) (xs (6 * t + 3)) 0 0
        refine zl_tswIn (off := 444) (tgt := 477) dL_law_33 (by rw [hq]; decide) (by rw [hq]; decide) (by rw [hq]; rfl) (by decide) ?_
        exact lw_slot hs hm hL ht hdc hdd hc hd (ih _ _ (by omega) (by omega) hR2)
      · obtain ⟨r, M1, M2, dc, dd, hdc, hdd, hc, hd, hR2⟩ := g14 (xs (6 * t + 1)) (xs (6 * t + 2)) (xs (6 * t + 3)) 0 0
        refine zl_tswIn (off := 487) (tgt := 520) dL_law_33 (by rw [hq]; decide) (by rw [hq]; decide) (by rw [hq]; rfl) (by decide) ?_
        exact lw_bidOf hs hm hL ht hdc hdd hc hd (ih _ _ (by omega) (by omega) hR2)
      · obtain ⟨r, M1, M2, dc, dd, hdc, hdd, hc, hd, hR2⟩ := g15 (xs (6 * t + 1)) 0 0 0 0
        refine zl_tswIn (off := 530) (tgt := 563) dL_law_33 (by rw [hq]; decide) (by rw [hq]; decide) (by rw [hq]; rfl) (by decide) ?_
        exact lw_fund hs hm hL ht hdc hdd hc hd (ih _ _ (by omega) (by omega) hR2)
      · obtain ⟨r, M1, M2, dc, dd, hdc, hdd, hc, hd, hR2⟩ := g16 (xs (6 * t + 1)) (xs (6 * t + 2)) 0 0 0
        refine zl_tswIn (off := 553) (tgt := 586) dL_law_33 (by rw [hq]; decide) (by rw [hq]; decide) (by rw [hq]; rfl) (by decide) ?_
        exact lw_winner hs hm hL ht hdc hdd hc hd (ih _ _ (by omega) (by omega) hR2)
      · obtain ⟨r, M1, M2, dc, dd, hdc, hdd, hc, hd, hR2⟩ := g17 (xs (6 * t + 1)) (xs (6 * t + 2)) (xs (6 * t + 3)) 0 0
        refine zl_tswIn (off := 586) (tgt := 619) dL_law_33 (by rw [hq]; decide) (by rw [hq]; decide) (by rw [hq]; rfl) (by decide) ?_
        exact lw_needed hs hm hL ht hdc hdd hc hd (ih _ _ (by omega) (by omega) hR2)
      · obtain ⟨r, M1, M2, dc, dd, hdc, hdd, hc, hd, hR2⟩ := g18 (xs (6 * t + 1)) (xs (6 * t + 2)) 0 0 0
        refine zl_tswIn (off := 629) (tgt := 662) dL_law_33 (by rw [hq]; decide) (by rw [hq]; decide) (by rw [hq]; rfl) (by decide) ?_
        exact lw_quiet hs hm hL ht hdc hdd hc hd (ih _ _ (by omega) (by omega) hR2)
      · obtain ⟨r, M1, M2, dc, dd, hdc, hdd, hc, hd, hR2⟩ := g19 (xs (6 * t + 1)) 0 0 0 0
        refine zl_tswIn (off := 662) (tgt := 695) dL_law_33 (by rw [hq]; decide) (by rw [hq]; decide) (by rw [hq]; rfl) (by decide) ?_
        exact lw_purseThen hs hm hL ht hdc hdd hc hd (ih _ _ (by omega) (by omega) hR2)
    · refine zl_tswOut (tgt := 718) dL_law_33 (by omega) (by decide) ?_
      exact lw_tail (ih _ _ (by omega) (by omega) gW)
/-- the heap that the two constructors build -/
def sh00 : Sh := (0, fun _ => 0, fun _ => 0, fun _ _ => none)
def sh1A : Sh := pushS sh00 4 0
def sh1B : Sh := cSH 0 sh1A
def sh2A : Sh := pushS sh1B 5 0
def shZ : Sh := moG 134 sh2A 7
def mem0 : Mem := fun _ _ => 0
def memZ : Mem := up (cSM mem0 0) (134 + 1) 2 (nI 20)
theorem sh1B_n : sh1B.1 = 134 := (cSH_f (i := 0) (sh := sh1A) rfl pushS_k).1
theorem sh2A_n : sh2A.1 = 134 + 1 := by show sh1B.1 + 1 = _; rw [sh1B_n]
theorem sh2A_k : sh2A.2.1 134 = 5 := by
  have h : sh2A.2.1 sh1B.1 = 5 := pushS_k
  rw [sh1B_n] at h
  exact h
theorem shZ_f : shZ.1 = 134 + 1 + 7 ∧ ExtB 134 sh2A shZ := by
  obtain ⟨h1, h2, h3, h4⟩ := moG_f (i := 134) (sh := sh2A) sh2A_n sh2A_k 7 (Nat.le_refl 7)
  exact ⟨h1, h3⟩
theorem shZ_m : IsMo shZ 134 := moG_is sh2A_n sh2A_k
theorem shZ_s : IsSH shZ 0 := by
  have h := (cSH_f (i := 0) (sh := sh1A) rfl pushS_k).2.2
  have h1 : ExtB 134 sh1B sh2A := (ExtB.rfl0 (Nat.le_of_eq sh1B_n.symm)).push
  exact (h.ext h1 (by decide)).ext shZ_f.2 (by decide)
theorem mem0_z (b : Nat) : Zr mem0 b := fun _ _ _ => rfl
theorem memA_z : Zr (cSM mem0 0) 134 := by
  have z1 : Zr (up mem0 (0 + 1) 1 (nI 20)) 17 := (mem0_z 17).up (by omega)
  have z2 : Zr (up (up mem0 (0 + 1) 1 (nI 20)) (0 + 17) 1 (nI 20)) (0 + 33) := (z1.wk (by omega)).up (by omega)
  have z3 : Zr (hiM (up (up mem0 (0 + 1) 1 (nI 20)) (0 + 17) 1 (nI 20)) (0 + 33) 5) 115 := hiM_z (z2.wk (by omega)) 5
  exact ((z3.wk (by omega)).up (by omega)).up (by omega)
theorem law_go {p : Program} {e : Env} {s : State} {m : MethodId} {below : List Frame} {meth : Method} {c : Code} (l : Launch) {b L : Nat} {xs : Nat → Int32} {Rel : Nat → Mem → Prop} (hR : Rel 0 memZ) (hS : Stp20 shZ Rel) (hL : L ≤ 3072) (C0 : lw_At p s m meth c b L xs) : W p l e room_1 s m #[Value.ref b] below meth c s.heap [] 0 0 (lw_Z below #[Value.ref b] s) (entryFrame m ([Value.ref b] : List Value).toArray 4) := by
  obtain ⟨hx, hb, hr, hml, hown, hts, hX, hbl, hlocks, hgv⟩ := C0
  obtain ⟨G, cs, hK⟩ := KF_0 hts
  have hl := lv_entry ([.ref b]) (n := 4) (Nat.le_of_ble_eq_true rfl)
  rw [lg_entry_eq]
  generalize (lg_sl ([.ref b]) ++ List.replicate (4 - (lg_sl ([.ref b])).length) Slot.unset).toArray = arr at hl ⊢
  have hl : lv_has arr 4 (encV s.heap.size b [(0, .inr ())]) := hl
  have key : LWP b L xs 142 24832 0 [(0, .inr ())] [] sh00 mem0 := by
    refine zl_new (kd := 4) dL_law_0 (by decide) cl_L_7 it_X4 in_X4 (by decide) (by decide) (by decide) ?_
    rw [(mem0_z 0).push (Nat.zero_le _)]
    refine zl_dup dL_law_3 ?_
    refine zl_invI (k2 := 133) (n2 := 12495) (k3 := 8) (n3 := 12332) dL_law_4 okX4_init ml_L_9 (by decide) (Nat.le_of_ble_eq_true rfl) rfl rfl sh1B_n (k_X4_init (i := 0) rfl pushS_k (mem0_z _)) ?_
    refine zl_astore_n (i := 1) (ls2 := [(1, .inl (.inr (some 0))), (0, .inr ())]) dL_law_7 rfl (fun _ _ => rfl) ?_
    show LWP b L xs 8 12332 8 [(1, .inl (.inr (some 0))), (0, .inr ())] [] sh1B (cSM mem0 0)
    refine zl_new (kd := 5) dL_law_8 (by decide) cl_L_10 it_X5 in_X5 (by decide) (by decide) (by decide) ?_
    rw [memA_z.push (show 134 ≤ sh1B.1 from Nat.le_of_eq sh1B_n.symm), show (some sh1B.1 : Option Nat) = some 134 by rw [sh1B_n]]
    refine zl_dup dL_law_11 ?_
    refine zl_invI (k2 := 7) (n2 := 12318) (k3 := 0) (n3 := 0) dL_law_12 okX5_init ml_L_12 (by decide) (Nat.le_of_ble_eq_true rfl) rfl rfl (by show shZ.1 = sh2A.1 + 7; rw [shZ_f.1, sh2A_n]) (k_X5_init (i := 134) sh2A_n sh2A_k (memA_z.wk (by omega))) ?_
    refine zl_astore_n (i := 2) (ls2 := [(2, .inl (.inr (some 134))), (1, .inl (.inr (some 0))), (0, .inr ())]) dL_law_15 rfl (fun _ _ => rfl) ?_
    refine zl_iconst (v := nI 0) dL_law_16 (by decide) ?_
    refine zl_istore_n (i := 3) (ls2 := lws 0) dL_law_17 rfl (fun _ _ => rfl) ?_
    exact law_loop shZ_s shZ_m hL hS 513 0 memZ (by omega) (by omega) hR
  exact key s.heap.size G cs p l e s m below meth c s.heap [] 0 0 arr ⟨hx, hb, hml, hr, hts, hown, hlocks, hK, fun k q h => by simp [wsl, sh00] at h, va_S.rf, rfl, rfl, hX, hbl⟩ (by decide) (by decide) hl
