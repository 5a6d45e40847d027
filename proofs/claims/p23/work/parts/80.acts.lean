/-! THE LAW'S METHODS: acts. -/
theorem ge_m3 {r : Int32} (h : (∃ j, r = nI j ∧ j < 12) ∨ r = (-3)) : ¬ r < (-3) := by
  rcases h with ⟨j, rfl, hj⟩ | rfl
  · have H : ∀ j, j < 12 → ¬ nI j < (-3) := by decide +kernel
    exact H j hj
  · decide
theorem b1_n (n : Nat) (h : n < 2 ^ 31) : nI n &&& nI 1 = nI (n % 2) := pk_andN (by omega) 1 (by decide)
theorem n01_of {n : Nat} : nI (n % 2) = nI 0 ∨ nI (n % 2) = nI 1 := by
  rcases (show n % 2 = 0 ∨ n % 2 = 1 by omega) with c | c
  · exact Or.inl (by rw [c])
  · exact Or.inr (by rw [c])
theorem sub_neg {a b : Nat} (h : a ≤ b) : nI a - nI b = -nI (b - a) := by rw [← nI_subn h, Int32.neg_sub]

set_option maxRecDepth 100000 in
set_option maxHeartbeats 4000000 in
theorem l_acts {sh : Sh} {M : Mem} {P t o z len zz : Nat} (hs : IsSH sh 0) (hA : At t M P o z len) (hP3 : 3 ≤ P) (ht : t < 500) (hz : zz < 2 ^ 31) : ∃ x C, Calls mL_acts 8 0 0 [.inr (some 0), .inl (nI zz)] sh M (some (.inl x)) sh C ∧ Ok (t + 1) x C := by
  have hP12 := hA.P12
  obtain ⟨v, hv⟩ : ∃ v, zz / 8 = v := ⟨_, rfl⟩
  have hv2 : v < 2 ^ 28 := by omega
  obtain ⟨w, hw⟩ : ∃ w, v % P = w := ⟨_, rfl⟩
  have hwP : w < P := by rw [← hw]; exact Nat.mod_lt _ (by omega)
  obtain ⟨st, hst0⟩ : ∃ st, v / 16 % 4 = st := ⟨_, rfl⟩
  have hst : st < 4 := by omega
  obtain ⟨h, hh0⟩ : ∃ h, v / 64 % 24 = h := ⟨_, rfl⟩
  have hh : h < 24 := by omega
  suffices hw : WE mL_acts 8 0 [some (.inr (some 0)), some (.inl (nI zz)), none, none, none, none, none] [] sh M (Ok (t + 1)) from we_calls plL (Nat.le_of_ble_eq_true rfl) hw
  refine we (fun _ _ k => zw_iload_n dL_acts_0 rfl k) ?_
  refine we (fun _ _ k => zw_iconst (v := nI 3) dL_acts_1 (by decide) k) ?_
  refine we (fun _ _ k => zw_ishr dL_acts_2 k) ?_
  refine we_top (x2 := nI v) ((pk_shrN hz (nI 3 &&& 31) 3 (by decide)).trans (congrArg nI hv)) ?_
  refine we (fun _ _ k => zw_istore_n dL_acts_3 (by decide) k) ?_
  refine we (fun _ _ k => zw_iload_n dL_acts_4 rfl k) ?_
  refine we (fun _ _ k => zw_aload_n dL_acts_5 rfl k) ?_
  refine we (fun _ _ k => zw_iconst (v := nI 1) dL_acts_6 (by decide) k) ?_
  refine we (fun _ _ k => zw_cVi dL_acts_7 (q_c1 hs hA) rfl okX4_count ml_L_15 hs.i hs.k (by decide) rfl (Nat.le_of_ble_eq_true rfl) (Nat.le_of_ble_eq_true rfl) k) ?_
  refine we (fun _ _ k => zw_iremn dL_acts_10 (by omega) (by omega) (by omega) k) ?_
  refine we_top (x2 := nI w) (congrArg nI hw) ?_
  refine we (fun _ _ k => zw_istore_n dL_acts_11 (by decide) k) ?_
  refine we (fun _ _ k => zw_iload_n dL_acts_12 rfl k) ?_
  refine we (fun _ _ k => zw_bipush (v := nI 16) dL_acts_13 (by decide) k) ?_
  refine we (fun _ _ k => zw_idivn dL_acts_15 (by omega) (by omega) (by omega) k) ?_
  refine we (fun _ _ k => zw_iconst (v := nI 3) dL_acts_16 (by decide) k) ?_
  refine we (fun _ _ k => zw_iand dL_acts_17 k) ?_
  refine we_top (x2 := nI st) ((pk_andN (by omega) 2 (by decide)).trans (congrArg nI hst0)) ?_
  refine we (fun _ _ k => zw_istore dL_acts_18 (by decide) k) ?_
  refine we (fun _ _ k => zw_iload_n dL_acts_20 rfl k) ?_
  refine we (fun _ _ k => zw_bipush (v := nI 64) dL_acts_21 (by decide) k) ?_
  refine we (fun _ _ k => zw_idivn dL_acts_23 (by omega) (by omega) (by omega) k) ?_
  refine we (fun _ _ k => zw_bipush (v := nI 24) dL_acts_24 (by decide) k) ?_
  refine we (fun _ _ k => zw_iremn dL_acts_26 (by omega) (by omega) (by omega) k) ?_
  refine we_top (x2 := nI h) (congrArg nI hh0) ?_
  refine we (fun _ _ k => zw_istore dL_acts_27 (by decide) k) ?_
  refine we (fun _ _ k => zw_iload_n dL_acts_29 rfl k) ?_
  refine we (fun _ _ k => zw_bipush (v := nI 7) dL_acts_30 (by decide) k) ?_
  refine we (fun _ _ k => zw_iand dL_acts_32 k) ?_
  refine we_top (x2 := nI (zz % 8)) (pk_andN (by omega) 3 (by decide)) ?_
  rcases (show zz % 8 = 0 ∨ zz % 8 = 1 ∨ zz % 8 = 2 ∨ zz % 8 = 3 ∨ zz % 8 = 4 ∨ zz % 8 = 5 ∨ zz % 8 = 6 ∨ zz % 8 = 7 by omega) with hq | hq | hq | hq | hq | hq | hq | hq
  · obtain ⟨r, M1, P1, o1, z1, hc, hA1, hPP, hr⟩ := a_join hs hA (k := v % 1000) (by omega)
    refine we_top (x2 := nI 0) (by rw [hq]) ?_
    refine we (fun _ _ k => zw_tswIn (tgt := 76) (off := 43) dL_acts_33 (by decide) (by decide) rfl (by decide) k) ?_
    refine we (fun _ _ k => zw_aload_n dL_acts_76 rfl k) ?_
    refine we (fun _ _ k => zw_iload_n dL_acts_77 rfl k) ?_
    refine we (fun _ _ k => zw_sipush (v := nI 1000) dL_acts_78 (by decide) k) ?_
    refine we (fun _ _ k => zw_iremn dL_acts_81 (by omega) (by omega) (by omega) k) ?_
    refine we (fun _ _ k => zw_cVi dL_acts_82 (hc) rfl okX4_join ml_L_39 hs.i hs.k (by decide) rfl (Nat.le_of_ble_eq_true rfl) (Nat.le_of_ble_eq_true rfl) k) ?_
    refine we (fun _ _ k => zw_bipush (v := (-3)) dL_acts_85 (by decide) k) ?_
    refine we (fun _ _ k => zw_icmp_lt (tgt := 94) dL_acts_87 (by decide) (fun c => absurd c (ge_m3 hr)) (fun _ => k)) ?_
    refine we (fun _ _ k => zw_iconst (v := nI 1) dL_acts_90 (by decide) k) ?_
    refine we (fun _ _ k => zw_goto (tgt := 95) dL_acts_91 (by decide) k) ?_
    exact we_ret dL_acts_95 rfl (Or.inr rfl) ⟨rfl, P1, o1, z1, len, by omega, hA1⟩
  · refine we_top (x2 := nI 1) (by rw [hq]) ?_
    refine we (fun _ _ k => zw_tswIn (tgt := 96) (off := 63) dL_acts_33 (by decide) (by decide) rfl (by decide) k) ?_
    refine we (fun _ _ k => zw_aload_n dL_acts_96 rfl k) ?_
    refine we (fun _ _ k => zw_iload_n dL_acts_97 rfl k) ?_
    refine we (fun _ _ k => zw_iload_n dL_acts_98 rfl k) ?_
    refine we (fun _ _ k => zw_sipush (v := nI 801) dL_acts_99 (by decide) k) ?_
    refine we (fun _ _ k => zw_iremn dL_acts_102 (by omega) (by omega) (by omega) k) ?_
    refine we (fun _ _ k => zw_sipush (v := nI 300) dL_acts_103 (by decide) k) ?_
    rcases Nat.lt_or_ge (v % 801) 300 with h3 | h3
    · obtain ⟨r, M1, o1, z1, hc, hA1, hr⟩ := a_pay_out hs hA (by omega) hwP (k := 300 - v % 801) (by omega) (by omega)
      refine we (fun _ _ k => zw_isub dL_acts_106 k) ?_
      refine we_top (x2 := (-nI (300 - v % 801))) (sub_neg (by omega)) ?_
      refine we (fun _ _ k => zw_cVi dL_acts_107 (hc) rfl okX4_pay ml_L_72 hs.i hs.k (by decide) rfl (Nat.le_of_ble_eq_true rfl) (Nat.le_of_ble_eq_true rfl) k) ?_
      refine we (fun _ _ k => zw_bipush (v := (-2)) dL_acts_110 (by decide) k) ?_
      refine we (fun _ _ k => zw_icmp_lt (tgt := 119) dL_acts_112 (by decide) (fun c => absurd c hr) (fun _ => k)) ?_
      refine we (fun _ _ k => zw_iconst (v := nI 1) dL_acts_115 (by decide) k) ?_
      refine we (fun _ _ k => zw_goto (tgt := 120) dL_acts_116 (by decide) k) ?_
      exact we_ret dL_acts_120 rfl (Or.inr rfl) ⟨rfl, P, o1, z1, len, hP3, hA1⟩
    · obtain ⟨r, M1, o1, z1, hc, hA1, hr⟩ := a_pay_in hs hA (by omega) hwP (k := v % 801 - 300) (by omega)
      refine we (fun _ _ k => zw_isubn dL_acts_106 (by omega) k) ?_
      refine we (fun _ _ k => zw_cVi dL_acts_107 (hc) rfl okX4_pay ml_L_72 hs.i hs.k (by decide) rfl (Nat.le_of_ble_eq_true rfl) (Nat.le_of_ble_eq_true rfl) k) ?_
      refine we (fun _ _ k => zw_bipush (v := (-2)) dL_acts_110 (by decide) k) ?_
      refine we (fun _ _ k => zw_icmp_lt (tgt := 119) dL_acts_112 (by decide) (fun c => absurd c hr) (fun _ => k)) ?_
      refine we (fun _ _ k => zw_iconst (v := nI 1) dL_acts_115 (by decide) k) ?_
      refine we (fun _ _ k => zw_goto (tgt := 120) dL_acts_116 (by decide) k) ?_
      exact we_ret dL_acts_120 rfl (Or.inr rfl) ⟨rfl, P, o1, z1, len, hP3, hA1⟩
  · obtain ⟨f, M1, o1, z1, hc, hA1, hf⟩ := a_fine hs hA (k := v % 60) (by omega)
    refine we_top (x2 := nI 2) (by rw [hq]) ?_
    refine we (fun _ _ k => zw_tswIn (tgt := 121) (off := 88) dL_acts_33 (by decide) (by decide) rfl (by decide) k) ?_
    refine we (fun _ _ k => zw_aload_n dL_acts_121 rfl k) ?_
    refine we (fun _ _ k => zw_iload_n dL_acts_122 rfl k) ?_
    refine we (fun _ _ k => zw_bipush (v := nI 60) dL_acts_123 (by decide) k) ?_
    refine we (fun _ _ k => zw_iremn dL_acts_125 (by omega) (by omega) (by omega) k) ?_
    refine we (fun _ _ k => zw_cVi dL_acts_126 (hc) rfl okX4_setFine ml_L_76 hs.i hs.k (by decide) rfl (Nat.le_of_ble_eq_true rfl) (Nat.le_of_ble_eq_true rfl) k) ?_
    refine we (fun _ _ k => zw_if_lt (tgt := 136) dL_acts_129 (by decide) (fun c => absurd c (nI_pos (by omega))) (fun _ => k)) ?_
    refine we (fun _ _ k => zw_iconst (v := nI 1) dL_acts_132 (by decide) k) ?_
    refine we (fun _ _ k => zw_goto (tgt := 137) dL_acts_133 (by decide) k) ?_
    exact we_ret dL_acts_137 rfl (Or.inr rfl) ⟨rfl, P, o1, z1, len, hP3, hA1.mono (Nat.le_succ t)⟩
  · obtain ⟨x, M1, hc, hx, hok⟩ := l_breaches hs hA hP3 ht hwP hst hh
    subst hx
    refine we_top (x2 := nI 3) (by rw [hq]) ?_
    refine we (fun _ _ k => zw_tswIn (tgt := 138) (off := 105) dL_acts_33 (by decide) (by decide) rfl (by decide) k) ?_
    refine we (fun _ _ k => zw_aload_n dL_acts_138 rfl k) ?_
    refine we (fun _ _ k => zw_iload_n dL_acts_139 rfl k) ?_
    refine we (fun _ _ k => zw_iload dL_acts_140 rfl k) ?_
    refine we (fun _ _ k => zw_iload dL_acts_142 rfl k) ?_
    refine we (fun _ _ k => zw_cSi dL_acts_144 (hc) rfl okL_breaches ml_L_79 (Nat.le_of_ble_eq_true rfl) (Nat.le_of_ble_eq_true rfl) k) ?_
    exact we_ret dL_acts_147 rfl (Or.inr rfl) ⟨rfl, hok⟩
  · obtain ⟨x, M1, hc, hx, hok⟩ := l_settles hs hA hP3 ht hst hwP
    subst hx
    refine we_top (x2 := nI 4) (by rw [hq]) ?_
    refine we (fun _ _ k => zw_tswIn (tgt := 148) (off := 115) dL_acts_33 (by decide) (by decide) rfl (by decide) k) ?_
    refine we (fun _ _ k => zw_aload_n dL_acts_148 rfl k) ?_
    refine we (fun _ _ k => zw_iload dL_acts_149 rfl k) ?_
    refine we (fun _ _ k => zw_iload_n dL_acts_151 rfl k) ?_
    refine we (fun _ _ k => zw_cSi dL_acts_152 (hc) rfl okL_settles ml_L_85 (Nat.le_of_ble_eq_true rfl) (Nat.le_of_ble_eq_true rfl) k) ?_
    exact we_ret dL_acts_155 rfl (Or.inr rfl) ⟨rfl, hok⟩
  · obtain ⟨x, M1, hc, hx, hok⟩ := l_turns hs hA hP3 ht hst hh
    subst hx
    refine we_top (x2 := nI 5) (by rw [hq]) ?_
    refine we (fun _ _ k => zw_tswIn (tgt := 156) (off := 123) dL_acts_33 (by decide) (by decide) rfl (by decide) k) ?_
    refine we (fun _ _ k => zw_aload_n dL_acts_156 rfl k) ?_
    refine we (fun _ _ k => zw_iload dL_acts_157 rfl k) ?_
    refine we (fun _ _ k => zw_iload dL_acts_159 rfl k) ?_
    refine we (fun _ _ k => zw_cSi dL_acts_161 (hc) rfl okL_turns ml_L_89 (Nat.le_of_ble_eq_true rfl) (Nat.le_of_ble_eq_true rfl) k) ?_
    exact we_ret dL_acts_164 rfl (Or.inr rfl) ⟨rfl, hok⟩
  · obtain ⟨x, M1, hc, hx, hok⟩ := l_plans hs hA hP3 ht hwP hst (h := h % 10) (by omega) (sd := v / 2048 % 2) (by omega) (k := 2 + v / 4096 % 8) (by omega) (by omega)
    subst hx
    refine we_top (x2 := nI 6) (by rw [hq]) ?_
    refine we (fun _ _ k => zw_tswIn (tgt := 165) (off := 132) dL_acts_33 (by decide) (by decide) rfl (by decide) k) ?_
    refine we (fun _ _ k => zw_aload_n dL_acts_165 rfl k) ?_
    refine we (fun _ _ k => zw_iload_n dL_acts_166 rfl k) ?_
    refine we (fun _ _ k => zw_iload dL_acts_167 rfl k) ?_
    refine we (fun _ _ k => zw_iload dL_acts_169 rfl k) ?_
    refine we (fun _ _ k => zw_bipush (v := nI 10) dL_acts_171 (by decide) k) ?_
    refine we (fun _ _ k => zw_iremn dL_acts_173 (by omega) (by omega) (by omega) k) ?_
    refine we (fun _ _ k => zw_iload_n dL_acts_174 rfl k) ?_
    refine we (fun _ _ k => zw_sipush (v := nI 2048) dL_acts_175 (by decide) k) ?_
    refine we (fun _ _ k => zw_idivn dL_acts_178 (by omega) (by omega) (by omega) k) ?_
    refine we (fun _ _ k => zw_iconst (v := nI 1) dL_acts_179 (by decide) k) ?_
    refine we (fun _ _ k => zw_iand dL_acts_180 k) ?_
    refine we_top (x2 := nI (v / 2048 % 2)) (b1_n _ (by omega)) ?_
    refine we (fun _ _ k => zw_iconst (v := nI 2) dL_acts_181 (by decide) k) ?_
    refine we (fun _ _ k => zw_iload_n dL_acts_182 rfl k) ?_
    refine we (fun _ _ k => zw_sipush (v := nI 4096) dL_acts_183 (by decide) k) ?_
    refine we (fun _ _ k => zw_idivn dL_acts_186 (by omega) (by omega) (by omega) k) ?_
    refine we (fun _ _ k => zw_bipush (v := nI 8) dL_acts_187 (by decide) k) ?_
    refine we (fun _ _ k => zw_iremn dL_acts_189 (by omega) (by omega) (by omega) k) ?_
    refine we (fun _ _ k => zw_iaddn dL_acts_190 k) ?_
    refine we (fun _ _ k => zw_cSi dL_acts_191 (hc) rfl okL_plans ml_L_92 (Nat.le_of_ble_eq_true rfl) (Nat.le_of_ble_eq_true rfl) k) ?_
    exact we_ret dL_acts_194 rfl (Or.inr rfl) ⟨rfl, hok⟩
  · refine we_top (x2 := nI 7) (by rw [hq]) ?_
    refine we (fun _ _ k => zw_tswOut (tgt := 195) dL_acts_33 (Or.inr (by decide)) (by decide) k) ?_
    refine we (fun _ _ k => zw_iconst (v := nI 0) dL_acts_195 (by decide) k) ?_
    refine we (fun _ _ k => zw_istore dL_acts_196 (by decide) k) ?_
    have L198 : ∀ (n_198 k : Nat) (Mk : Mem) (ok zk : Nat), k + n_198 = 4 → At t Mk P ok zk len → WE mL_acts 8 198 [some (.inr (some 0)), some (.inl (nI zz)), some (.inl (nI v)), some (.inl (nI w)), some (.inl (nI st)), some (.inl (nI h)), some (.inl (nI k))] [] sh Mk (Ok (t + 1)) := by
      intro n_198
      induction n_198 with
      | zero =>
        intro k Mk ok zk hk198 hAk
        have ek198 : k = 4 := by omega
        subst k
        refine we (fun _ _ k => zw_iload dL_acts_198 rfl k) ?_
        refine we (fun _ _ k => zw_iconst (v := nI 4) dL_acts_200 (by decide) k) ?_
        refine we (fun _ _ k => zw_icmp_ge (tgt := 262) dL_acts_201 (by decide) (fun _ => k) (fun c => absurd c (nI_nlt (Nat.le_refl _) (by omega)))) ?_
        refine we (fun _ _ k => zw_iconst (v := nI 1) dL_acts_262 (by decide) k) ?_
        exact we_ret dL_acts_263 rfl (Or.inr rfl) ⟨rfl, P, ok, zk, len, hP3, hAk.mono (Nat.le_succ t)⟩
      | succ n_198 ih198 =>
        intro k Mk ok zk hk198 hAk
        have hlt198 : k < 4 := by omega
        refine we (fun _ _ k => zw_iload dL_acts_198 rfl k) ?_
        refine we (fun _ _ k => zw_iconst (v := nI 4) dL_acts_200 (by decide) k) ?_
        refine we (fun _ _ k => zw_icmp_ge (tgt := 262) dL_acts_201 (by decide) (fun c => absurd (nI_lt (by omega) (by omega)) c) (fun _ => k)) ?_
        obtain ⟨r, M2, o2, z2, hc, hA2⟩ := a_bid hs hAk (by omega) (p := (w + k) % P) (Nat.mod_lt _ (by omega)) hst (h := (h + k / 2) % 24) (Nat.mod_lt _ (by decide)) (sd := nI ((v / 2048 + k) % 2)) n01_of (a := v / 4096 % 200 + 20 * k) (by omega)
        refine we (fun _ _ k => zw_aload_n dL_acts_204 rfl k) ?_
        refine we (fun _ _ k => zw_iload_n dL_acts_205 rfl k) ?_
        refine we (fun _ _ k => zw_iload dL_acts_206 rfl k) ?_
        refine we (fun _ _ k => zw_iaddn dL_acts_208 k) ?_
        refine we (fun _ _ k => zw_aload_n dL_acts_209 rfl k) ?_
        refine we (fun _ _ k => zw_iconst (v := nI 1) dL_acts_210 (by decide) k) ?_
        refine we (fun _ _ k => zw_cVi dL_acts_211 (q_c1 hs hAk) rfl okX4_count ml_L_15 hs.i hs.k (by decide) rfl (Nat.le_of_ble_eq_true rfl) (Nat.le_of_ble_eq_true rfl) k) ?_
        refine we (fun _ _ k => zw_iremn dL_acts_214 (by omega) (by omega) (by omega) k) ?_
        refine we (fun _ _ k => zw_iload dL_acts_215 rfl k) ?_
        refine we (fun _ _ k => zw_iload dL_acts_217 rfl k) ?_
        refine we (fun _ _ k => zw_iload dL_acts_219 rfl k) ?_
        refine we (fun _ _ k => zw_iconst (v := nI 2) dL_acts_221 (by decide) k) ?_
        refine we (fun _ _ k => zw_idivn dL_acts_222 (by omega) (by omega) (by omega) k) ?_
        refine we (fun _ _ k => zw_iaddn dL_acts_223 k) ?_
        refine we (fun _ _ k => zw_bipush (v := nI 24) dL_acts_224 (by decide) k) ?_
        refine we (fun _ _ k => zw_iremn dL_acts_226 (by omega) (by omega) (by omega) k) ?_
        refine we (fun _ _ k => zw_iload_n dL_acts_227 rfl k) ?_
        refine we (fun _ _ k => zw_sipush (v := nI 2048) dL_acts_228 (by decide) k) ?_
        refine we (fun _ _ k => zw_idivn dL_acts_231 (by omega) (by omega) (by omega) k) ?_
        refine we (fun _ _ k => zw_iload dL_acts_232 rfl k) ?_
        refine we (fun _ _ k => zw_iaddn dL_acts_234 k) ?_
        refine we (fun _ _ k => zw_iconst (v := nI 1) dL_acts_235 (by decide) k) ?_
        refine we (fun _ _ k => zw_iand dL_acts_236 k) ?_
        refine we_top (x2 := nI ((v / 2048 + k) % 2)) (b1_n _ (by omega)) ?_
        refine we (fun _ _ k => zw_iload_n dL_acts_237 rfl k) ?_
        refine we (fun _ _ k => zw_sipush (v := nI 4096) dL_acts_238 (by decide) k) ?_
        refine we (fun _ _ k => zw_idivn dL_acts_241 (by omega) (by omega) (by omega) k) ?_
        refine we (fun _ _ k => zw_sipush (v := nI 200) dL_acts_242 (by decide) k) ?_
        refine we (fun _ _ k => zw_iremn dL_acts_245 (by omega) (by omega) (by omega) k) ?_
        refine we (fun _ _ k => zw_bipush (v := nI 20) dL_acts_246 (by decide) k) ?_
        refine we (fun _ _ k => zw_iload dL_acts_248 rfl k) ?_
        refine we (fun _ _ k => zw_imuln dL_acts_250 k) ?_
        refine we (fun _ _ k => zw_iaddn dL_acts_251 k) ?_
        refine we (fun _ _ k => zw_cVi dL_acts_252 (hc) rfl okX4_bid ml_L_46 hs.i hs.k (by decide) rfl (Nat.le_of_ble_eq_true rfl) (Nat.le_of_ble_eq_true rfl) k) ?_
        refine we (fun _ _ k => zw_pop dL_acts_255 k) ?_
        refine we (fun _ _ k => zw_iincn dL_acts_256 rfl (by decide) k) ?_
        refine we (fun _ _ k => zw_goto (tgt := 198) dL_acts_259 (by decide) k) ?_
        exact we_sub (ih198 (k + 1) _ _ _ (by omega) hA2) ⟨rfl, rfl, rfl, rfl, rfl, rfl, rfl, trivial⟩
    exact we_sub (L198 4 0 _ _ _ (by omega) hA) ⟨rfl, rfl, rfl, rfl, rfl, rfl, rfl, trivial⟩
