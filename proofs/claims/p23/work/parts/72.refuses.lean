/-! THE LAW'S METHODS: refuses. -/
theorem bE_big {C : Mem} {q p s : Nat} {am : Int32} (h : ¬ (nI 0 ≤ am ∧ am ≤ nI 999)) : bE C q p s am = (-1) := by
  unfold bE
  rw [if_neg h]
theorem a_bid_big {sh : Sh} {M : Mem} {P t o z len : Nat} (hs : IsSH sh 0) (hA : At t M P o z len) (hP : 0 < P) {am : Int32} (h : ¬ (nI 0 ≤ am ∧ am ≤ nI 999)) : Calls mX4_bid 4 0 0 [.inr (some 0), .inl (nI 0), .inl (nI 0), .inl (nI 0), .inl (nI 0), .inl am] sh M (some (.inl (-1))) sh M := by
  have hb := c_bid_err (b := 0) (p := 0) (st := 0) (h := 0) hs hA.wf hP (by decide) (by decide) (nI 0) am (Or.inl nI_0) (by rw [bE_big h]; decide)
  rw [bE_big h] at hb
  exact hb

set_option maxRecDepth 100000 in
set_option maxHeartbeats 4000000 in
theorem l_refuses {sh : Sh} {M : Mem} {P t o z len : Nat} (hs : IsSH sh 0) (hA : At t M P o z len) (hP3 : 3 ≤ P) : ∃ x C, Calls mL_refuses 7 0 0 [.inr (some 0)] sh M (some (.inl x)) sh C ∧ Ok t x C := by
  have hP12 := hA.P12
  have hP0 : 0 < P := by omega
  have hlen : M (0 + 115) 1 = nI len ∧ len ≤ 100 := hA.2.2.1
  suffices hw : WE mL_refuses 7 0 [some (.inr (some 0)), none, none, none, none] [] sh M (Ok t) from we_calls plL (Nat.le_of_ble_eq_true rfl) hw
  refine we (fun _ _ k => zw_aload_n dL_refuses_0 rfl k) ?_
  refine we (fun _ _ k => zw_bipush (v := nI 8) dL_refuses_1 (by decide) k) ?_
  refine we (fun _ _ k => zw_cVi dL_refuses_3 (q_c8 hs hA) rfl okX4_count ml_L_15 hs.i hs.k (by decide) rfl (Nat.le_of_ble_eq_true rfl) (Nat.le_of_ble_eq_true rfl) k) ?_
  refine we (fun _ _ k => zw_istore_n dL_refuses_6 (by decide) k) ?_
  refine we (fun _ _ k => zw_aload_n dL_refuses_7 rfl k) ?_
  refine we (fun _ _ k => zw_iconst (v := nI 5) dL_refuses_8 (by decide) k) ?_
  refine we (fun _ _ k => zw_cVi dL_refuses_9 (q_c5 hs hA) rfl okX4_count ml_L_15 hs.i hs.k (by decide) rfl (Nat.le_of_ble_eq_true rfl) (Nat.le_of_ble_eq_true rfl) k) ?_
  refine we (fun _ _ k => zw_istore_n dL_refuses_12 (by decide) k) ?_
  refine we (fun _ _ k => zw_aload_n dL_refuses_13 rfl k) ?_
  refine we (fun _ _ k => zw_iconst (v := nI 1) dL_refuses_14 (by decide) k) ?_
  refine we (fun _ _ k => zw_cVi dL_refuses_15 (q_c1 hs hA) rfl okX4_count ml_L_15 hs.i hs.k (by decide) rfl (Nat.le_of_ble_eq_true rfl) (Nat.le_of_ble_eq_true rfl) k) ?_
  refine we (fun _ _ k => zw_istore_n dL_refuses_18 (by decide) k) ?_
  refine we (fun _ _ k => zw_aload_n dL_refuses_19 rfl k) ?_
  refine we (fun _ _ k => zw_iconst (v := (-1)) dL_refuses_20 (by decide) k) ?_
  refine we (fun _ _ k => zw_cVi dL_refuses_21 (c_join_bad (b := 0) hs hA.wf (-1) (by decide)) rfl okX4_join ml_L_39 hs.i hs.k (by decide) rfl (Nat.le_of_ble_eq_true rfl) (Nat.le_of_ble_eq_true rfl) k) ?_
  refine we (fun _ _ k => zw_iconst (v := (-1)) dL_refuses_24 (by decide) k) ?_
  refine we (fun _ _ k => zw_icmp_ne (tgt := 155) dL_refuses_25 (by decide) (fun c => absurd rfl c) (fun _ => k)) ?_
  refine we (fun _ _ k => zw_aload_n dL_refuses_28 rfl k) ?_
  refine we (fun _ _ k => zw_ldc (v := nI 100001) dL_refuses_29 cs_L_50 k) ?_
  refine we (fun _ _ k => zw_cVi dL_refuses_31 (c_join_bad (b := 0) hs hA.wf (nI 100001) (by decide)) rfl okX4_join ml_L_39 hs.i hs.k (by decide) rfl (Nat.le_of_ble_eq_true rfl) (Nat.le_of_ble_eq_true rfl) k) ?_
  refine we (fun _ _ k => zw_iconst (v := (-1)) dL_refuses_34 (by decide) k) ?_
  refine we (fun _ _ k => zw_icmp_ne (tgt := 155) dL_refuses_35 (by decide) (fun c => absurd rfl c) (fun _ => k)) ?_
  refine we (fun _ _ k => zw_aload_n dL_refuses_38 rfl k) ?_
  refine we (fun _ _ k => zw_iload_n dL_refuses_39 rfl k) ?_
  refine we (fun _ _ k => zw_iconst (v := nI 1) dL_refuses_40 (by decide) k) ?_
  refine we (fun _ _ k => zw_cVi dL_refuses_41 (c_pay_bad (b := 0) hs hA.wf (nI P) (nI 1) (fun h => nP hP12 h.1)) rfl okX4_pay ml_L_72 hs.i hs.k (by decide) rfl (Nat.le_of_ble_eq_true rfl) (Nat.le_of_ble_eq_true rfl) k) ?_
  refine we (fun _ _ k => zw_iconst (v := (-1)) dL_refuses_44 (by decide) k) ?_
  refine we (fun _ _ k => zw_icmp_ne (tgt := 155) dL_refuses_45 (by decide) (fun c => absurd rfl c) (fun _ => k)) ?_
  refine we (fun _ _ k => zw_aload_n dL_refuses_48 rfl k) ?_
  refine we (fun _ _ k => zw_iconst (v := nI 0) dL_refuses_49 (by decide) k) ?_
  refine we (fun _ _ k => zw_ldc (v := nI 100001) dL_refuses_50 cs_L_50 k) ?_
  refine we (fun _ _ k => zw_cVi dL_refuses_52 (c_pay_bad (b := 0) hs hA.wf (nI 0) (nI 100001) (fun h => absurd h.2 (by decide))) rfl okX4_pay ml_L_72 hs.i hs.k (by decide) rfl (Nat.le_of_ble_eq_true rfl) (Nat.le_of_ble_eq_true rfl) k) ?_
  refine we (fun _ _ k => zw_iconst (v := (-1)) dL_refuses_55 (by decide) k) ?_
  refine we (fun _ _ k => zw_icmp_ne (tgt := 155) dL_refuses_56 (by decide) (fun c => absurd rfl c) (fun _ => k)) ?_
  refine we (fun _ _ k => zw_aload_n dL_refuses_59 rfl k) ?_
  refine we (fun _ _ k => zw_iconst (v := nI 0) dL_refuses_60 (by decide) k) ?_
  refine we (fun _ _ k => zw_ldc (v := (-100001)) dL_refuses_61 cs_L_75 k) ?_
  refine we (fun _ _ k => zw_cVi dL_refuses_63 (c_pay_bad (b := 0) hs hA.wf (nI 0) (-100001) (fun h => absurd h.2 (by decide))) rfl okX4_pay ml_L_72 hs.i hs.k (by decide) rfl (Nat.le_of_ble_eq_true rfl) (Nat.le_of_ble_eq_true rfl) k) ?_
  refine we (fun _ _ k => zw_iconst (v := (-1)) dL_refuses_66 (by decide) k) ?_
  refine we (fun _ _ k => zw_icmp_ne (tgt := 155) dL_refuses_67 (by decide) (fun c => absurd rfl c) (fun _ => k)) ?_
  refine we (fun _ _ k => zw_aload_n dL_refuses_70 rfl k) ?_
  refine we (fun _ _ k => zw_iload_n dL_refuses_71 rfl k) ?_
  refine we (fun _ _ k => zw_iconst (v := nI 0) dL_refuses_72 (by decide) k) ?_
  refine we (fun _ _ k => zw_iconst (v := nI 0) dL_refuses_73 (by decide) k) ?_
  refine we (fun _ _ k => zw_iconst (v := nI 0) dL_refuses_74 (by decide) k) ?_
  refine we (fun _ _ k => zw_iconst (v := nI 1) dL_refuses_75 (by decide) k) ?_
  refine we (fun _ _ k => zw_cVi dL_refuses_76 (c_bid_bad (b := 0) hs hA.wf (nI P) (nI 0) (nI 0) (nI 0) (nI 1) (fun h => nP hP12 h.1)) rfl okX4_bid ml_L_46 hs.i hs.k (by decide) rfl (Nat.le_of_ble_eq_true rfl) (Nat.le_of_ble_eq_true rfl) k) ?_
  refine we (fun _ _ k => zw_iconst (v := (-1)) dL_refuses_79 (by decide) k) ?_
  refine we (fun _ _ k => zw_icmp_ne (tgt := 155) dL_refuses_80 (by decide) (fun c => absurd rfl c) (fun _ => k)) ?_
  refine we (fun _ _ k => zw_aload_n dL_refuses_83 rfl k) ?_
  refine we (fun _ _ k => zw_iconst (v := nI 0) dL_refuses_84 (by decide) k) ?_
  refine we (fun _ _ k => zw_iconst (v := nI 4) dL_refuses_85 (by decide) k) ?_
  refine we (fun _ _ k => zw_iconst (v := nI 0) dL_refuses_86 (by decide) k) ?_
  refine we (fun _ _ k => zw_iconst (v := nI 0) dL_refuses_87 (by decide) k) ?_
  refine we (fun _ _ k => zw_iconst (v := nI 1) dL_refuses_88 (by decide) k) ?_
  refine we (fun _ _ k => zw_cVi dL_refuses_89 (c_bid_bad (b := 0) hs hA.wf (nI 0) (nI 4) (nI 0) (nI 0) (nI 1) (fun h => (show ¬ ((nI 0 ≤ nI 4 ∧ nI 4 ≤ nI 3) ∧ (nI 0 ≤ nI 0 ∧ nI 0 ≤ nI 23)) by decide) h.2.1)) rfl okX4_bid ml_L_46 hs.i hs.k (by decide) rfl (Nat.le_of_ble_eq_true rfl) (Nat.le_of_ble_eq_true rfl) k) ?_
  refine we (fun _ _ k => zw_iconst (v := (-1)) dL_refuses_92 (by decide) k) ?_
  refine we (fun _ _ k => zw_icmp_ne (tgt := 155) dL_refuses_93 (by decide) (fun c => absurd rfl c) (fun _ => k)) ?_
  refine we (fun _ _ k => zw_aload_n dL_refuses_96 rfl k) ?_
  refine we (fun _ _ k => zw_iconst (v := nI 0) dL_refuses_97 (by decide) k) ?_
  refine we (fun _ _ k => zw_iconst (v := nI 0) dL_refuses_98 (by decide) k) ?_
  refine we (fun _ _ k => zw_bipush (v := nI 24) dL_refuses_99 (by decide) k) ?_
  refine we (fun _ _ k => zw_iconst (v := nI 0) dL_refuses_101 (by decide) k) ?_
  refine we (fun _ _ k => zw_iconst (v := nI 1) dL_refuses_102 (by decide) k) ?_
  refine we (fun _ _ k => zw_cVi dL_refuses_103 (c_bid_bad (b := 0) hs hA.wf (nI 0) (nI 0) (nI 24) (nI 0) (nI 1) (fun h => (show ¬ ((nI 0 ≤ nI 0 ∧ nI 0 ≤ nI 3) ∧ (nI 0 ≤ nI 24 ∧ nI 24 ≤ nI 23)) by decide) h.2.1)) rfl okX4_bid ml_L_46 hs.i hs.k (by decide) rfl (Nat.le_of_ble_eq_true rfl) (Nat.le_of_ble_eq_true rfl) k) ?_
  refine we (fun _ _ k => zw_iconst (v := (-1)) dL_refuses_106 (by decide) k) ?_
  refine we (fun _ _ k => zw_icmp_ne (tgt := 155) dL_refuses_107 (by decide) (fun c => absurd rfl c) (fun _ => k)) ?_
  refine we (fun _ _ k => zw_aload_n dL_refuses_110 rfl k) ?_
  refine we (fun _ _ k => zw_iconst (v := nI 0) dL_refuses_111 (by decide) k) ?_
  refine we (fun _ _ k => zw_iconst (v := nI 0) dL_refuses_112 (by decide) k) ?_
  refine we (fun _ _ k => zw_iconst (v := nI 0) dL_refuses_113 (by decide) k) ?_
  refine we (fun _ _ k => zw_iconst (v := nI 2) dL_refuses_114 (by decide) k) ?_
  refine we (fun _ _ k => zw_iconst (v := nI 1) dL_refuses_115 (by decide) k) ?_
  refine we (fun _ _ k => zw_cVi dL_refuses_116 (c_bid_bad (b := 0) hs hA.wf (nI 0) (nI 0) (nI 0) (nI 2) (nI 1) (fun h => absurd h.2.2 (by decide))) rfl okX4_bid ml_L_46 hs.i hs.k (by decide) rfl (Nat.le_of_ble_eq_true rfl) (Nat.le_of_ble_eq_true rfl) k) ?_
  refine we (fun _ _ k => zw_iconst (v := (-1)) dL_refuses_119 (by decide) k) ?_
  refine we (fun _ _ k => zw_icmp_ne (tgt := 155) dL_refuses_120 (by decide) (fun c => absurd rfl c) (fun _ => k)) ?_
  refine we (fun _ _ k => zw_aload_n dL_refuses_123 rfl k) ?_
  refine we (fun _ _ k => zw_iconst (v := nI 0) dL_refuses_124 (by decide) k) ?_
  refine we (fun _ _ k => zw_iconst (v := nI 0) dL_refuses_125 (by decide) k) ?_
  refine we (fun _ _ k => zw_iconst (v := nI 0) dL_refuses_126 (by decide) k) ?_
  refine we (fun _ _ k => zw_iconst (v := nI 0) dL_refuses_127 (by decide) k) ?_
  refine we (fun _ _ k => zw_sipush (v := nI 1000) dL_refuses_128 (by decide) k) ?_
  refine we (fun _ _ k => zw_cVi dL_refuses_131 (a_bid_big hs hA hP0 (by decide)) rfl okX4_bid ml_L_46 hs.i hs.k (by decide) rfl (Nat.le_of_ble_eq_true rfl) (Nat.le_of_ble_eq_true rfl) k) ?_
  refine we (fun _ _ k => zw_iconst (v := (-1)) dL_refuses_134 (by decide) k) ?_
  refine we (fun _ _ k => zw_icmp_ne (tgt := 155) dL_refuses_135 (by decide) (fun c => absurd rfl c) (fun _ => k)) ?_
  refine we (fun _ _ k => zw_aload_n dL_refuses_138 rfl k) ?_
  refine we (fun _ _ k => zw_iconst (v := nI 0) dL_refuses_139 (by decide) k) ?_
  refine we (fun _ _ k => zw_iconst (v := nI 0) dL_refuses_140 (by decide) k) ?_
  refine we (fun _ _ k => zw_iconst (v := nI 0) dL_refuses_141 (by decide) k) ?_
  refine we (fun _ _ k => zw_iconst (v := nI 0) dL_refuses_142 (by decide) k) ?_
  refine we (fun _ _ k => zw_iconst (v := (-1)) dL_refuses_143 (by decide) k) ?_
  refine we (fun _ _ k => zw_cVi dL_refuses_144 (a_bid_big hs hA hP0 (by decide)) rfl okX4_bid ml_L_46 hs.i hs.k (by decide) rfl (Nat.le_of_ble_eq_true rfl) (Nat.le_of_ble_eq_true rfl) k) ?_
  refine we (fun _ _ k => zw_iconst (v := (-1)) dL_refuses_147 (by decide) k) ?_
  refine we (fun _ _ k => zw_icmp_ne (tgt := 155) dL_refuses_148 (by decide) (fun c => absurd rfl c) (fun _ => k)) ?_
  refine we (fun _ _ k => zw_iconst (v := nI 1) dL_refuses_151 (by decide) k) ?_
  refine we (fun _ _ k => zw_goto (tgt := 156) dL_refuses_152 (by decide) k) ?_
  refine we (fun _ _ k => zw_istore dL_refuses_156 (by decide) k) ?_
  refine we (fun _ _ k => zw_iload dL_refuses_158 rfl k) ?_
  refine we (fun _ _ k => zw_if_eq (tgt := 301) dL_refuses_160 (by decide) (fun c => absurd c (by decide)) (fun _ => k)) ?_
  refine we (fun _ _ k => zw_aload_n dL_refuses_163 rfl k) ?_
  refine we (fun _ _ k => zw_iconst (v := (-1)) dL_refuses_164 (by decide) k) ?_
  refine we (fun _ _ k => zw_cVi dL_refuses_165 (c_setFine_bad (b := 0) hs hA.wf (-1) (by decide)) rfl okX4_setFine ml_L_76 hs.i hs.k (by decide) rfl (Nat.le_of_ble_eq_true rfl) (Nat.le_of_ble_eq_true rfl) k) ?_
  refine we (fun _ _ k => zw_iconst (v := (-1)) dL_refuses_168 (by decide) k) ?_
  refine we (fun _ _ k => zw_icmp_ne (tgt := 301) dL_refuses_169 (by decide) (fun c => absurd rfl c) (fun _ => k)) ?_
  refine we (fun _ _ k => zw_aload_n dL_refuses_172 rfl k) ?_
  refine we (fun _ _ k => zw_sipush (v := nI 1001) dL_refuses_173 (by decide) k) ?_
  refine we (fun _ _ k => zw_cVi dL_refuses_176 (c_setFine_bad (b := 0) hs hA.wf (nI 1001) (by decide)) rfl okX4_setFine ml_L_76 hs.i hs.k (by decide) rfl (Nat.le_of_ble_eq_true rfl) (Nat.le_of_ble_eq_true rfl) k) ?_
  refine we (fun _ _ k => zw_iconst (v := (-1)) dL_refuses_179 (by decide) k) ?_
  refine we (fun _ _ k => zw_icmp_ne (tgt := 301) dL_refuses_180 (by decide) (fun c => absurd rfl c) (fun _ => k)) ?_
  refine we (fun _ _ k => zw_aload_n dL_refuses_183 rfl k) ?_
  refine we (fun _ _ k => zw_iload_n dL_refuses_184 rfl k) ?_
  refine we (fun _ _ k => zw_iconst (v := nI 0) dL_refuses_185 (by decide) k) ?_
  refine we (fun _ _ k => zw_iconst (v := nI 0) dL_refuses_186 (by decide) k) ?_
  refine we (fun _ _ k => zw_cVi dL_refuses_187 (c_breach_bad (b := 0) hs hA.wf (nI P) (nI 0) (nI 0) (fun h => nP hP12 h.1)) rfl okX4_breach ml_L_57 hs.i hs.k (by decide) rfl (Nat.le_of_ble_eq_true rfl) (Nat.le_of_ble_eq_true rfl) k) ?_
  refine we (fun _ _ k => zw_iconst (v := (-1)) dL_refuses_190 (by decide) k) ?_
  refine we (fun _ _ k => zw_icmp_ne (tgt := 301) dL_refuses_191 (by decide) (fun c => absurd rfl c) (fun _ => k)) ?_
  refine we (fun _ _ k => zw_aload_n dL_refuses_194 rfl k) ?_
  refine we (fun _ _ k => zw_iconst (v := nI 0) dL_refuses_195 (by decide) k) ?_
  refine we (fun _ _ k => zw_iconst (v := nI 0) dL_refuses_196 (by decide) k) ?_
  refine we (fun _ _ k => zw_bipush (v := nI 24) dL_refuses_197 (by decide) k) ?_
  refine we (fun _ _ k => zw_cVi dL_refuses_199 (c_breach_bad (b := 0) hs hA.wf (nI 0) (nI 0) (nI 24) (fun h => (show ¬ ((nI 0 ≤ nI 0 ∧ nI 0 ≤ nI 3) ∧ (nI 0 ≤ nI 24 ∧ nI 24 ≤ nI 23)) by decide) h.2)) rfl okX4_breach ml_L_57 hs.i hs.k (by decide) rfl (Nat.le_of_ble_eq_true rfl) (Nat.le_of_ble_eq_true rfl) k) ?_
  refine we (fun _ _ k => zw_iconst (v := (-1)) dL_refuses_202 (by decide) k) ?_
  refine we (fun _ _ k => zw_icmp_ne (tgt := 301) dL_refuses_203 (by decide) (fun c => absurd rfl c) (fun _ => k)) ?_
  refine we (fun _ _ k => zw_aload_n dL_refuses_206 rfl k) ?_
  refine we (fun _ _ k => zw_iconst (v := nI 0) dL_refuses_207 (by decide) k) ?_
  refine we (fun _ _ k => zw_cVi dL_refuses_208 (c_append_bad (b := 0) hs hlen.1 hlen.2 (nI 0) (by decide)) rfl okX4_append ml_L_63 hs.i hs.k (by decide) rfl (Nat.le_of_ble_eq_true rfl) (Nat.le_of_ble_eq_true rfl) k) ?_
  refine we (fun _ _ k => zw_iconst (v := (-1)) dL_refuses_211 (by decide) k) ?_
  refine we (fun _ _ k => zw_icmp_ne (tgt := 301) dL_refuses_212 (by decide) (fun c => absurd rfl c) (fun _ => k)) ?_
  refine we (fun _ _ k => zw_aload_n dL_refuses_215 rfl k) ?_
  refine we (fun _ _ k => zw_sipush (v := nI 256) dL_refuses_216 (by decide) k) ?_
  refine we (fun _ _ k => zw_cVi dL_refuses_219 (c_append_bad (b := 0) hs hlen.1 hlen.2 (nI 256) (by decide)) rfl okX4_append ml_L_63 hs.i hs.k (by decide) rfl (Nat.le_of_ble_eq_true rfl) (Nat.le_of_ble_eq_true rfl) k) ?_
  refine we (fun _ _ k => zw_iconst (v := (-1)) dL_refuses_222 (by decide) k) ?_
  refine we (fun _ _ k => zw_icmp_ne (tgt := 301) dL_refuses_223 (by decide) (fun c => absurd rfl c) (fun _ => k)) ?_
  refine we (fun _ _ k => zw_aload_n dL_refuses_226 rfl k) ?_
  refine we (fun _ _ k => zw_iload_n dL_refuses_227 rfl k) ?_
  refine we (fun _ _ k => zw_cVi dL_refuses_228 (c_run_bad (b := 0) hs hA.wf (nI P) (nP hP12)) rfl okX4_run ml_L_66 hs.i hs.k (by decide) rfl (Nat.le_of_ble_eq_true rfl) (Nat.le_of_ble_eq_true rfl) k) ?_
  refine we (fun _ _ k => zw_iconst (v := (-1)) dL_refuses_231 (by decide) k) ?_
  refine we (fun _ _ k => zw_icmp_ne (tgt := 301) dL_refuses_232 (by decide) (fun c => absurd rfl c) (fun _ => k)) ?_
  refine we (fun _ _ k => zw_aload_n dL_refuses_235 rfl k) ?_
  refine we (fun _ _ k => zw_iconst (v := nI 5) dL_refuses_236 (by decide) k) ?_
  refine we (fun _ _ k => zw_cVi dL_refuses_237 (c_failure_bad (b := 0) hs (nI 5) (by decide)) rfl okX4_failure ml_L_69 hs.i hs.k (by decide) rfl (Nat.le_of_ble_eq_true rfl) (Nat.le_of_ble_eq_true rfl) k) ?_
  refine we (fun _ _ k => zw_iconst (v := (-1)) dL_refuses_240 (by decide) k) ?_
  refine we (fun _ _ k => zw_icmp_ne (tgt := 301) dL_refuses_241 (by decide) (fun c => absurd rfl c) (fun _ => k)) ?_
  refine we (fun _ _ k => zw_aload_n dL_refuses_244 rfl k) ?_
  refine we (fun _ _ k => zw_bipush (v := nI 10) dL_refuses_245 (by decide) k) ?_
  refine we (fun _ _ k => zw_cVi dL_refuses_247 (c_count_bad (b := 0) hs hA.wf (nI 10) (by decide)) rfl okX4_count ml_L_15 hs.i hs.k (by decide) rfl (Nat.le_of_ble_eq_true rfl) (Nat.le_of_ble_eq_true rfl) k) ?_
  refine we (fun _ _ k => zw_iconst (v := (-1)) dL_refuses_250 (by decide) k) ?_
  refine we (fun _ _ k => zw_icmp_ne (tgt := 301) dL_refuses_251 (by decide) (fun c => absurd rfl c) (fun _ => k)) ?_
  refine we (fun _ _ k => zw_aload_n dL_refuses_254 rfl k) ?_
  refine we (fun _ _ k => zw_iconst (v := nI 0) dL_refuses_255 (by decide) k) ?_
  refine we (fun _ _ k => zw_bipush (v := nI 8) dL_refuses_256 (by decide) k) ?_
  refine we (fun _ _ k => zw_cVi dL_refuses_258 (c_person_bad2 (b := 0) hs hA.wf (p := 0) hP0 (nI 8) (by decide)) rfl okX4_person ml_L_22 hs.i hs.k (by decide) rfl (Nat.le_of_ble_eq_true rfl) (Nat.le_of_ble_eq_true rfl) k) ?_
  refine we (fun _ _ k => zw_iconst (v := (-1)) dL_refuses_261 (by decide) k) ?_
  refine we (fun _ _ k => zw_icmp_ne (tgt := 301) dL_refuses_262 (by decide) (fun c => absurd rfl c) (fun _ => k)) ?_
  refine we (fun _ _ k => zw_aload_n dL_refuses_265 rfl k) ?_
  refine we (fun _ _ k => zw_iconst (v := nI 0) dL_refuses_266 (by decide) k) ?_
  refine we (fun _ _ k => zw_iconst (v := nI 0) dL_refuses_267 (by decide) k) ?_
  refine we (fun _ _ k => zw_bipush (v := nI 6) dL_refuses_268 (by decide) k) ?_
  refine we (fun _ _ k => zw_cVi dL_refuses_270 (c_slot_bad2 (b := 0) hs hA.wf (st := 0) (h := 0) (by decide) (by decide) (nI 6) (by decide)) rfl okX4_slot ml_L_32 hs.i hs.k (by decide) rfl (Nat.le_of_ble_eq_true rfl) (Nat.le_of_ble_eq_true rfl) k) ?_
  refine we (fun _ _ k => zw_iconst (v := (-1)) dL_refuses_273 (by decide) k) ?_
  refine we (fun _ _ k => zw_icmp_ne (tgt := 301) dL_refuses_274 (by decide) (fun c => absurd rfl c) (fun _ => k)) ?_
  refine we (fun _ _ k => zw_aload_n dL_refuses_277 rfl k) ?_
  refine we (fun _ _ k => zw_iconst (v := nI 0) dL_refuses_278 (by decide) k) ?_
  refine we (fun _ _ k => zw_iconst (v := nI 0) dL_refuses_279 (by decide) k) ?_
  refine we (fun _ _ k => zw_iconst (v := (-1)) dL_refuses_280 (by decide) k) ?_
  refine we (fun _ _ k => zw_cVi dL_refuses_281 (c_bidOf_bad (b := 0) hs hA.wf (nI 0) (nI 0) (-1) (fun h => (show ¬ ((nI 0 ≤ nI 0 ∧ nI 0 ≤ nI 3) ∧ (nI 0 ≤ (-1) ∧ (-1) ≤ nI 23)) by decide) h.2)) rfl okX4_bidOf ml_L_25 hs.i hs.k (by decide) rfl (Nat.le_of_ble_eq_true rfl) (Nat.le_of_ble_eq_true rfl) k) ?_
  refine we (fun _ _ k => zw_iconst (v := (-1)) dL_refuses_284 (by decide) k) ?_
  refine we (fun _ _ k => zw_icmp_ne (tgt := 301) dL_refuses_285 (by decide) (fun c => absurd rfl c) (fun _ => k)) ?_
  refine we (fun _ _ k => zw_aload_n dL_refuses_288 rfl k) ?_
  refine we (fun _ _ k => zw_iconst (v := nI 4) dL_refuses_289 (by decide) k) ?_
  refine we (fun _ _ k => zw_cVi dL_refuses_290 (c_fund_bad (b := 0) hs (nI 4) (by decide)) rfl okX4_fund ml_L_9 hs.i hs.k (by decide) rfl (Nat.le_of_ble_eq_true rfl) (Nat.le_of_ble_eq_true rfl) k) ?_
  refine we (fun _ _ k => zw_iconst (v := (-1)) dL_refuses_293 (by decide) k) ?_
  refine we (fun _ _ k => zw_icmp_ne (tgt := 301) dL_refuses_294 (by decide) (fun c => absurd rfl c) (fun _ => k)) ?_
  refine we (fun _ _ k => zw_iconst (v := nI 1) dL_refuses_297 (by decide) k) ?_
  refine we (fun _ _ k => zw_goto (tgt := 302) dL_refuses_298 (by decide) k) ?_
  refine we (fun _ _ k => zw_istore dL_refuses_302 (by decide) k) ?_
  refine we (fun _ _ k => zw_iload dL_refuses_304 rfl k) ?_
  refine we (fun _ _ k => zw_if_eq (tgt := 353) dL_refuses_306 (by decide) (fun c => absurd c (by decide)) (fun _ => k)) ?_
  refine we (fun _ _ k => zw_aload_n dL_refuses_309 rfl k) ?_
  refine we (fun _ _ k => zw_iconst (v := nI 4) dL_refuses_310 (by decide) k) ?_
  refine we (fun _ _ k => zw_iconst (v := nI 0) dL_refuses_311 (by decide) k) ?_
  refine we (fun _ _ k => zw_cVi dL_refuses_312 (c_winner_bad (b := 0) hs hA.wf (nI 4) (nI 0) (show ¬ ((nI 0 ≤ nI 4 ∧ nI 4 ≤ nI 3) ∧ (nI 0 ≤ nI 0 ∧ nI 0 ≤ nI 23)) by decide)) rfl okX4_winner ml_L_29 hs.i hs.k (by decide) rfl (Nat.le_of_ble_eq_true rfl) (Nat.le_of_ble_eq_true rfl) k) ?_
  refine we (fun _ _ k => zw_iconst (v := (-1)) dL_refuses_315 (by decide) k) ?_
  refine we (fun _ _ k => zw_icmp_ne (tgt := 353) dL_refuses_316 (by decide) (fun c => absurd rfl c) (fun _ => k)) ?_
  refine we (fun _ _ k => zw_aload_n dL_refuses_319 rfl k) ?_
  refine we (fun _ _ k => zw_iconst (v := nI 0) dL_refuses_320 (by decide) k) ?_
  refine we (fun _ _ k => zw_iconst (v := nI 0) dL_refuses_321 (by decide) k) ?_
  refine we (fun _ _ k => zw_iconst (v := nI 2) dL_refuses_322 (by decide) k) ?_
  refine we (fun _ _ k => zw_cVi dL_refuses_323 (c_needed_bad (b := 0) hs hA.wf (nI 0) (nI 0) (nI 2) (fun h => absurd h.2 (by decide))) rfl okX4_needed ml_L_35 hs.i hs.k (by decide) rfl (Nat.le_of_ble_eq_true rfl) (Nat.le_of_ble_eq_true rfl) k) ?_
  refine we (fun _ _ k => zw_iconst (v := (-1)) dL_refuses_326 (by decide) k) ?_
  refine we (fun _ _ k => zw_icmp_ne (tgt := 353) dL_refuses_327 (by decide) (fun c => absurd rfl c) (fun _ => k)) ?_
  refine we (fun _ _ k => zw_aload_n dL_refuses_330 rfl k) ?_
  refine we (fun _ _ k => zw_iconst (v := nI 0) dL_refuses_331 (by decide) k) ?_
  refine we (fun _ _ k => zw_iconst (v := nI 3) dL_refuses_332 (by decide) k) ?_
  refine we (fun _ _ k => zw_cVi dL_refuses_333 (c_quiet_bad2 (b := 0) hs (st := 0) (by decide) (nI 3) (by decide)) rfl okX4_quiet ml_L_18 hs.i hs.k (by decide) rfl (Nat.le_of_ble_eq_true rfl) (Nat.le_of_ble_eq_true rfl) k) ?_
  refine we (fun _ _ k => zw_iconst (v := (-1)) dL_refuses_336 (by decide) k) ?_
  refine we (fun _ _ k => zw_icmp_ne (tgt := 353) dL_refuses_337 (by decide) (fun c => absurd rfl c) (fun _ => k)) ?_
  refine we (fun _ _ k => zw_aload_n dL_refuses_340 rfl k) ?_
  refine we (fun _ _ k => zw_iload_n dL_refuses_341 rfl k) ?_
  refine we (fun _ _ k => zw_cVi dL_refuses_342 (c_purseThen_bad (b := 0) hs hA.wf (nI P) (nP hP12)) rfl okX4_purseThen ml_L_51 hs.i hs.k (by decide) rfl (Nat.le_of_ble_eq_true rfl) (Nat.le_of_ble_eq_true rfl) k) ?_
  refine we (fun _ _ k => zw_iconst (v := (-1)) dL_refuses_345 (by decide) k) ?_
  refine we (fun _ _ k => zw_icmp_ne (tgt := 353) dL_refuses_346 (by decide) (fun c => absurd rfl c) (fun _ => k)) ?_
  refine we (fun _ _ k => zw_iconst (v := nI 1) dL_refuses_349 (by decide) k) ?_
  refine we (fun _ _ k => zw_goto (tgt := 354) dL_refuses_350 (by decide) k) ?_
  refine we (fun _ _ k => zw_istore dL_refuses_354 (by decide) k) ?_
  refine we (fun _ _ k => zw_iload dL_refuses_356 rfl k) ?_
  refine we (fun _ _ k => zw_if_eq (tgt := 393) dL_refuses_358 (by decide) (fun c => absurd c (by decide)) (fun _ => k)) ?_
  refine we (fun _ _ k => zw_aload_n dL_refuses_361 rfl k) ?_
  refine we (fun _ _ k => zw_bipush (v := nI 8) dL_refuses_362 (by decide) k) ?_
  refine we (fun _ _ k => zw_cVi dL_refuses_364 (q_c8 hs hA) rfl okX4_count ml_L_15 hs.i hs.k (by decide) rfl (Nat.le_of_ble_eq_true rfl) (Nat.le_of_ble_eq_true rfl) k) ?_
  refine we (fun _ _ k => zw_iload_n dL_refuses_367 rfl k) ?_
  refine we (fun _ _ k => zw_icmp_ne (tgt := 393) dL_refuses_368 (by decide) (fun c => absurd rfl c) (fun _ => k)) ?_
  refine we (fun _ _ k => zw_aload_n dL_refuses_371 rfl k) ?_
  refine we (fun _ _ k => zw_iconst (v := nI 5) dL_refuses_372 (by decide) k) ?_
  refine we (fun _ _ k => zw_cVi dL_refuses_373 (q_c5 hs hA) rfl okX4_count ml_L_15 hs.i hs.k (by decide) rfl (Nat.le_of_ble_eq_true rfl) (Nat.le_of_ble_eq_true rfl) k) ?_
  refine we (fun _ _ k => zw_iload_n dL_refuses_376 rfl k) ?_
  refine we (fun _ _ k => zw_icmp_ne (tgt := 393) dL_refuses_377 (by decide) (fun c => absurd rfl c) (fun _ => k)) ?_
  refine we (fun _ _ k => zw_aload_n dL_refuses_380 rfl k) ?_
  refine we (fun _ _ k => zw_iconst (v := nI 1) dL_refuses_381 (by decide) k) ?_
  refine we (fun _ _ k => zw_cVi dL_refuses_382 (q_c1 hs hA) rfl okX4_count ml_L_15 hs.i hs.k (by decide) rfl (Nat.le_of_ble_eq_true rfl) (Nat.le_of_ble_eq_true rfl) k) ?_
  refine we (fun _ _ k => zw_iload_n dL_refuses_385 rfl k) ?_
  refine we (fun _ _ k => zw_icmp_ne (tgt := 393) dL_refuses_386 (by decide) (fun c => absurd rfl c) (fun _ => k)) ?_
  refine we (fun _ _ k => zw_iconst (v := nI 1) dL_refuses_389 (by decide) k) ?_
  refine we (fun _ _ k => zw_goto (tgt := 394) dL_refuses_390 (by decide) k) ?_
  exact we_ret dL_refuses_394 rfl (Or.inr rfl) ⟨rfl, P, o, z, len, hP3, hA⟩
