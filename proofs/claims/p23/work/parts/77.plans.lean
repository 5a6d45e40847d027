/-! THE LAW'S METHODS: plans. -/
set_option maxRecDepth 100000 in
set_option maxHeartbeats 4000000 in
theorem l_plans {sh : Sh} {M : Mem} {P t o z len p st h sd k : Nat} (hs : IsSH sh 0) (hA : At t M P o z len) (hP3 : 3 ≤ P) (ht : t < 500) (hp : p < P) (hst : st < 4) (hh : h < 10) (hsd : sd < 2) (hk : k < 10) (hk2 : 2 ≤ k) : ∃ x C, Calls mL_plans 7 0 0 [.inr (some 0), .inl (nI p), .inl (nI st), .inl (nI h), .inl (nI sd), .inl (nI k)] sh M (some (.inl x)) sh C ∧ Ok (t + 1) x C := by
  have hP12 := hA.P12
  have hp12 : p < 12 := by omega
  have hslot : st * 24 + h < 96 := by omega
  obtain ⟨v3, hv3, hv3b, hv30, hv31⟩ : ∃ v3, nI v3 = ptx k sd st h 3 ∧ (1 ≤ v3 ∧ v3 ≤ 255) ∧ (sd = 0 → v3 = 113) ∧ (sd ≠ 0 → v3 = 110) := by
    show ∃ v3, nI v3 = (if sd = 0 then nI 113 else nI 110) ∧ _
    by_cases c : sd = 0
    · exact ⟨113, (if_pos c).symm, ⟨by decide, by decide⟩, fun _ => rfl, fun z => absurd c z⟩
    · exact ⟨110, (if_neg c).symm, ⟨by decide, by decide⟩, fun z => absurd z c, fun _ => rfl⟩
  obtain ⟨N0, hp0, hA0, hT0', hF0⟩ := a_clear hs hA
  have hT0 := hT0' (ptx k sd st h)
  obtain ⟨N1, hp1, hA1, hT1, hF1⟩ := a_append hs hA0 hT0 (by decide) (m := 1) rfl (v := 48 + k) ⟨by omega, by omega⟩ rfl
  obtain ⟨N2, hp2, hA2, hT2, hF2⟩ := a_append hs hA1 hT1 (by decide) (m := 2) rfl (v := 42) ⟨by omega, by omega⟩ rfl
  obtain ⟨N3, hp3, hA3, hT3, hF3⟩ := a_append hs hA2 hT2 (by decide) (m := 3) rfl (v := 40) ⟨by omega, by omega⟩ rfl
  obtain ⟨N4, hp4, hA4, hT4, hF4⟩ := a_append hs hA3 hT3 (by decide) (m := 4) rfl (v := v3) hv3b hv3
  obtain ⟨N5, hp5, hA5, hT5, hF5⟩ := a_append hs hA4 hT4 (by decide) (m := 5) rfl (v := 48 + st) ⟨by omega, by omega⟩ rfl
  obtain ⟨N6, hp6, hA6, hT6, hF6⟩ := a_append hs hA5 hT5 (by decide) (m := 6) rfl (v := 58) ⟨by omega, by omega⟩ rfl
  obtain ⟨N7, hp7, hA7, hT7, hF7⟩ := a_append hs hA6 hT6 (by decide) (m := 7) rfl (v := 48 + h) ⟨by omega, by omega⟩ rfl
  obtain ⟨N8, hp8, hA8, hT8, hF8⟩ := a_append hs hA7 hT7 (by decide) (m := 8) rfl (v := 61) ⟨by omega, by omega⟩ rfl
  obtain ⟨N9, hp9, hA9, hT9, hF9⟩ := a_append hs hA8 hT8 (by decide) (m := 9) rfl (v := 51) ⟨by omega, by omega⟩ rfl
  obtain ⟨N10, hp10, hA10, hT10, hF10⟩ := a_append hs hA9 hT9 (by decide) (m := 10) rfl (v := 59) ⟨by omega, by omega⟩ rfl
  obtain ⟨N11, hp11, hA11, hT11, hF11⟩ := a_append hs hA10 hT10 (by decide) (m := 11) rfl (v := 41) ⟨by omega, by omega⟩ rfl
  obtain ⟨e, v, e1, e2, v1, v2, hbE⟩ := hA11.1.bE (by omega) hp12 hslot (a := 3 * k) (by omega)
  obtain ⟨kb, hkb, hok⟩ := hA11.1.1.mk hp12 hslot
  have eam := amt_k hkb hok
  obtain ⟨am, ham⟩ : ∃ am, amt N11 1 p (st * 24 + h) = am := ⟨_, rfl⟩
  have ham2 := (hA11.1.bA hp12 hslot).2.1
  rw [ham] at eam hbE ham2
  unfold okm at hok
  have hz5 := hA.z5
  have hzN := (zN_p (z := z)).2 hz5
  suffices hw : WE mL_plans 7 0 [some (.inr (some 0)), some (.inl (nI p)), some (.inl (nI st)), some (.inl (nI h)), some (.inl (nI sd)), some (.inl (nI k)), none, none, none, none, none, none, none, none] [] sh M (Ok (t + 1)) from we_calls plL (Nat.le_of_ble_eq_true rfl) hw
  refine we (fun _ _ k => zw_aload_n dL_plans_0 rfl k) ?_
  refine we (fun _ _ k => zw_cVi dL_plans_1 (hp0) rfl okX4_clearText ml_L_60 hs.i hs.k (by decide) rfl (Nat.le_of_ble_eq_true rfl) (Nat.le_of_ble_eq_true rfl) k) ?_
  refine we (fun _ _ k => zw_pop dL_plans_4 k) ?_
  refine we (fun _ _ k => zw_aload_n dL_plans_5 rfl k) ?_
  refine we (fun _ _ k => zw_bipush (v := nI 48) dL_plans_6 (by decide) k) ?_
  refine we (fun _ _ k => zw_iload dL_plans_8 rfl k) ?_
  refine we (fun _ _ k => zw_iaddn dL_plans_10 k) ?_
  refine we (fun _ _ k => zw_cVi dL_plans_11 (hp1) rfl okX4_append ml_L_63 hs.i hs.k (by decide) rfl (Nat.le_of_ble_eq_true rfl) (Nat.le_of_ble_eq_true rfl) k) ?_
  refine we (fun _ _ k => zw_pop dL_plans_14 k) ?_
  refine we (fun _ _ k => zw_aload_n dL_plans_15 rfl k) ?_
  refine we (fun _ _ k => zw_bipush (v := nI 42) dL_plans_16 (by decide) k) ?_
  refine we (fun _ _ k => zw_cVi dL_plans_18 (hp2) rfl okX4_append ml_L_63 hs.i hs.k (by decide) rfl (Nat.le_of_ble_eq_true rfl) (Nat.le_of_ble_eq_true rfl) k) ?_
  refine we (fun _ _ k => zw_pop dL_plans_21 k) ?_
  refine we (fun _ _ k => zw_aload_n dL_plans_22 rfl k) ?_
  refine we (fun _ _ k => zw_bipush (v := nI 40) dL_plans_23 (by decide) k) ?_
  refine we (fun _ _ k => zw_cVi dL_plans_25 (hp3) rfl okX4_append ml_L_63 hs.i hs.k (by decide) rfl (Nat.le_of_ble_eq_true rfl) (Nat.le_of_ble_eq_true rfl) k) ?_
  refine we (fun _ _ k => zw_pop dL_plans_28 k) ?_
  have J42 : WE mL_plans 7 42 [some (.inr (some 0)), some (.inl (nI p)), some (.inl (nI st)), some (.inl (nI h)), some (.inl (nI sd)), some (.inl (nI k)), none, none, none, none, none, none, none, none] [.inl (nI v3), .inr (some 0)] sh N3 (Ok (t + 1)) := by
    refine we (fun _ _ k => zw_cVi dL_plans_42 (hp4) rfl okX4_append ml_L_63 hs.i hs.k (by decide) rfl (Nat.le_of_ble_eq_true rfl) (Nat.le_of_ble_eq_true rfl) k) ?_
    refine we (fun _ _ k => zw_pop dL_plans_45 k) ?_
    refine we (fun _ _ k => zw_aload_n dL_plans_46 rfl k) ?_
    refine we (fun _ _ k => zw_bipush (v := nI 48) dL_plans_47 (by decide) k) ?_
    refine we (fun _ _ k => zw_iload_n dL_plans_49 rfl k) ?_
    refine we (fun _ _ k => zw_iaddn dL_plans_50 k) ?_
    refine we (fun _ _ k => zw_cVi dL_plans_51 (hp5) rfl okX4_append ml_L_63 hs.i hs.k (by decide) rfl (Nat.le_of_ble_eq_true rfl) (Nat.le_of_ble_eq_true rfl) k) ?_
    refine we (fun _ _ k => zw_pop dL_plans_54 k) ?_
    refine we (fun _ _ k => zw_aload_n dL_plans_55 rfl k) ?_
    refine we (fun _ _ k => zw_bipush (v := nI 58) dL_plans_56 (by decide) k) ?_
    refine we (fun _ _ k => zw_cVi dL_plans_58 (hp6) rfl okX4_append ml_L_63 hs.i hs.k (by decide) rfl (Nat.le_of_ble_eq_true rfl) (Nat.le_of_ble_eq_true rfl) k) ?_
    refine we (fun _ _ k => zw_pop dL_plans_61 k) ?_
    refine we (fun _ _ k => zw_aload_n dL_plans_62 rfl k) ?_
    refine we (fun _ _ k => zw_bipush (v := nI 48) dL_plans_63 (by decide) k) ?_
    refine we (fun _ _ k => zw_iload_n dL_plans_65 rfl k) ?_
    refine we (fun _ _ k => zw_iaddn dL_plans_66 k) ?_
    refine we (fun _ _ k => zw_cVi dL_plans_67 (hp7) rfl okX4_append ml_L_63 hs.i hs.k (by decide) rfl (Nat.le_of_ble_eq_true rfl) (Nat.le_of_ble_eq_true rfl) k) ?_
    refine we (fun _ _ k => zw_pop dL_plans_70 k) ?_
    refine we (fun _ _ k => zw_aload_n dL_plans_71 rfl k) ?_
    refine we (fun _ _ k => zw_bipush (v := nI 61) dL_plans_72 (by decide) k) ?_
    refine we (fun _ _ k => zw_cVi dL_plans_74 (hp8) rfl okX4_append ml_L_63 hs.i hs.k (by decide) rfl (Nat.le_of_ble_eq_true rfl) (Nat.le_of_ble_eq_true rfl) k) ?_
    refine we (fun _ _ k => zw_pop dL_plans_77 k) ?_
    refine we (fun _ _ k => zw_aload_n dL_plans_78 rfl k) ?_
    refine we (fun _ _ k => zw_bipush (v := nI 51) dL_plans_79 (by decide) k) ?_
    refine we (fun _ _ k => zw_cVi dL_plans_81 (hp9) rfl okX4_append ml_L_63 hs.i hs.k (by decide) rfl (Nat.le_of_ble_eq_true rfl) (Nat.le_of_ble_eq_true rfl) k) ?_
    refine we (fun _ _ k => zw_pop dL_plans_84 k) ?_
    refine we (fun _ _ k => zw_aload_n dL_plans_85 rfl k) ?_
    refine we (fun _ _ k => zw_bipush (v := nI 59) dL_plans_86 (by decide) k) ?_
    refine we (fun _ _ k => zw_cVi dL_plans_88 (hp10) rfl okX4_append ml_L_63 hs.i hs.k (by decide) rfl (Nat.le_of_ble_eq_true rfl) (Nat.le_of_ble_eq_true rfl) k) ?_
    refine we (fun _ _ k => zw_pop dL_plans_91 k) ?_
    refine we (fun _ _ k => zw_aload_n dL_plans_92 rfl k) ?_
    refine we (fun _ _ k => zw_bipush (v := nI 41) dL_plans_93 (by decide) k) ?_
    refine we (fun _ _ k => zw_cVi dL_plans_95 (hp11) rfl okX4_append ml_L_63 hs.i hs.k (by decide) rfl (Nat.le_of_ble_eq_true rfl) (Nat.le_of_ble_eq_true rfl) k) ?_
    refine we (fun _ _ k => zw_istore dL_plans_98 (by decide) k) ?_
    refine we (fun _ _ k => zw_aload_n dL_plans_100 rfl k) ?_
    refine we (fun _ _ k => zw_iload_n dL_plans_101 rfl k) ?_
    refine we (fun _ _ k => zw_iconst (v := nI 1) dL_plans_102 (by decide) k) ?_
    refine we (fun _ _ k => zw_cVi dL_plans_103 (q_p1 hs hA11 hp) rfl okX4_person ml_L_22 hs.i hs.k (by decide) rfl (Nat.le_of_ble_eq_true rfl) (Nat.le_of_ble_eq_true rfl) k) ?_
    refine we_top (x2 := nI v) v1 ?_
    refine we (fun _ _ k => zw_istore dL_plans_106 (by decide) k) ?_
    refine we (fun _ _ k => zw_aload_n dL_plans_108 rfl k) ?_
    refine we (fun _ _ k => zw_iload_n dL_plans_109 rfl k) ?_
    refine we (fun _ _ k => zw_iload_n dL_plans_110 rfl k) ?_
    refine we (fun _ _ k => zw_iload_n dL_plans_111 rfl k) ?_
    refine we (fun _ _ k => zw_cVi dL_plans_112 (q_bo hs hA11 hp hst (by omega)) rfl okX4_bidOf ml_L_25 hs.i hs.k (by decide) rfl (Nat.le_of_ble_eq_true rfl) (Nat.le_of_ble_eq_true rfl) k) ?_
    rcases Nat.eq_zero_or_pos kb with hk0 | hk0
    · refine we_top (x2 := (-9)) (bv_0 (by rw [hkb, hk0])) ?_
      refine we (fun _ _ k => zw_istore dL_plans_115 (by decide) k) ?_
      refine we (fun _ _ k => zw_iconst (v := nI 3) dL_plans_117 (by decide) k) ?_
      refine we (fun _ _ k => zw_iload dL_plans_118 rfl k) ?_
      refine we (fun _ _ k => zw_imuln dL_plans_120 k) ?_
      refine we (fun _ _ k => zw_istore dL_plans_121 (by decide) k) ?_
      refine we (fun _ _ k => zw_iload dL_plans_123 rfl k) ?_
      refine we (fun _ _ k => zw_iload dL_plans_125 rfl k) ?_
      refine we (fun _ _ k => zw_if_ge (tgt := 134) dL_plans_127 (by decide) (fun c => absurd (by decide) c) (fun _ => k)) ?_
      refine we (fun _ _ k => zw_iconst (v := nI 0) dL_plans_130 (by decide) k) ?_
      refine we (fun _ _ k => zw_goto (tgt := 140) dL_plans_131 (by decide) k) ?_
      refine we (fun _ _ k => zw_iaddn dL_plans_140 k) ?_
      refine we_top (x2 := nI (v + am)) (congrArg nI (by omega)) ?_
      rcases (show (e = 0 ∧ 3 * k ≤ v + am) ∨ 0 < e ∨ (e = 0 ∧ v + am < 3 * k) by omega) with hl | hl | hl
      · have he : bE N11 1 p (st * 24 + h) (nI (3 * k)) = 0 := by
          rw [hbE, if_neg (by omega)]
          exact nI_0
        obtain ⟨v', Mr, y1, y2, y3, hrun, hAr, hSr, hTr, hbr, hfr, h4r⟩ := a_run_ok hs (by omega) hA11 hp hk hk2 hsd hst hh hT11 he
        have evv : v' = v := (nI_eq (by omega) (by omega)).mp (y1.symm.trans v1)
        subst v'
        rw [ham] at hfr
        have hsd01 : nI sd = nI 0 ∨ nI sd = nI 1 := by
          rcases (show sd = 0 ∨ sd = 1 by omega) with c | c
          · exact Or.inl (by rw [c])
          · exact Or.inr (by rw [c])
        have hbr2 : bm Mr 1 p (st * 24 + h) = nI (1000 * sd + 3 * k) := by
          rw [hbr, (mkB_n (by omega) hsd01).2.2.2.2, if_neg (by omega), nI_mul, nI_add]
          congr 1
          omega
        obtain ⟨Mu, hu, hAu, hSu, hFu⟩ := a_undo hs hAr zN_p.1 hSr hA11.1
        have hTu : PlOk Mu 115 11 (ptx k sd st h) := by
          refine ⟨hAu.2.2.1.1, by decide, fun j hj => ?_⟩
          show Mu 116 j = _
          rw [hFu 116 (by decide) (by decide)]
          exact hTr.2.2 j hj
        have hfu : fM Mu 1 p = nI v := by
          rw [← v1]
          show Mu (1 + 1) p - Mu (1 + 2) p = N11 (1 + 1) p - N11 (1 + 2) p
          rw [hSu.pe (i := 1) (by decide) (by decide) hp12, hSu.pe (i := 2) (by decide) (by decide) hp12]
        have hbu : bm Mu 1 p (st * 24 + h) = bm N11 1 p (st * 24 + h) := (hSu.m hp12 hslot).symm
        obtain ⟨Mv, hpv, hAv, hTv, -⟩ := a_append hs hAu hTu (by decide) (m := 12) rfl (v := 41) ⟨by omega, by omega⟩ rfl
        obtain ⟨Mw, hw12, hAw, f0, f1, f2, f3, f4⟩ := a_run_12 hs hAv hp hk hk2 hsd hst hh hTv
        have hf0 : ¬ Mw (0 + 133) 0 = 0 := by rw [show Mw (0 + 133) 0 = nI 1 from f0]; decide
        obtain ⟨Mz, hcz, hAz, -, -⟩ := a_clear hs hAw
        refine we (fun _ _ k => zw_iload dL_plans_141 rfl k) ?_
        refine we (fun _ _ k => zw_isubn dL_plans_143 (by omega) k) ?_
        refine we (fun _ _ k => zw_istore dL_plans_144 (by decide) k) ?_
        refine we (fun _ _ k => zw_aload_n dL_plans_146 rfl k) ?_
        refine we (fun _ _ k => zw_bipush (v := nI 8) dL_plans_147 (by decide) k) ?_
        refine we (fun _ _ k => zw_cVi dL_plans_149 (q_c8 hs hA11) rfl okX4_count ml_L_15 hs.i hs.k (by decide) rfl (Nat.le_of_ble_eq_true rfl) (Nat.le_of_ble_eq_true rfl) k) ?_
        refine we (fun _ _ k => zw_istore dL_plans_152 (by decide) k) ?_
        refine we (fun _ _ k => zw_aload_n dL_plans_154 rfl k) ?_
        refine we (fun _ _ k => zw_iload_n dL_plans_155 rfl k) ?_
        refine we (fun _ _ k => zw_cVi dL_plans_156 (hrun) rfl okX4_run ml_L_66 hs.i hs.k (by decide) rfl (Nat.le_of_ble_eq_true rfl) (Nat.le_of_ble_eq_true rfl) k) ?_
        refine we (fun _ _ k => zw_istore dL_plans_159 (by decide) k) ?_
        refine we (fun _ _ k => zw_aload_n dL_plans_161 rfl k) ?_
        refine we (fun _ _ k => zw_iload_n dL_plans_162 rfl k) ?_
        refine we (fun _ _ k => zw_iconst (v := nI 2) dL_plans_163 (by decide) k) ?_
        refine we (fun _ _ k => zw_cVi dL_plans_164 (q_p2 hs hAr hp) rfl okX4_person ml_L_22 hs.i hs.k (by decide) rfl (Nat.le_of_ble_eq_true rfl) (Nat.le_of_ble_eq_true rfl) k) ?_
        refine we_top (x2 := nI 0) (h4r.trans (e1.trans (by rw [hl.1]))) ?_
        refine we (fun _ _ k => zw_if_gt (tgt := 175) dL_plans_167 (by decide) (fun c => absurd c (by decide)) (fun _ => k)) ?_
        refine we (fun _ _ k => zw_iload dL_plans_170 rfl k) ?_
        refine we (fun _ _ k => zw_if_ge (tgt := 256) dL_plans_172 (by decide) (fun _ => k) (fun c => absurd c (nI_pos (by omega)))) ?_
        refine we (fun _ _ k => zw_iload dL_plans_256 rfl k) ?_
        refine we (fun _ _ k => zw_iconst (v := nI 1) dL_plans_258 (by decide) k) ?_
        refine we (fun _ _ k => zw_icmp_ne (tgt := 307) dL_plans_259 (by decide) (fun c => absurd (by decide) c) (fun _ => k)) ?_
        refine we (fun _ _ k => zw_aload_n dL_plans_262 rfl k) ?_
        refine we (fun _ _ k => zw_iload_n dL_plans_263 rfl k) ?_
        refine we (fun _ _ k => zw_iconst (v := nI 1) dL_plans_264 (by decide) k) ?_
        refine we (fun _ _ k => zw_cVi dL_plans_265 (q_p1 hs hAr hp) rfl okX4_person ml_L_22 hs.i hs.k (by decide) rfl (Nat.le_of_ble_eq_true rfl) (Nat.le_of_ble_eq_true rfl) k) ?_
        refine we_top (x2 := nI ((v + am) - (3 * k))) hfr ?_
        refine we (fun _ _ k => zw_iload dL_plans_268 rfl k) ?_
        refine we (fun _ _ k => zw_icmp_ne (tgt := 307) dL_plans_270 (by decide) (fun c => absurd rfl c) (fun _ => k)) ?_
        refine we (fun _ _ k => zw_aload_n dL_plans_273 rfl k) ?_
        refine we (fun _ _ k => zw_iload_n dL_plans_274 rfl k) ?_
        refine we (fun _ _ k => zw_iload_n dL_plans_275 rfl k) ?_
        refine we (fun _ _ k => zw_iload_n dL_plans_276 rfl k) ?_
        refine we (fun _ _ k => zw_cVi dL_plans_277 (q_bo hs hAr hp hst (by omega)) rfl okX4_bidOf ml_L_25 hs.i hs.k (by decide) rfl (Nat.le_of_ble_eq_true rfl) (Nat.le_of_ble_eq_true rfl) k) ?_
        refine we_top (x2 := nI ((1000 * sd) + (3 * k))) (bv_p hbr2 (by omega) (by omega)) ?_
        refine we (fun _ _ k => zw_sipush (v := nI 1000) dL_plans_280 (by decide) k) ?_
        refine we (fun _ _ k => zw_iload dL_plans_283 rfl k) ?_
        refine we (fun _ _ k => zw_imuln dL_plans_285 k) ?_
        refine we (fun _ _ k => zw_iload dL_plans_286 rfl k) ?_
        refine we (fun _ _ k => zw_iaddn dL_plans_288 k) ?_
        refine we (fun _ _ k => zw_icmp_ne (tgt := 307) dL_plans_289 (by decide) (fun c => absurd rfl c) (fun _ => k)) ?_
        refine we (fun _ _ k => zw_aload_n dL_plans_292 rfl k) ?_
        refine we (fun _ _ k => zw_bipush (v := nI 9) dL_plans_293 (by decide) k) ?_
        refine we (fun _ _ k => zw_cVi dL_plans_295 (q_c9 hs hAr) rfl okX4_count ml_L_15 hs.i hs.k (by decide) rfl (Nat.le_of_ble_eq_true rfl) (Nat.le_of_ble_eq_true rfl) k) ?_
        refine we (fun _ _ k => zw_iload dL_plans_298 rfl k) ?_
        refine we (fun _ _ k => zw_icmp_ne (tgt := 307) dL_plans_300 (by decide) (fun c => absurd (by decide) c) (fun _ => k)) ?_
        refine we (fun _ _ k => zw_iconst (v := nI 1) dL_plans_303 (by decide) k) ?_
        refine we (fun _ _ k => zw_goto (tgt := 308) dL_plans_304 (by decide) k) ?_
        refine we (fun _ _ k => zw_istore dL_plans_308 (by decide) k) ?_
        refine we (fun _ _ k => zw_iload dL_plans_310 rfl k) ?_
        refine we (fun _ _ k => zw_if_eq (tgt := 349) dL_plans_312 (by decide) (fun c => absurd c (by decide)) (fun _ => k)) ?_
        refine we (fun _ _ k => zw_aload_n dL_plans_315 rfl k) ?_
        refine we (fun _ _ k => zw_cVi dL_plans_316 (hu) rfl okX4_undo ml_L_42 hs.i hs.k (by decide) rfl (Nat.le_of_ble_eq_true rfl) (Nat.le_of_ble_eq_true rfl) k) ?_
        refine we (fun _ _ k => zw_if_lt (tgt := 349) dL_plans_319 (by decide) (fun c => absurd c (nI_pos (by omega))) (fun _ => k)) ?_
        refine we (fun _ _ k => zw_aload_n dL_plans_322 rfl k) ?_
        refine we (fun _ _ k => zw_iload_n dL_plans_323 rfl k) ?_
        refine we (fun _ _ k => zw_iconst (v := nI 1) dL_plans_324 (by decide) k) ?_
        refine we (fun _ _ k => zw_cVi dL_plans_325 (q_p1 hs hAu hp) rfl okX4_person ml_L_22 hs.i hs.k (by decide) rfl (Nat.le_of_ble_eq_true rfl) (Nat.le_of_ble_eq_true rfl) k) ?_
        refine we_top (x2 := nI v) hfu ?_
        refine we (fun _ _ k => zw_iload dL_plans_328 rfl k) ?_
        refine we (fun _ _ k => zw_icmp_ne (tgt := 349) dL_plans_330 (by decide) (fun c => absurd rfl c) (fun _ => k)) ?_
        refine we (fun _ _ k => zw_aload_n dL_plans_333 rfl k) ?_
        refine we (fun _ _ k => zw_iload_n dL_plans_334 rfl k) ?_
        refine we (fun _ _ k => zw_iload_n dL_plans_335 rfl k) ?_
        refine we (fun _ _ k => zw_iload_n dL_plans_336 rfl k) ?_
        refine we (fun _ _ k => zw_cVi dL_plans_337 (q_bo hs hAu hp hst (by omega)) rfl okX4_bidOf ml_L_25 hs.i hs.k (by decide) rfl (Nat.le_of_ble_eq_true rfl) (Nat.le_of_ble_eq_true rfl) k) ?_
        refine we_top (x2 := (-9)) (bv_0 (hbu.trans (by rw [hkb, hk0]))) ?_
        refine we (fun _ _ k => zw_iload dL_plans_340 rfl k) ?_
        refine we (fun _ _ k => zw_icmp_ne (tgt := 349) dL_plans_342 (by decide) (fun c => absurd rfl c) (fun _ => k)) ?_
        refine we (fun _ _ k => zw_iconst (v := nI 1) dL_plans_345 (by decide) k) ?_
        refine we (fun _ _ k => zw_goto (tgt := 350) dL_plans_346 (by decide) k) ?_
        refine we (fun _ _ k => zw_istore dL_plans_350 (by decide) k) ?_
        refine we (fun _ _ k => zw_iload dL_plans_352 rfl k) ?_
        refine we (fun _ _ k => zw_if_eq (tgt := 426) dL_plans_354 (by decide) (fun c => absurd c (by decide)) (fun _ => k)) ?_
        refine we (fun _ _ k => zw_aload_n dL_plans_357 rfl k) ?_
        refine we (fun _ _ k => zw_bipush (v := nI 41) dL_plans_358 (by decide) k) ?_
        refine we (fun _ _ k => zw_cVi dL_plans_360 (hpv) rfl okX4_append ml_L_63 hs.i hs.k (by decide) rfl (Nat.le_of_ble_eq_true rfl) (Nat.le_of_ble_eq_true rfl) k) ?_
        refine we (fun _ _ k => zw_iload dL_plans_363 rfl k) ?_
        refine we (fun _ _ k => zw_iconst (v := nI 1) dL_plans_365 (by decide) k) ?_
        refine we (fun _ _ k => zw_iaddn dL_plans_366 k) ?_
        refine we (fun _ _ k => zw_icmp_ne (tgt := 426) dL_plans_367 (by decide) (fun c => absurd rfl c) (fun _ => k)) ?_
        refine we (fun _ _ k => zw_aload_n dL_plans_370 rfl k) ?_
        refine we (fun _ _ k => zw_iload_n dL_plans_371 rfl k) ?_
        refine we (fun _ _ k => zw_cVi dL_plans_372 (hw12) rfl okX4_run ml_L_66 hs.i hs.k (by decide) rfl (Nat.le_of_ble_eq_true rfl) (Nat.le_of_ble_eq_true rfl) k) ?_
        refine we (fun _ _ k => zw_sipush (v := (-1000)) dL_plans_375 (by decide) k) ?_
        refine we (fun _ _ k => zw_iload dL_plans_378 rfl k) ?_
        refine we (fun _ _ k => zw_isub dL_plans_380 k) ?_
        refine we (fun _ _ k => zw_icmp_ne (tgt := 426) dL_plans_381 (by decide) (fun c => absurd rfl c) (fun _ => k)) ?_
        refine we (fun _ _ k => zw_aload_n dL_plans_384 rfl k) ?_
        refine we (fun _ _ k => zw_iconst (v := nI 0) dL_plans_385 (by decide) k) ?_
        refine we (fun _ _ k => zw_cVi dL_plans_386 (c_failure_ok (b := 0) hs (i := 0) (by decide) hf0) rfl okX4_failure ml_L_69 hs.i hs.k (by decide) rfl (Nat.le_of_ble_eq_true rfl) (Nat.le_of_ble_eq_true rfl) k) ?_
        refine we_top (x2 := nI 1) f0 ?_
        refine we (fun _ _ k => zw_iconst (v := nI 1) dL_plans_389 (by decide) k) ?_
        refine we (fun _ _ k => zw_icmp_ne (tgt := 426) dL_plans_390 (by decide) (fun c => absurd (by decide) c) (fun _ => k)) ?_
        refine we (fun _ _ k => zw_aload_n dL_plans_393 rfl k) ?_
        refine we (fun _ _ k => zw_iconst (v := nI 2) dL_plans_394 (by decide) k) ?_
        refine we (fun _ _ k => zw_cVi dL_plans_395 (c_failure_ok (b := 0) hs (i := 2) (by decide) hf0) rfl okX4_failure ml_L_69 hs.i hs.k (by decide) rfl (Nat.le_of_ble_eq_true rfl) (Nat.le_of_ble_eq_true rfl) k) ?_
        refine we_top (x2 := nI 0) f2 ?_
        refine we (fun _ _ k => zw_if_ne (tgt := 426) dL_plans_398 (by decide) (fun c => absurd (by decide) c) (fun _ => k)) ?_
        refine we (fun _ _ k => zw_aload_n dL_plans_401 rfl k) ?_
        refine we (fun _ _ k => zw_iconst (v := nI 4) dL_plans_402 (by decide) k) ?_
        refine we (fun _ _ k => zw_cVi dL_plans_403 (c_failure_ok (b := 0) hs (i := 4) (by decide) hf0) rfl okX4_failure ml_L_69 hs.i hs.k (by decide) rfl (Nat.le_of_ble_eq_true rfl) (Nat.le_of_ble_eq_true rfl) k) ?_
        refine we_top (x2 := (-9)) f4 ?_
        refine we (fun _ _ k => zw_bipush (v := (-9)) dL_plans_406 (by decide) k) ?_
        refine we (fun _ _ k => zw_icmp_ne (tgt := 426) dL_plans_408 (by decide) (fun c => absurd rfl c) (fun _ => k)) ?_
        refine we (fun _ _ k => zw_aload_n dL_plans_411 rfl k) ?_
        refine we (fun _ _ k => zw_cVi dL_plans_412 (hcz) rfl okX4_clearText ml_L_60 hs.i hs.k (by decide) rfl (Nat.le_of_ble_eq_true rfl) (Nat.le_of_ble_eq_true rfl) k) ?_
        refine we (fun _ _ k => zw_iload dL_plans_415 rfl k) ?_
        refine we (fun _ _ k => zw_iconst (v := nI 1) dL_plans_417 (by decide) k) ?_
        refine we (fun _ _ k => zw_iaddn dL_plans_418 k) ?_
        refine we (fun _ _ k => zw_icmp_ne (tgt := 426) dL_plans_419 (by decide) (fun c => absurd rfl c) (fun _ => k)) ?_
        refine we (fun _ _ k => zw_iconst (v := nI 1) dL_plans_422 (by decide) k) ?_
        refine we (fun _ _ k => zw_goto (tgt := 427) dL_plans_423 (by decide) k) ?_
        exact we_ret dL_plans_427 rfl (Or.inr rfl) ⟨rfl, P, _, _, _, hP3, hAz.mono (Nat.le_succ t)⟩
      · have he : bE N11 1 p (st * 24 + h) (nI (3 * k)) = (-2) := by
          rw [hbE, if_pos (by omega)]
        obtain ⟨Mn, hrun, hAn, hSn, f0, f1, f2, f3, f4⟩ := a_run_no hs hA11 hp hk hk2 hsd hst hh hT11 he
        have h4n : Mn 4 p = nI e := (hSn.pe (i := 3) (by decide) (by decide) hp12).symm.trans e1
        have hfn : fM Mn 1 p = nI v := by
          rw [← v1]
          show Mn (1 + 1) p - Mn (1 + 2) p = N11 (1 + 1) p - N11 (1 + 2) p
          rw [hSn.pe (i := 1) (by decide) (by decide) hp12, hSn.pe (i := 2) (by decide) (by decide) hp12]
        have hf0 : ¬ Mn (0 + 133) 0 = 0 := by rw [show Mn (0 + 133) 0 = nI 2 from f0]; decide
        refine we (fun _ _ k => zw_iload dL_plans_141 rfl k) ?_
        refine we (fun _ _ k => zw_isub dL_plans_143 k) ?_
        refine we (fun _ _ k => zw_istore dL_plans_144 (by decide) k) ?_
        refine we (fun _ _ k => zw_aload_n dL_plans_146 rfl k) ?_
        refine we (fun _ _ k => zw_bipush (v := nI 8) dL_plans_147 (by decide) k) ?_
        refine we (fun _ _ k => zw_cVi dL_plans_149 (q_c8 hs hA11) rfl okX4_count ml_L_15 hs.i hs.k (by decide) rfl (Nat.le_of_ble_eq_true rfl) (Nat.le_of_ble_eq_true rfl) k) ?_
        refine we (fun _ _ k => zw_istore dL_plans_152 (by decide) k) ?_
        refine we (fun _ _ k => zw_aload_n dL_plans_154 rfl k) ?_
        refine we (fun _ _ k => zw_iload_n dL_plans_155 rfl k) ?_
        refine we (fun _ _ k => zw_cVi dL_plans_156 (hrun) rfl okX4_run ml_L_66 hs.i hs.k (by decide) rfl (Nat.le_of_ble_eq_true rfl) (Nat.le_of_ble_eq_true rfl) k) ?_
        refine we (fun _ _ k => zw_istore dL_plans_159 (by decide) k) ?_
        refine we (fun _ _ k => zw_aload_n dL_plans_161 rfl k) ?_
        refine we (fun _ _ k => zw_iload_n dL_plans_162 rfl k) ?_
        refine we (fun _ _ k => zw_iconst (v := nI 2) dL_plans_163 (by decide) k) ?_
        refine we (fun _ _ k => zw_cVi dL_plans_164 (q_p2 hs hAn hp) rfl okX4_person ml_L_22 hs.i hs.k (by decide) rfl (Nat.le_of_ble_eq_true rfl) (Nat.le_of_ble_eq_true rfl) k) ?_
        refine we_top (x2 := nI e) h4n ?_
        refine we (fun _ _ k => zw_if_gt (tgt := 175) dL_plans_167 (by decide) (fun _ => k) (fun c => absurd (nI_gt hl (by omega)) c)) ?_
        refine we (fun _ _ k => zw_iload dL_plans_175 rfl k) ?_
        refine we (fun _ _ k => zw_sipush (v := (-1003)) dL_plans_177 (by decide) k) ?_
        refine we (fun _ _ k => zw_icmp_ne (tgt := 254) dL_plans_180 (by decide) (fun c => absurd rfl c) (fun _ => k)) ?_
        refine we (fun _ _ k => zw_aload_n dL_plans_183 rfl k) ?_
        refine we (fun _ _ k => zw_iconst (v := nI 0) dL_plans_184 (by decide) k) ?_
        refine we (fun _ _ k => zw_cVi dL_plans_185 (c_failure_ok (b := 0) hs (i := 0) (by decide) hf0) rfl okX4_failure ml_L_69 hs.i hs.k (by decide) rfl (Nat.le_of_ble_eq_true rfl) (Nat.le_of_ble_eq_true rfl) k) ?_
        refine we_top (x2 := nI 2) f0 ?_
        refine we (fun _ _ k => zw_iconst (v := nI 2) dL_plans_188 (by decide) k) ?_
        refine we (fun _ _ k => zw_icmp_ne (tgt := 254) dL_plans_189 (by decide) (fun c => absurd (by decide) c) (fun _ => k)) ?_
        refine we (fun _ _ k => zw_aload_n dL_plans_192 rfl k) ?_
        refine we (fun _ _ k => zw_iconst (v := nI 1) dL_plans_193 (by decide) k) ?_
        refine we (fun _ _ k => zw_cVi dL_plans_194 (c_failure_ok (b := 0) hs (i := 1) (by decide) hf0) rfl okX4_failure ml_L_69 hs.i hs.k (by decide) rfl (Nat.le_of_ble_eq_true rfl) (Nat.le_of_ble_eq_true rfl) k) ?_
        refine we_top (x2 := nI 3) f1 ?_
        refine we (fun _ _ k => zw_iconst (v := nI 3) dL_plans_197 (by decide) k) ?_
        refine we (fun _ _ k => zw_icmp_ne (tgt := 254) dL_plans_198 (by decide) (fun c => absurd (by decide) c) (fun _ => k)) ?_
        refine we (fun _ _ k => zw_aload_n dL_plans_201 rfl k) ?_
        refine we (fun _ _ k => zw_iconst (v := nI 2) dL_plans_202 (by decide) k) ?_
        refine we (fun _ _ k => zw_cVi dL_plans_203 (c_failure_ok (b := 0) hs (i := 2) (by decide) hf0) rfl okX4_failure ml_L_69 hs.i hs.k (by decide) rfl (Nat.le_of_ble_eq_true rfl) (Nat.le_of_ble_eq_true rfl) k) ?_
        refine we_top (x2 := nI 1) f2 ?_
        refine we (fun _ _ k => zw_iconst (v := nI 1) dL_plans_206 (by decide) k) ?_
        refine we (fun _ _ k => zw_icmp_ne (tgt := 254) dL_plans_207 (by decide) (fun c => absurd (by decide) c) (fun _ => k)) ?_
        refine we (fun _ _ k => zw_aload_n dL_plans_210 rfl k) ?_
        refine we (fun _ _ k => zw_iconst (v := nI 3) dL_plans_211 (by decide) k) ?_
        refine we (fun _ _ k => zw_cVi dL_plans_212 (c_failure_ok (b := 0) hs (i := 3) (by decide) hf0) rfl okX4_failure ml_L_69 hs.i hs.k (by decide) rfl (Nat.le_of_ble_eq_true rfl) (Nat.le_of_ble_eq_true rfl) k) ?_
        refine we_top (x2 := nI 0) f3 ?_
        refine we (fun _ _ k => zw_if_ne (tgt := 254) dL_plans_215 (by decide) (fun c => absurd (by decide) c) (fun _ => k)) ?_
        refine we (fun _ _ k => zw_aload_n dL_plans_218 rfl k) ?_
        refine we (fun _ _ k => zw_iconst (v := nI 4) dL_plans_219 (by decide) k) ?_
        refine we (fun _ _ k => zw_cVi dL_plans_220 (c_failure_ok (b := 0) hs (i := 4) (by decide) hf0) rfl okX4_failure ml_L_69 hs.i hs.k (by decide) rfl (Nat.le_of_ble_eq_true rfl) (Nat.le_of_ble_eq_true rfl) k) ?_
        refine we_top (x2 := (-2)) f4 ?_
        refine we (fun _ _ k => zw_bipush (v := (-2)) dL_plans_223 (by decide) k) ?_
        refine we (fun _ _ k => zw_icmp_ne (tgt := 254) dL_plans_225 (by decide) (fun c => absurd rfl c) (fun _ => k)) ?_
        refine we (fun _ _ k => zw_aload_n dL_plans_228 rfl k) ?_
        refine we (fun _ _ k => zw_bipush (v := nI 8) dL_plans_229 (by decide) k) ?_
        refine we (fun _ _ k => zw_cVi dL_plans_231 (q_c8 hs hAn) rfl okX4_count ml_L_15 hs.i hs.k (by decide) rfl (Nat.le_of_ble_eq_true rfl) (Nat.le_of_ble_eq_true rfl) k) ?_
        refine we (fun _ _ k => zw_iload dL_plans_234 rfl k) ?_
        refine we (fun _ _ k => zw_icmp_ne (tgt := 254) dL_plans_236 (by decide) (fun c => absurd rfl c) (fun _ => k)) ?_
        refine we (fun _ _ k => zw_aload_n dL_plans_239 rfl k) ?_
        refine we (fun _ _ k => zw_iload_n dL_plans_240 rfl k) ?_
        refine we (fun _ _ k => zw_iconst (v := nI 1) dL_plans_241 (by decide) k) ?_
        refine we (fun _ _ k => zw_cVi dL_plans_242 (q_p1 hs hAn hp) rfl okX4_person ml_L_22 hs.i hs.k (by decide) rfl (Nat.le_of_ble_eq_true rfl) (Nat.le_of_ble_eq_true rfl) k) ?_
        refine we_top (x2 := nI v) hfn ?_
        refine we (fun _ _ k => zw_iload dL_plans_245 rfl k) ?_
        refine we (fun _ _ k => zw_icmp_ne (tgt := 254) dL_plans_247 (by decide) (fun c => absurd rfl c) (fun _ => k)) ?_
        refine we (fun _ _ k => zw_iconst (v := nI 1) dL_plans_250 (by decide) k) ?_
        refine we (fun _ _ k => zw_goto (tgt := 255) dL_plans_251 (by decide) k) ?_
        exact we_ret dL_plans_255 rfl (Or.inr rfl) ⟨rfl, P, _, _, _, hP3, hAn.mono (Nat.le_succ t)⟩
      · have he : bE N11 1 p (st * 24 + h) (nI (3 * k)) = (-2) := by
          rw [hbE, if_pos (by omega)]
        obtain ⟨Mn, hrun, hAn, hSn, f0, f1, f2, f3, f4⟩ := a_run_no hs hA11 hp hk hk2 hsd hst hh hT11 he
        have h4n : Mn 4 p = nI e := (hSn.pe (i := 3) (by decide) (by decide) hp12).symm.trans e1
        have hfn : fM Mn 1 p = nI v := by
          rw [← v1]
          show Mn (1 + 1) p - Mn (1 + 2) p = N11 (1 + 1) p - N11 (1 + 2) p
          rw [hSn.pe (i := 1) (by decide) (by decide) hp12, hSn.pe (i := 2) (by decide) (by decide) hp12]
        have hf0 : ¬ Mn (0 + 133) 0 = 0 := by rw [show Mn (0 + 133) 0 = nI 2 from f0]; decide
        refine we (fun _ _ k => zw_iload dL_plans_141 rfl k) ?_
        refine we (fun _ _ k => zw_isub dL_plans_143 k) ?_
        refine we (fun _ _ k => zw_istore dL_plans_144 (by decide) k) ?_
        refine we (fun _ _ k => zw_aload_n dL_plans_146 rfl k) ?_
        refine we (fun _ _ k => zw_bipush (v := nI 8) dL_plans_147 (by decide) k) ?_
        refine we (fun _ _ k => zw_cVi dL_plans_149 (q_c8 hs hA11) rfl okX4_count ml_L_15 hs.i hs.k (by decide) rfl (Nat.le_of_ble_eq_true rfl) (Nat.le_of_ble_eq_true rfl) k) ?_
        refine we (fun _ _ k => zw_istore dL_plans_152 (by decide) k) ?_
        refine we (fun _ _ k => zw_aload_n dL_plans_154 rfl k) ?_
        refine we (fun _ _ k => zw_iload_n dL_plans_155 rfl k) ?_
        refine we (fun _ _ k => zw_cVi dL_plans_156 (hrun) rfl okX4_run ml_L_66 hs.i hs.k (by decide) rfl (Nat.le_of_ble_eq_true rfl) (Nat.le_of_ble_eq_true rfl) k) ?_
        refine we (fun _ _ k => zw_istore dL_plans_159 (by decide) k) ?_
        refine we (fun _ _ k => zw_aload_n dL_plans_161 rfl k) ?_
        refine we (fun _ _ k => zw_iload_n dL_plans_162 rfl k) ?_
        refine we (fun _ _ k => zw_iconst (v := nI 2) dL_plans_163 (by decide) k) ?_
        refine we (fun _ _ k => zw_cVi dL_plans_164 (q_p2 hs hAn hp) rfl okX4_person ml_L_22 hs.i hs.k (by decide) rfl (Nat.le_of_ble_eq_true rfl) (Nat.le_of_ble_eq_true rfl) k) ?_
        refine we_top (x2 := nI e) h4n ?_
        refine we (fun _ _ k => zw_if_gt (tgt := 175) dL_plans_167 (by decide) (fun c => absurd c (by rw [hl.1]; decide)) (fun _ => k)) ?_
        refine we (fun _ _ k => zw_iload dL_plans_170 rfl k) ?_
        refine we (fun _ _ k => zw_if_ge (tgt := 256) dL_plans_172 (by decide) (fun c => absurd (pk_sneg (by omega) hl.2) c) (fun _ => k)) ?_
        refine we (fun _ _ k => zw_iload dL_plans_175 rfl k) ?_
        refine we (fun _ _ k => zw_sipush (v := (-1003)) dL_plans_177 (by decide) k) ?_
        refine we (fun _ _ k => zw_icmp_ne (tgt := 254) dL_plans_180 (by decide) (fun c => absurd rfl c) (fun _ => k)) ?_
        refine we (fun _ _ k => zw_aload_n dL_plans_183 rfl k) ?_
        refine we (fun _ _ k => zw_iconst (v := nI 0) dL_plans_184 (by decide) k) ?_
        refine we (fun _ _ k => zw_cVi dL_plans_185 (c_failure_ok (b := 0) hs (i := 0) (by decide) hf0) rfl okX4_failure ml_L_69 hs.i hs.k (by decide) rfl (Nat.le_of_ble_eq_true rfl) (Nat.le_of_ble_eq_true rfl) k) ?_
        refine we_top (x2 := nI 2) f0 ?_
        refine we (fun _ _ k => zw_iconst (v := nI 2) dL_plans_188 (by decide) k) ?_
        refine we (fun _ _ k => zw_icmp_ne (tgt := 254) dL_plans_189 (by decide) (fun c => absurd (by decide) c) (fun _ => k)) ?_
        refine we (fun _ _ k => zw_aload_n dL_plans_192 rfl k) ?_
        refine we (fun _ _ k => zw_iconst (v := nI 1) dL_plans_193 (by decide) k) ?_
        refine we (fun _ _ k => zw_cVi dL_plans_194 (c_failure_ok (b := 0) hs (i := 1) (by decide) hf0) rfl okX4_failure ml_L_69 hs.i hs.k (by decide) rfl (Nat.le_of_ble_eq_true rfl) (Nat.le_of_ble_eq_true rfl) k) ?_
        refine we_top (x2 := nI 3) f1 ?_
        refine we (fun _ _ k => zw_iconst (v := nI 3) dL_plans_197 (by decide) k) ?_
        refine we (fun _ _ k => zw_icmp_ne (tgt := 254) dL_plans_198 (by decide) (fun c => absurd (by decide) c) (fun _ => k)) ?_
        refine we (fun _ _ k => zw_aload_n dL_plans_201 rfl k) ?_
        refine we (fun _ _ k => zw_iconst (v := nI 2) dL_plans_202 (by decide) k) ?_
        refine we (fun _ _ k => zw_cVi dL_plans_203 (c_failure_ok (b := 0) hs (i := 2) (by decide) hf0) rfl okX4_failure ml_L_69 hs.i hs.k (by decide) rfl (Nat.le_of_ble_eq_true rfl) (Nat.le_of_ble_eq_true rfl) k) ?_
        refine we_top (x2 := nI 1) f2 ?_
        refine we (fun _ _ k => zw_iconst (v := nI 1) dL_plans_206 (by decide) k) ?_
        refine we (fun _ _ k => zw_icmp_ne (tgt := 254) dL_plans_207 (by decide) (fun c => absurd (by decide) c) (fun _ => k)) ?_
        refine we (fun _ _ k => zw_aload_n dL_plans_210 rfl k) ?_
        refine we (fun _ _ k => zw_iconst (v := nI 3) dL_plans_211 (by decide) k) ?_
        refine we (fun _ _ k => zw_cVi dL_plans_212 (c_failure_ok (b := 0) hs (i := 3) (by decide) hf0) rfl okX4_failure ml_L_69 hs.i hs.k (by decide) rfl (Nat.le_of_ble_eq_true rfl) (Nat.le_of_ble_eq_true rfl) k) ?_
        refine we_top (x2 := nI 0) f3 ?_
        refine we (fun _ _ k => zw_if_ne (tgt := 254) dL_plans_215 (by decide) (fun c => absurd (by decide) c) (fun _ => k)) ?_
        refine we (fun _ _ k => zw_aload_n dL_plans_218 rfl k) ?_
        refine we (fun _ _ k => zw_iconst (v := nI 4) dL_plans_219 (by decide) k) ?_
        refine we (fun _ _ k => zw_cVi dL_plans_220 (c_failure_ok (b := 0) hs (i := 4) (by decide) hf0) rfl okX4_failure ml_L_69 hs.i hs.k (by decide) rfl (Nat.le_of_ble_eq_true rfl) (Nat.le_of_ble_eq_true rfl) k) ?_
        refine we_top (x2 := (-2)) f4 ?_
        refine we (fun _ _ k => zw_bipush (v := (-2)) dL_plans_223 (by decide) k) ?_
        refine we (fun _ _ k => zw_icmp_ne (tgt := 254) dL_plans_225 (by decide) (fun c => absurd rfl c) (fun _ => k)) ?_
        refine we (fun _ _ k => zw_aload_n dL_plans_228 rfl k) ?_
        refine we (fun _ _ k => zw_bipush (v := nI 8) dL_plans_229 (by decide) k) ?_
        refine we (fun _ _ k => zw_cVi dL_plans_231 (q_c8 hs hAn) rfl okX4_count ml_L_15 hs.i hs.k (by decide) rfl (Nat.le_of_ble_eq_true rfl) (Nat.le_of_ble_eq_true rfl) k) ?_
        refine we (fun _ _ k => zw_iload dL_plans_234 rfl k) ?_
        refine we (fun _ _ k => zw_icmp_ne (tgt := 254) dL_plans_236 (by decide) (fun c => absurd rfl c) (fun _ => k)) ?_
        refine we (fun _ _ k => zw_aload_n dL_plans_239 rfl k) ?_
        refine we (fun _ _ k => zw_iload_n dL_plans_240 rfl k) ?_
        refine we (fun _ _ k => zw_iconst (v := nI 1) dL_plans_241 (by decide) k) ?_
        refine we (fun _ _ k => zw_cVi dL_plans_242 (q_p1 hs hAn hp) rfl okX4_person ml_L_22 hs.i hs.k (by decide) rfl (Nat.le_of_ble_eq_true rfl) (Nat.le_of_ble_eq_true rfl) k) ?_
        refine we_top (x2 := nI v) hfn ?_
        refine we (fun _ _ k => zw_iload dL_plans_245 rfl k) ?_
        refine we (fun _ _ k => zw_icmp_ne (tgt := 254) dL_plans_247 (by decide) (fun c => absurd rfl c) (fun _ => k)) ?_
        refine we (fun _ _ k => zw_iconst (v := nI 1) dL_plans_250 (by decide) k) ?_
        refine we (fun _ _ k => zw_goto (tgt := 255) dL_plans_251 (by decide) k) ?_
        exact we_ret dL_plans_255 rfl (Or.inr rfl) ⟨rfl, P, _, _, _, hP3, hAn.mono (Nat.le_succ t)⟩
    · refine we_top (x2 := nI kb) (bv_p hkb hk0 (by omega)) ?_
      refine we (fun _ _ k => zw_istore dL_plans_115 (by decide) k) ?_
      refine we (fun _ _ k => zw_iconst (v := nI 3) dL_plans_117 (by decide) k) ?_
      refine we (fun _ _ k => zw_iload dL_plans_118 rfl k) ?_
      refine we (fun _ _ k => zw_imuln dL_plans_120 k) ?_
      refine we (fun _ _ k => zw_istore dL_plans_121 (by decide) k) ?_
      refine we (fun _ _ k => zw_iload dL_plans_123 rfl k) ?_
      refine we (fun _ _ k => zw_iload dL_plans_125 rfl k) ?_
      refine we (fun _ _ k => zw_if_ge (tgt := 134) dL_plans_127 (by decide) (fun _ => k) (fun c => absurd c (nI_pos (by omega)))) ?_
      refine we (fun _ _ k => zw_iload dL_plans_134 rfl k) ?_
      refine we (fun _ _ k => zw_sipush (v := nI 1000) dL_plans_136 (by decide) k) ?_
      refine we (fun _ _ k => zw_iremn dL_plans_139 (by omega) (by omega) (by omega) k) ?_
      refine we (fun _ _ k => zw_iaddn dL_plans_140 k) ?_
      refine we_top (x2 := nI (v + am)) (congrArg nI (by omega)) ?_
      rcases (show (e = 0 ∧ 3 * k ≤ v + am) ∨ 0 < e ∨ (e = 0 ∧ v + am < 3 * k) by omega) with hl | hl | hl
      · have he : bE N11 1 p (st * 24 + h) (nI (3 * k)) = 0 := by
          rw [hbE, if_neg (by omega)]
          exact nI_0
        obtain ⟨v', Mr, y1, y2, y3, hrun, hAr, hSr, hTr, hbr, hfr, h4r⟩ := a_run_ok hs (by omega) hA11 hp hk hk2 hsd hst hh hT11 he
        have evv : v' = v := (nI_eq (by omega) (by omega)).mp (y1.symm.trans v1)
        subst v'
        rw [ham] at hfr
        have hsd01 : nI sd = nI 0 ∨ nI sd = nI 1 := by
          rcases (show sd = 0 ∨ sd = 1 by omega) with c | c
          · exact Or.inl (by rw [c])
          · exact Or.inr (by rw [c])
        have hbr2 : bm Mr 1 p (st * 24 + h) = nI (1000 * sd + 3 * k) := by
          rw [hbr, (mkB_n (by omega) hsd01).2.2.2.2, if_neg (by omega), nI_mul, nI_add]
          congr 1
          omega
        obtain ⟨Mu, hu, hAu, hSu, hFu⟩ := a_undo hs hAr zN_p.1 hSr hA11.1
        have hTu : PlOk Mu 115 11 (ptx k sd st h) := by
          refine ⟨hAu.2.2.1.1, by decide, fun j hj => ?_⟩
          show Mu 116 j = _
          rw [hFu 116 (by decide) (by decide)]
          exact hTr.2.2 j hj
        have hfu : fM Mu 1 p = nI v := by
          rw [← v1]
          show Mu (1 + 1) p - Mu (1 + 2) p = N11 (1 + 1) p - N11 (1 + 2) p
          rw [hSu.pe (i := 1) (by decide) (by decide) hp12, hSu.pe (i := 2) (by decide) (by decide) hp12]
        have hbu : bm Mu 1 p (st * 24 + h) = bm N11 1 p (st * 24 + h) := (hSu.m hp12 hslot).symm
        obtain ⟨Mv, hpv, hAv, hTv, -⟩ := a_append hs hAu hTu (by decide) (m := 12) rfl (v := 41) ⟨by omega, by omega⟩ rfl
        obtain ⟨Mw, hw12, hAw, f0, f1, f2, f3, f4⟩ := a_run_12 hs hAv hp hk hk2 hsd hst hh hTv
        have hf0 : ¬ Mw (0 + 133) 0 = 0 := by rw [show Mw (0 + 133) 0 = nI 1 from f0]; decide
        obtain ⟨Mz, hcz, hAz, -, -⟩ := a_clear hs hAw
        refine we (fun _ _ k => zw_iload dL_plans_141 rfl k) ?_
        refine we (fun _ _ k => zw_isubn dL_plans_143 (by omega) k) ?_
        refine we (fun _ _ k => zw_istore dL_plans_144 (by decide) k) ?_
        refine we (fun _ _ k => zw_aload_n dL_plans_146 rfl k) ?_
        refine we (fun _ _ k => zw_bipush (v := nI 8) dL_plans_147 (by decide) k) ?_
        refine we (fun _ _ k => zw_cVi dL_plans_149 (q_c8 hs hA11) rfl okX4_count ml_L_15 hs.i hs.k (by decide) rfl (Nat.le_of_ble_eq_true rfl) (Nat.le_of_ble_eq_true rfl) k) ?_
        refine we (fun _ _ k => zw_istore dL_plans_152 (by decide) k) ?_
        refine we (fun _ _ k => zw_aload_n dL_plans_154 rfl k) ?_
        refine we (fun _ _ k => zw_iload_n dL_plans_155 rfl k) ?_
        refine we (fun _ _ k => zw_cVi dL_plans_156 (hrun) rfl okX4_run ml_L_66 hs.i hs.k (by decide) rfl (Nat.le_of_ble_eq_true rfl) (Nat.le_of_ble_eq_true rfl) k) ?_
        refine we (fun _ _ k => zw_istore dL_plans_159 (by decide) k) ?_
        refine we (fun _ _ k => zw_aload_n dL_plans_161 rfl k) ?_
        refine we (fun _ _ k => zw_iload_n dL_plans_162 rfl k) ?_
        refine we (fun _ _ k => zw_iconst (v := nI 2) dL_plans_163 (by decide) k) ?_
        refine we (fun _ _ k => zw_cVi dL_plans_164 (q_p2 hs hAr hp) rfl okX4_person ml_L_22 hs.i hs.k (by decide) rfl (Nat.le_of_ble_eq_true rfl) (Nat.le_of_ble_eq_true rfl) k) ?_
        refine we_top (x2 := nI 0) (h4r.trans (e1.trans (by rw [hl.1]))) ?_
        refine we (fun _ _ k => zw_if_gt (tgt := 175) dL_plans_167 (by decide) (fun c => absurd c (by decide)) (fun _ => k)) ?_
        refine we (fun _ _ k => zw_iload dL_plans_170 rfl k) ?_
        refine we (fun _ _ k => zw_if_ge (tgt := 256) dL_plans_172 (by decide) (fun _ => k) (fun c => absurd c (nI_pos (by omega)))) ?_
        refine we (fun _ _ k => zw_iload dL_plans_256 rfl k) ?_
        refine we (fun _ _ k => zw_iconst (v := nI 1) dL_plans_258 (by decide) k) ?_
        refine we (fun _ _ k => zw_icmp_ne (tgt := 307) dL_plans_259 (by decide) (fun c => absurd (by decide) c) (fun _ => k)) ?_
        refine we (fun _ _ k => zw_aload_n dL_plans_262 rfl k) ?_
        refine we (fun _ _ k => zw_iload_n dL_plans_263 rfl k) ?_
        refine we (fun _ _ k => zw_iconst (v := nI 1) dL_plans_264 (by decide) k) ?_
        refine we (fun _ _ k => zw_cVi dL_plans_265 (q_p1 hs hAr hp) rfl okX4_person ml_L_22 hs.i hs.k (by decide) rfl (Nat.le_of_ble_eq_true rfl) (Nat.le_of_ble_eq_true rfl) k) ?_
        refine we_top (x2 := nI ((v + am) - (3 * k))) hfr ?_
        refine we (fun _ _ k => zw_iload dL_plans_268 rfl k) ?_
        refine we (fun _ _ k => zw_icmp_ne (tgt := 307) dL_plans_270 (by decide) (fun c => absurd rfl c) (fun _ => k)) ?_
        refine we (fun _ _ k => zw_aload_n dL_plans_273 rfl k) ?_
        refine we (fun _ _ k => zw_iload_n dL_plans_274 rfl k) ?_
        refine we (fun _ _ k => zw_iload_n dL_plans_275 rfl k) ?_
        refine we (fun _ _ k => zw_iload_n dL_plans_276 rfl k) ?_
        refine we (fun _ _ k => zw_cVi dL_plans_277 (q_bo hs hAr hp hst (by omega)) rfl okX4_bidOf ml_L_25 hs.i hs.k (by decide) rfl (Nat.le_of_ble_eq_true rfl) (Nat.le_of_ble_eq_true rfl) k) ?_
        refine we_top (x2 := nI ((1000 * sd) + (3 * k))) (bv_p hbr2 (by omega) (by omega)) ?_
        refine we (fun _ _ k => zw_sipush (v := nI 1000) dL_plans_280 (by decide) k) ?_
        refine we (fun _ _ k => zw_iload dL_plans_283 rfl k) ?_
        refine we (fun _ _ k => zw_imuln dL_plans_285 k) ?_
        refine we (fun _ _ k => zw_iload dL_plans_286 rfl k) ?_
        refine we (fun _ _ k => zw_iaddn dL_plans_288 k) ?_
        refine we (fun _ _ k => zw_icmp_ne (tgt := 307) dL_plans_289 (by decide) (fun c => absurd rfl c) (fun _ => k)) ?_
        refine we (fun _ _ k => zw_aload_n dL_plans_292 rfl k) ?_
        refine we (fun _ _ k => zw_bipush (v := nI 9) dL_plans_293 (by decide) k) ?_
        refine we (fun _ _ k => zw_cVi dL_plans_295 (q_c9 hs hAr) rfl okX4_count ml_L_15 hs.i hs.k (by decide) rfl (Nat.le_of_ble_eq_true rfl) (Nat.le_of_ble_eq_true rfl) k) ?_
        refine we (fun _ _ k => zw_iload dL_plans_298 rfl k) ?_
        refine we (fun _ _ k => zw_icmp_ne (tgt := 307) dL_plans_300 (by decide) (fun c => absurd (by decide) c) (fun _ => k)) ?_
        refine we (fun _ _ k => zw_iconst (v := nI 1) dL_plans_303 (by decide) k) ?_
        refine we (fun _ _ k => zw_goto (tgt := 308) dL_plans_304 (by decide) k) ?_
        refine we (fun _ _ k => zw_istore dL_plans_308 (by decide) k) ?_
        refine we (fun _ _ k => zw_iload dL_plans_310 rfl k) ?_
        refine we (fun _ _ k => zw_if_eq (tgt := 349) dL_plans_312 (by decide) (fun c => absurd c (by decide)) (fun _ => k)) ?_
        refine we (fun _ _ k => zw_aload_n dL_plans_315 rfl k) ?_
        refine we (fun _ _ k => zw_cVi dL_plans_316 (hu) rfl okX4_undo ml_L_42 hs.i hs.k (by decide) rfl (Nat.le_of_ble_eq_true rfl) (Nat.le_of_ble_eq_true rfl) k) ?_
        refine we (fun _ _ k => zw_if_lt (tgt := 349) dL_plans_319 (by decide) (fun c => absurd c (nI_pos (by omega))) (fun _ => k)) ?_
        refine we (fun _ _ k => zw_aload_n dL_plans_322 rfl k) ?_
        refine we (fun _ _ k => zw_iload_n dL_plans_323 rfl k) ?_
        refine we (fun _ _ k => zw_iconst (v := nI 1) dL_plans_324 (by decide) k) ?_
        refine we (fun _ _ k => zw_cVi dL_plans_325 (q_p1 hs hAu hp) rfl okX4_person ml_L_22 hs.i hs.k (by decide) rfl (Nat.le_of_ble_eq_true rfl) (Nat.le_of_ble_eq_true rfl) k) ?_
        refine we_top (x2 := nI v) hfu ?_
        refine we (fun _ _ k => zw_iload dL_plans_328 rfl k) ?_
        refine we (fun _ _ k => zw_icmp_ne (tgt := 349) dL_plans_330 (by decide) (fun c => absurd rfl c) (fun _ => k)) ?_
        refine we (fun _ _ k => zw_aload_n dL_plans_333 rfl k) ?_
        refine we (fun _ _ k => zw_iload_n dL_plans_334 rfl k) ?_
        refine we (fun _ _ k => zw_iload_n dL_plans_335 rfl k) ?_
        refine we (fun _ _ k => zw_iload_n dL_plans_336 rfl k) ?_
        refine we (fun _ _ k => zw_cVi dL_plans_337 (q_bo hs hAu hp hst (by omega)) rfl okX4_bidOf ml_L_25 hs.i hs.k (by decide) rfl (Nat.le_of_ble_eq_true rfl) (Nat.le_of_ble_eq_true rfl) k) ?_
        refine we_top (x2 := nI kb) (bv_p (hbu.trans hkb) hk0 (by omega)) ?_
        refine we (fun _ _ k => zw_iload dL_plans_340 rfl k) ?_
        refine we (fun _ _ k => zw_icmp_ne (tgt := 349) dL_plans_342 (by decide) (fun c => absurd rfl c) (fun _ => k)) ?_
        refine we (fun _ _ k => zw_iconst (v := nI 1) dL_plans_345 (by decide) k) ?_
        refine we (fun _ _ k => zw_goto (tgt := 350) dL_plans_346 (by decide) k) ?_
        refine we (fun _ _ k => zw_istore dL_plans_350 (by decide) k) ?_
        refine we (fun _ _ k => zw_iload dL_plans_352 rfl k) ?_
        refine we (fun _ _ k => zw_if_eq (tgt := 426) dL_plans_354 (by decide) (fun c => absurd c (by decide)) (fun _ => k)) ?_
        refine we (fun _ _ k => zw_aload_n dL_plans_357 rfl k) ?_
        refine we (fun _ _ k => zw_bipush (v := nI 41) dL_plans_358 (by decide) k) ?_
        refine we (fun _ _ k => zw_cVi dL_plans_360 (hpv) rfl okX4_append ml_L_63 hs.i hs.k (by decide) rfl (Nat.le_of_ble_eq_true rfl) (Nat.le_of_ble_eq_true rfl) k) ?_
        refine we (fun _ _ k => zw_iload dL_plans_363 rfl k) ?_
        refine we (fun _ _ k => zw_iconst (v := nI 1) dL_plans_365 (by decide) k) ?_
        refine we (fun _ _ k => zw_iaddn dL_plans_366 k) ?_
        refine we (fun _ _ k => zw_icmp_ne (tgt := 426) dL_plans_367 (by decide) (fun c => absurd rfl c) (fun _ => k)) ?_
        refine we (fun _ _ k => zw_aload_n dL_plans_370 rfl k) ?_
        refine we (fun _ _ k => zw_iload_n dL_plans_371 rfl k) ?_
        refine we (fun _ _ k => zw_cVi dL_plans_372 (hw12) rfl okX4_run ml_L_66 hs.i hs.k (by decide) rfl (Nat.le_of_ble_eq_true rfl) (Nat.le_of_ble_eq_true rfl) k) ?_
        refine we (fun _ _ k => zw_sipush (v := (-1000)) dL_plans_375 (by decide) k) ?_
        refine we (fun _ _ k => zw_iload dL_plans_378 rfl k) ?_
        refine we (fun _ _ k => zw_isub dL_plans_380 k) ?_
        refine we (fun _ _ k => zw_icmp_ne (tgt := 426) dL_plans_381 (by decide) (fun c => absurd rfl c) (fun _ => k)) ?_
        refine we (fun _ _ k => zw_aload_n dL_plans_384 rfl k) ?_
        refine we (fun _ _ k => zw_iconst (v := nI 0) dL_plans_385 (by decide) k) ?_
        refine we (fun _ _ k => zw_cVi dL_plans_386 (c_failure_ok (b := 0) hs (i := 0) (by decide) hf0) rfl okX4_failure ml_L_69 hs.i hs.k (by decide) rfl (Nat.le_of_ble_eq_true rfl) (Nat.le_of_ble_eq_true rfl) k) ?_
        refine we_top (x2 := nI 1) f0 ?_
        refine we (fun _ _ k => zw_iconst (v := nI 1) dL_plans_389 (by decide) k) ?_
        refine we (fun _ _ k => zw_icmp_ne (tgt := 426) dL_plans_390 (by decide) (fun c => absurd (by decide) c) (fun _ => k)) ?_
        refine we (fun _ _ k => zw_aload_n dL_plans_393 rfl k) ?_
        refine we (fun _ _ k => zw_iconst (v := nI 2) dL_plans_394 (by decide) k) ?_
        refine we (fun _ _ k => zw_cVi dL_plans_395 (c_failure_ok (b := 0) hs (i := 2) (by decide) hf0) rfl okX4_failure ml_L_69 hs.i hs.k (by decide) rfl (Nat.le_of_ble_eq_true rfl) (Nat.le_of_ble_eq_true rfl) k) ?_
        refine we_top (x2 := nI 0) f2 ?_
        refine we (fun _ _ k => zw_if_ne (tgt := 426) dL_plans_398 (by decide) (fun c => absurd (by decide) c) (fun _ => k)) ?_
        refine we (fun _ _ k => zw_aload_n dL_plans_401 rfl k) ?_
        refine we (fun _ _ k => zw_iconst (v := nI 4) dL_plans_402 (by decide) k) ?_
        refine we (fun _ _ k => zw_cVi dL_plans_403 (c_failure_ok (b := 0) hs (i := 4) (by decide) hf0) rfl okX4_failure ml_L_69 hs.i hs.k (by decide) rfl (Nat.le_of_ble_eq_true rfl) (Nat.le_of_ble_eq_true rfl) k) ?_
        refine we_top (x2 := (-9)) f4 ?_
        refine we (fun _ _ k => zw_bipush (v := (-9)) dL_plans_406 (by decide) k) ?_
        refine we (fun _ _ k => zw_icmp_ne (tgt := 426) dL_plans_408 (by decide) (fun c => absurd rfl c) (fun _ => k)) ?_
        refine we (fun _ _ k => zw_aload_n dL_plans_411 rfl k) ?_
        refine we (fun _ _ k => zw_cVi dL_plans_412 (hcz) rfl okX4_clearText ml_L_60 hs.i hs.k (by decide) rfl (Nat.le_of_ble_eq_true rfl) (Nat.le_of_ble_eq_true rfl) k) ?_
        refine we (fun _ _ k => zw_iload dL_plans_415 rfl k) ?_
        refine we (fun _ _ k => zw_iconst (v := nI 1) dL_plans_417 (by decide) k) ?_
        refine we (fun _ _ k => zw_iaddn dL_plans_418 k) ?_
        refine we (fun _ _ k => zw_icmp_ne (tgt := 426) dL_plans_419 (by decide) (fun c => absurd rfl c) (fun _ => k)) ?_
        refine we (fun _ _ k => zw_iconst (v := nI 1) dL_plans_422 (by decide) k) ?_
        refine we (fun _ _ k => zw_goto (tgt := 427) dL_plans_423 (by decide) k) ?_
        exact we_ret dL_plans_427 rfl (Or.inr rfl) ⟨rfl, P, _, _, _, hP3, hAz.mono (Nat.le_succ t)⟩
      · have he : bE N11 1 p (st * 24 + h) (nI (3 * k)) = (-2) := by
          rw [hbE, if_pos (by omega)]
        obtain ⟨Mn, hrun, hAn, hSn, f0, f1, f2, f3, f4⟩ := a_run_no hs hA11 hp hk hk2 hsd hst hh hT11 he
        have h4n : Mn 4 p = nI e := (hSn.pe (i := 3) (by decide) (by decide) hp12).symm.trans e1
        have hfn : fM Mn 1 p = nI v := by
          rw [← v1]
          show Mn (1 + 1) p - Mn (1 + 2) p = N11 (1 + 1) p - N11 (1 + 2) p
          rw [hSn.pe (i := 1) (by decide) (by decide) hp12, hSn.pe (i := 2) (by decide) (by decide) hp12]
        have hf0 : ¬ Mn (0 + 133) 0 = 0 := by rw [show Mn (0 + 133) 0 = nI 2 from f0]; decide
        refine we (fun _ _ k => zw_iload dL_plans_141 rfl k) ?_
        refine we (fun _ _ k => zw_isub dL_plans_143 k) ?_
        refine we (fun _ _ k => zw_istore dL_plans_144 (by decide) k) ?_
        refine we (fun _ _ k => zw_aload_n dL_plans_146 rfl k) ?_
        refine we (fun _ _ k => zw_bipush (v := nI 8) dL_plans_147 (by decide) k) ?_
        refine we (fun _ _ k => zw_cVi dL_plans_149 (q_c8 hs hA11) rfl okX4_count ml_L_15 hs.i hs.k (by decide) rfl (Nat.le_of_ble_eq_true rfl) (Nat.le_of_ble_eq_true rfl) k) ?_
        refine we (fun _ _ k => zw_istore dL_plans_152 (by decide) k) ?_
        refine we (fun _ _ k => zw_aload_n dL_plans_154 rfl k) ?_
        refine we (fun _ _ k => zw_iload_n dL_plans_155 rfl k) ?_
        refine we (fun _ _ k => zw_cVi dL_plans_156 (hrun) rfl okX4_run ml_L_66 hs.i hs.k (by decide) rfl (Nat.le_of_ble_eq_true rfl) (Nat.le_of_ble_eq_true rfl) k) ?_
        refine we (fun _ _ k => zw_istore dL_plans_159 (by decide) k) ?_
        refine we (fun _ _ k => zw_aload_n dL_plans_161 rfl k) ?_
        refine we (fun _ _ k => zw_iload_n dL_plans_162 rfl k) ?_
        refine we (fun _ _ k => zw_iconst (v := nI 2) dL_plans_163 (by decide) k) ?_
        refine we (fun _ _ k => zw_cVi dL_plans_164 (q_p2 hs hAn hp) rfl okX4_person ml_L_22 hs.i hs.k (by decide) rfl (Nat.le_of_ble_eq_true rfl) (Nat.le_of_ble_eq_true rfl) k) ?_
        refine we_top (x2 := nI e) h4n ?_
        refine we (fun _ _ k => zw_if_gt (tgt := 175) dL_plans_167 (by decide) (fun _ => k) (fun c => absurd (nI_gt hl (by omega)) c)) ?_
        refine we (fun _ _ k => zw_iload dL_plans_175 rfl k) ?_
        refine we (fun _ _ k => zw_sipush (v := (-1003)) dL_plans_177 (by decide) k) ?_
        refine we (fun _ _ k => zw_icmp_ne (tgt := 254) dL_plans_180 (by decide) (fun c => absurd rfl c) (fun _ => k)) ?_
        refine we (fun _ _ k => zw_aload_n dL_plans_183 rfl k) ?_
        refine we (fun _ _ k => zw_iconst (v := nI 0) dL_plans_184 (by decide) k) ?_
        refine we (fun _ _ k => zw_cVi dL_plans_185 (c_failure_ok (b := 0) hs (i := 0) (by decide) hf0) rfl okX4_failure ml_L_69 hs.i hs.k (by decide) rfl (Nat.le_of_ble_eq_true rfl) (Nat.le_of_ble_eq_true rfl) k) ?_
        refine we_top (x2 := nI 2) f0 ?_
        refine we (fun _ _ k => zw_iconst (v := nI 2) dL_plans_188 (by decide) k) ?_
        refine we (fun _ _ k => zw_icmp_ne (tgt := 254) dL_plans_189 (by decide) (fun c => absurd (by decide) c) (fun _ => k)) ?_
        refine we (fun _ _ k => zw_aload_n dL_plans_192 rfl k) ?_
        refine we (fun _ _ k => zw_iconst (v := nI 1) dL_plans_193 (by decide) k) ?_
        refine we (fun _ _ k => zw_cVi dL_plans_194 (c_failure_ok (b := 0) hs (i := 1) (by decide) hf0) rfl okX4_failure ml_L_69 hs.i hs.k (by decide) rfl (Nat.le_of_ble_eq_true rfl) (Nat.le_of_ble_eq_true rfl) k) ?_
        refine we_top (x2 := nI 3) f1 ?_
        refine we (fun _ _ k => zw_iconst (v := nI 3) dL_plans_197 (by decide) k) ?_
        refine we (fun _ _ k => zw_icmp_ne (tgt := 254) dL_plans_198 (by decide) (fun c => absurd (by decide) c) (fun _ => k)) ?_
        refine we (fun _ _ k => zw_aload_n dL_plans_201 rfl k) ?_
        refine we (fun _ _ k => zw_iconst (v := nI 2) dL_plans_202 (by decide) k) ?_
        refine we (fun _ _ k => zw_cVi dL_plans_203 (c_failure_ok (b := 0) hs (i := 2) (by decide) hf0) rfl okX4_failure ml_L_69 hs.i hs.k (by decide) rfl (Nat.le_of_ble_eq_true rfl) (Nat.le_of_ble_eq_true rfl) k) ?_
        refine we_top (x2 := nI 1) f2 ?_
        refine we (fun _ _ k => zw_iconst (v := nI 1) dL_plans_206 (by decide) k) ?_
        refine we (fun _ _ k => zw_icmp_ne (tgt := 254) dL_plans_207 (by decide) (fun c => absurd (by decide) c) (fun _ => k)) ?_
        refine we (fun _ _ k => zw_aload_n dL_plans_210 rfl k) ?_
        refine we (fun _ _ k => zw_iconst (v := nI 3) dL_plans_211 (by decide) k) ?_
        refine we (fun _ _ k => zw_cVi dL_plans_212 (c_failure_ok (b := 0) hs (i := 3) (by decide) hf0) rfl okX4_failure ml_L_69 hs.i hs.k (by decide) rfl (Nat.le_of_ble_eq_true rfl) (Nat.le_of_ble_eq_true rfl) k) ?_
        refine we_top (x2 := nI 0) f3 ?_
        refine we (fun _ _ k => zw_if_ne (tgt := 254) dL_plans_215 (by decide) (fun c => absurd (by decide) c) (fun _ => k)) ?_
        refine we (fun _ _ k => zw_aload_n dL_plans_218 rfl k) ?_
        refine we (fun _ _ k => zw_iconst (v := nI 4) dL_plans_219 (by decide) k) ?_
        refine we (fun _ _ k => zw_cVi dL_plans_220 (c_failure_ok (b := 0) hs (i := 4) (by decide) hf0) rfl okX4_failure ml_L_69 hs.i hs.k (by decide) rfl (Nat.le_of_ble_eq_true rfl) (Nat.le_of_ble_eq_true rfl) k) ?_
        refine we_top (x2 := (-2)) f4 ?_
        refine we (fun _ _ k => zw_bipush (v := (-2)) dL_plans_223 (by decide) k) ?_
        refine we (fun _ _ k => zw_icmp_ne (tgt := 254) dL_plans_225 (by decide) (fun c => absurd rfl c) (fun _ => k)) ?_
        refine we (fun _ _ k => zw_aload_n dL_plans_228 rfl k) ?_
        refine we (fun _ _ k => zw_bipush (v := nI 8) dL_plans_229 (by decide) k) ?_
        refine we (fun _ _ k => zw_cVi dL_plans_231 (q_c8 hs hAn) rfl okX4_count ml_L_15 hs.i hs.k (by decide) rfl (Nat.le_of_ble_eq_true rfl) (Nat.le_of_ble_eq_true rfl) k) ?_
        refine we (fun _ _ k => zw_iload dL_plans_234 rfl k) ?_
        refine we (fun _ _ k => zw_icmp_ne (tgt := 254) dL_plans_236 (by decide) (fun c => absurd rfl c) (fun _ => k)) ?_
        refine we (fun _ _ k => zw_aload_n dL_plans_239 rfl k) ?_
        refine we (fun _ _ k => zw_iload_n dL_plans_240 rfl k) ?_
        refine we (fun _ _ k => zw_iconst (v := nI 1) dL_plans_241 (by decide) k) ?_
        refine we (fun _ _ k => zw_cVi dL_plans_242 (q_p1 hs hAn hp) rfl okX4_person ml_L_22 hs.i hs.k (by decide) rfl (Nat.le_of_ble_eq_true rfl) (Nat.le_of_ble_eq_true rfl) k) ?_
        refine we_top (x2 := nI v) hfn ?_
        refine we (fun _ _ k => zw_iload dL_plans_245 rfl k) ?_
        refine we (fun _ _ k => zw_icmp_ne (tgt := 254) dL_plans_247 (by decide) (fun c => absurd rfl c) (fun _ => k)) ?_
        refine we (fun _ _ k => zw_iconst (v := nI 1) dL_plans_250 (by decide) k) ?_
        refine we (fun _ _ k => zw_goto (tgt := 255) dL_plans_251 (by decide) k) ?_
        exact we_ret dL_plans_255 rfl (Or.inr rfl) ⟨rfl, P, _, _, _, hP3, hAn.mono (Nat.le_succ t)⟩
      · have he : bE N11 1 p (st * 24 + h) (nI (3 * k)) = (-2) := by
          rw [hbE, if_pos (by omega)]
        obtain ⟨Mn, hrun, hAn, hSn, f0, f1, f2, f3, f4⟩ := a_run_no hs hA11 hp hk hk2 hsd hst hh hT11 he
        have h4n : Mn 4 p = nI e := (hSn.pe (i := 3) (by decide) (by decide) hp12).symm.trans e1
        have hfn : fM Mn 1 p = nI v := by
          rw [← v1]
          show Mn (1 + 1) p - Mn (1 + 2) p = N11 (1 + 1) p - N11 (1 + 2) p
          rw [hSn.pe (i := 1) (by decide) (by decide) hp12, hSn.pe (i := 2) (by decide) (by decide) hp12]
        have hf0 : ¬ Mn (0 + 133) 0 = 0 := by rw [show Mn (0 + 133) 0 = nI 2 from f0]; decide
        refine we (fun _ _ k => zw_iload dL_plans_141 rfl k) ?_
        refine we (fun _ _ k => zw_isub dL_plans_143 k) ?_
        refine we (fun _ _ k => zw_istore dL_plans_144 (by decide) k) ?_
        refine we (fun _ _ k => zw_aload_n dL_plans_146 rfl k) ?_
        refine we (fun _ _ k => zw_bipush (v := nI 8) dL_plans_147 (by decide) k) ?_
        refine we (fun _ _ k => zw_cVi dL_plans_149 (q_c8 hs hA11) rfl okX4_count ml_L_15 hs.i hs.k (by decide) rfl (Nat.le_of_ble_eq_true rfl) (Nat.le_of_ble_eq_true rfl) k) ?_
        refine we (fun _ _ k => zw_istore dL_plans_152 (by decide) k) ?_
        refine we (fun _ _ k => zw_aload_n dL_plans_154 rfl k) ?_
        refine we (fun _ _ k => zw_iload_n dL_plans_155 rfl k) ?_
        refine we (fun _ _ k => zw_cVi dL_plans_156 (hrun) rfl okX4_run ml_L_66 hs.i hs.k (by decide) rfl (Nat.le_of_ble_eq_true rfl) (Nat.le_of_ble_eq_true rfl) k) ?_
        refine we (fun _ _ k => zw_istore dL_plans_159 (by decide) k) ?_
        refine we (fun _ _ k => zw_aload_n dL_plans_161 rfl k) ?_
        refine we (fun _ _ k => zw_iload_n dL_plans_162 rfl k) ?_
        refine we (fun _ _ k => zw_iconst (v := nI 2) dL_plans_163 (by decide) k) ?_
        refine we (fun _ _ k => zw_cVi dL_plans_164 (q_p2 hs hAn hp) rfl okX4_person ml_L_22 hs.i hs.k (by decide) rfl (Nat.le_of_ble_eq_true rfl) (Nat.le_of_ble_eq_true rfl) k) ?_
        refine we_top (x2 := nI e) h4n ?_
        refine we (fun _ _ k => zw_if_gt (tgt := 175) dL_plans_167 (by decide) (fun c => absurd c (by rw [hl.1]; decide)) (fun _ => k)) ?_
        refine we (fun _ _ k => zw_iload dL_plans_170 rfl k) ?_
        refine we (fun _ _ k => zw_if_ge (tgt := 256) dL_plans_172 (by decide) (fun c => absurd (pk_sneg (by omega) hl.2) c) (fun _ => k)) ?_
        refine we (fun _ _ k => zw_iload dL_plans_175 rfl k) ?_
        refine we (fun _ _ k => zw_sipush (v := (-1003)) dL_plans_177 (by decide) k) ?_
        refine we (fun _ _ k => zw_icmp_ne (tgt := 254) dL_plans_180 (by decide) (fun c => absurd rfl c) (fun _ => k)) ?_
        refine we (fun _ _ k => zw_aload_n dL_plans_183 rfl k) ?_
        refine we (fun _ _ k => zw_iconst (v := nI 0) dL_plans_184 (by decide) k) ?_
        refine we (fun _ _ k => zw_cVi dL_plans_185 (c_failure_ok (b := 0) hs (i := 0) (by decide) hf0) rfl okX4_failure ml_L_69 hs.i hs.k (by decide) rfl (Nat.le_of_ble_eq_true rfl) (Nat.le_of_ble_eq_true rfl) k) ?_
        refine we_top (x2 := nI 2) f0 ?_
        refine we (fun _ _ k => zw_iconst (v := nI 2) dL_plans_188 (by decide) k) ?_
        refine we (fun _ _ k => zw_icmp_ne (tgt := 254) dL_plans_189 (by decide) (fun c => absurd (by decide) c) (fun _ => k)) ?_
        refine we (fun _ _ k => zw_aload_n dL_plans_192 rfl k) ?_
        refine we (fun _ _ k => zw_iconst (v := nI 1) dL_plans_193 (by decide) k) ?_
        refine we (fun _ _ k => zw_cVi dL_plans_194 (c_failure_ok (b := 0) hs (i := 1) (by decide) hf0) rfl okX4_failure ml_L_69 hs.i hs.k (by decide) rfl (Nat.le_of_ble_eq_true rfl) (Nat.le_of_ble_eq_true rfl) k) ?_
        refine we_top (x2 := nI 3) f1 ?_
        refine we (fun _ _ k => zw_iconst (v := nI 3) dL_plans_197 (by decide) k) ?_
        refine we (fun _ _ k => zw_icmp_ne (tgt := 254) dL_plans_198 (by decide) (fun c => absurd (by decide) c) (fun _ => k)) ?_
        refine we (fun _ _ k => zw_aload_n dL_plans_201 rfl k) ?_
        refine we (fun _ _ k => zw_iconst (v := nI 2) dL_plans_202 (by decide) k) ?_
        refine we (fun _ _ k => zw_cVi dL_plans_203 (c_failure_ok (b := 0) hs (i := 2) (by decide) hf0) rfl okX4_failure ml_L_69 hs.i hs.k (by decide) rfl (Nat.le_of_ble_eq_true rfl) (Nat.le_of_ble_eq_true rfl) k) ?_
        refine we_top (x2 := nI 1) f2 ?_
        refine we (fun _ _ k => zw_iconst (v := nI 1) dL_plans_206 (by decide) k) ?_
        refine we (fun _ _ k => zw_icmp_ne (tgt := 254) dL_plans_207 (by decide) (fun c => absurd (by decide) c) (fun _ => k)) ?_
        refine we (fun _ _ k => zw_aload_n dL_plans_210 rfl k) ?_
        refine we (fun _ _ k => zw_iconst (v := nI 3) dL_plans_211 (by decide) k) ?_
        refine we (fun _ _ k => zw_cVi dL_plans_212 (c_failure_ok (b := 0) hs (i := 3) (by decide) hf0) rfl okX4_failure ml_L_69 hs.i hs.k (by decide) rfl (Nat.le_of_ble_eq_true rfl) (Nat.le_of_ble_eq_true rfl) k) ?_
        refine we_top (x2 := nI 0) f3 ?_
        refine we (fun _ _ k => zw_if_ne (tgt := 254) dL_plans_215 (by decide) (fun c => absurd (by decide) c) (fun _ => k)) ?_
        refine we (fun _ _ k => zw_aload_n dL_plans_218 rfl k) ?_
        refine we (fun _ _ k => zw_iconst (v := nI 4) dL_plans_219 (by decide) k) ?_
        refine we (fun _ _ k => zw_cVi dL_plans_220 (c_failure_ok (b := 0) hs (i := 4) (by decide) hf0) rfl okX4_failure ml_L_69 hs.i hs.k (by decide) rfl (Nat.le_of_ble_eq_true rfl) (Nat.le_of_ble_eq_true rfl) k) ?_
        refine we_top (x2 := (-2)) f4 ?_
        refine we (fun _ _ k => zw_bipush (v := (-2)) dL_plans_223 (by decide) k) ?_
        refine we (fun _ _ k => zw_icmp_ne (tgt := 254) dL_plans_225 (by decide) (fun c => absurd rfl c) (fun _ => k)) ?_
        refine we (fun _ _ k => zw_aload_n dL_plans_228 rfl k) ?_
        refine we (fun _ _ k => zw_bipush (v := nI 8) dL_plans_229 (by decide) k) ?_
        refine we (fun _ _ k => zw_cVi dL_plans_231 (q_c8 hs hAn) rfl okX4_count ml_L_15 hs.i hs.k (by decide) rfl (Nat.le_of_ble_eq_true rfl) (Nat.le_of_ble_eq_true rfl) k) ?_
        refine we (fun _ _ k => zw_iload dL_plans_234 rfl k) ?_
        refine we (fun _ _ k => zw_icmp_ne (tgt := 254) dL_plans_236 (by decide) (fun c => absurd rfl c) (fun _ => k)) ?_
        refine we (fun _ _ k => zw_aload_n dL_plans_239 rfl k) ?_
        refine we (fun _ _ k => zw_iload_n dL_plans_240 rfl k) ?_
        refine we (fun _ _ k => zw_iconst (v := nI 1) dL_plans_241 (by decide) k) ?_
        refine we (fun _ _ k => zw_cVi dL_plans_242 (q_p1 hs hAn hp) rfl okX4_person ml_L_22 hs.i hs.k (by decide) rfl (Nat.le_of_ble_eq_true rfl) (Nat.le_of_ble_eq_true rfl) k) ?_
        refine we_top (x2 := nI v) hfn ?_
        refine we (fun _ _ k => zw_iload dL_plans_245 rfl k) ?_
        refine we (fun _ _ k => zw_icmp_ne (tgt := 254) dL_plans_247 (by decide) (fun c => absurd rfl c) (fun _ => k)) ?_
        refine we (fun _ _ k => zw_iconst (v := nI 1) dL_plans_250 (by decide) k) ?_
        refine we (fun _ _ k => zw_goto (tgt := 255) dL_plans_251 (by decide) k) ?_
        exact we_ret dL_plans_255 rfl (Or.inr rfl) ⟨rfl, P, _, _, _, hP3, hAn.mono (Nat.le_succ t)⟩
  refine we (fun _ _ k => zw_aload_n dL_plans_29 rfl k) ?_
  refine we (fun _ _ k => zw_iload dL_plans_30 rfl k) ?_
  by_cases hs0 : sd = 0
  · refine we (fun _ _ k => zw_if_ne (tgt := 40) dL_plans_32 (by decide) (fun c => absurd (by rw [hs0]; exact nI_0) c) (fun _ => k)) ?_
    refine we (fun _ _ k => zw_bipush (v := nI 113) dL_plans_35 (by decide) k) ?_
    refine we (fun _ _ k => zw_goto (tgt := 42) dL_plans_37 (by decide) k) ?_
    exact we_top (by rw [hv30 hs0]) J42
  · refine we (fun _ _ k => zw_if_ne (tgt := 40) dL_plans_32 (by decide) (fun _ => k) (fun c => absurd c (nI_ne0 (by omega) (by omega)))) ?_
    refine we (fun _ _ k => zw_bipush (v := nI 110) dL_plans_40 (by decide) k) ?_
    exact we_top (by rw [hv31 hs0]) J42
