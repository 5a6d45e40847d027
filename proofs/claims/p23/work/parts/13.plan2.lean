/-! ===== Plan: parts, pieces, the whole text ===== -/
def rb2 (g : Nat → Int32) (l : LxS) : LxS := if lTI g (nI 113) l then lTIs g (nI 113) l else lTK g (nI 110) (lTIs g (nI 113) l)
def rb4 (g : Nat → Int32) (l : LxS) : LxS := lTK g (nI 58) (lTS g l)
def rb5 (g : Nat → Int32) (l : LxS) : LxS × Int32 := tnF g (nI 0) (nI 23) (rb4 g l)
def rb7 (g : Nat → Int32) (l : LxS) : LxS × Int32 := if lTI g (nI 45) (rb5 g l).1 then tnF g (rb5 g l).2 (nI 23) (lTIs g (nI 45) (rb5 g l).1) else (lTIs g (nI 45) (rb5 g l).1, (rb5 g l).2)
def rb9 (g : Nat → Int32) (l : LxS) : LxS × Int32 := tnF g (nI 1) (nI 999) (lTK g (nI 61) (rb7 g l).1)
def rb10 (g : Nat → Int32) (l : LxS) : LxS := lTK g (nI 59) (rb9 g l).1
def rbW (C : Mem) (q : Nat) (g : Nat → Int32) (l : LxS) (de np : Nat) : Mem :=
  let p := q + 4 + np
  up (up (up (up (up (up (up C p 0 (nI l.1)) p 1 (nI de)) p 2 (if lTI g (nI 113) l then nI 0 else nI 1)) p 3 (g (rb2 g l).1 - nI 48)) p 4 (rb5 g (rb2 g l)).2) p 5 (rb7 g (rb2 g l)).2) p 6 ((rb9 g (rb2 g l)).2 * C (q + 3) de)
def rbM (C : Mem) (q : Nat) (g : Nat → Int32) (l : LxS) (de np : Nat) : Mem := if (rb10 g (rb2 g l)).2 = (-1) ∧ np < 14 then rbW C q g l de np else C
def rbN (g : Nat → Int32) (l : LxS) (np : Nat) : Nat := if (rb10 g (rb2 g l)).2 = (-1) ∧ np < 14 then np + 1 else np
theorem rb2_le {len : Nat} {tx : Nat → Int32} {l : LxS} (hl : l.1 ≤ 100) (hlen : len ≤ 100) : (rb2 (gF len tx) l).1 ≤ 100 := by
  unfold rb2
  split
  · exact lTIs_le hl hlen (chn rfl)
  · exact lTK_le (lTIs_le hl hlen (chn rfl)) hlen (chn rfl)
theorem rb5_le {len : Nat} {tx : Nat → Int32} {l : LxS} (hl : l.1 ≤ 100) (hlen : len ≤ 100) : (rb5 (gF len tx) l).1.1 ≤ 100 := tnF_le (lTK_le (lTS_le hl hlen) hlen (chn rfl)) hlen
theorem rb7_le {len : Nat} {tx : Nat → Int32} {l : LxS} (hl : l.1 ≤ 100) (hlen : len ≤ 100) : (rb7 (gF len tx) l).1.1 ≤ 100 := by
  unfold rb7
  split
  · exact tnF_le (lTIs_le (rb5_le hl hlen) hlen (chn rfl)) hlen
  · exact lTIs_le (rb5_le hl hlen) hlen (chn rfl)
theorem rb10_le {len : Nat} {tx : Nat → Int32} {l : LxS} (hl : l.1 ≤ 100) (hlen : len ≤ 100) : (rb10 (gF len tx) l).1 ≤ 100 := lTK_le (tnF_le (lTK_le (rb7_le hl hlen) hlen (chn rfl)) hlen) hlen (chn rfl)
set_option maxRecDepth 100000 in
set_option maxHeartbeats 4000000 in
theorem c_X2_readBids {sh : Sh} {C : Mem} {q len : Nat} {tx : Nat → Int32} {l : LxS} {de np : Nat} (hq : IsPl sh q) (hC : PlOk C q len tx) (hl : l.1 ≤ 100) (hde : de ≤ 4) (hnp : np ≤ 14) : Calls mX2_readBids 3 0 0 [.inr (some (q))] sh (PL C q l de np) (none) sh (PL (rbM C q (gF len tx) l de np) q (rb10 (gF len tx) (rb2 (gF len tx) l)) (de) (rbN (gF len tx) l np)) := by
  refine Calls.of plX2 (Nat.le_of_ble_eq_true rfl) ?_
  have h100 := hC.2.1
  show WP mX2_readBids 3 0 0 0 [some (.inr (some (q))), none, none, none, none, none, none, none] [] sh (PL C q l de np) (none) sh (PL (rbM C q (gF len tx) l de np) q (rb10 (gF len tx) (rb2 (gF len tx) l)) (de) (rbN (gF len tx) l np))
  refine zw_aload_n dX2_readBids_0 rfl ?_
  refine zw_getIv (j := 6) (kd := 2) (v := (nI ((l).1))) dX2_readBids_1 hq.i hq.k (by decide) (by decide) fl_X2_29 rfl PL_po ?_
  refine zw_istore_n dX2_readBids_4 (by decide) ?_
  refine zw_aload_n dX2_readBids_5 rfl ?_
  refine zw_bipush (v := nI 113) dX2_readBids_6 (by decide) ?_
  refine zw_cVi dX2_readBids_8 (c_X2_takeIf hq hC hl _) rfl okX2_takeIf ml_X2_77 hq.i hq.k (by decide) rfl (Nat.le_of_ble_eq_true rfl) (Nat.le_of_ble_eq_true rfl) ?_
  refine zw_istore_n dX2_readBids_11 (by decide) ?_
  refine zw_iload_n dX2_readBids_12 rfl ?_
  have J22 : ∀ (l2 : LxS), l2.1 ≤ 100 → rb2 (gF len tx) l = l2 → WP mX2_readBids 3 0 0 22 [some (.inr (some (q))), some (.inl (nI (l.1))), some (.inl (b01c (lTI (gF len tx) (nI 113) l))), none, none, none, none, none] [] sh (PL C q l2 de np) (none) sh (PL (rbM C q (gF len tx) l de np) q (rb10 (gF len tx) (rb2 (gF len tx) l)) (de) (rbN (gF len tx) l np)) := by
    intro l2 hl2 hx2
    refine zw_aload_n dX2_readBids_22 rfl ?_
    refine zw_cVi dX2_readBids_23 (c_X2_takeStreet hq hC hl2) rfl okX2_takeStreet ml_X2_81 hq.i hq.k (by decide) rfl (Nat.le_of_ble_eq_true rfl) (Nat.le_of_ble_eq_true rfl) ?_
    refine zw_istore_n dX2_readBids_26 (by decide) ?_
    refine zw_aload_n dX2_readBids_27 rfl ?_
    refine zw_bipush (v := nI 58) dX2_readBids_28 (by decide) ?_
    refine zw_cVv dX2_readBids_30 (c_X2_take hq hC (lTS_le hl2 h100) _ (chn rfl)) rfl okX2_take ml_X2_70 hq.i hq.k (by decide) rfl (Nat.le_of_ble_eq_true rfl) (Nat.le_of_ble_eq_true rfl) ?_
    refine zw_aload_n dX2_readBids_33 rfl ?_
    refine zw_iconst (v := nI 0) dX2_readBids_34 (by decide) ?_
    refine zw_bipush (v := nI 23) dX2_readBids_35 (by decide) ?_
    refine zw_cVi dX2_readBids_37 (c_X2_takeNumber hq hC (lTK_le (lTS_le hl2 h100) h100 (chn rfl)) _ _) rfl okX2_takeNumber ml_X2_66 hq.i hq.k (by decide) rfl (Nat.le_of_ble_eq_true rfl) (Nat.le_of_ble_eq_true rfl) ?_
    refine zw_istore dX2_readBids_40 (by decide) ?_
    refine zw_aload_n dX2_readBids_42 rfl ?_
    refine zw_bipush (v := nI 45) dX2_readBids_43 (by decide) ?_
    refine zw_cVi dX2_readBids_45 (c_X2_takeIf hq hC (tnF_le (lTK_le (lTS_le hl2 h100) h100 (chn rfl)) h100) _) rfl okX2_takeIf ml_X2_77 hq.i hq.k (by decide) rfl (Nat.le_of_ble_eq_true rfl) (Nat.le_of_ble_eq_true rfl) ?_
    have J64 : ∀ (l7 : LxS) (last : Int32), l7.1 ≤ 100 → rb7 (gF len tx) l2 = (l7, last) → WP mX2_readBids 3 0 0 64 [some (.inr (some (q))), some (.inl (nI (l.1))), some (.inl (b01c (lTI (gF len tx) (nI 113) l))), some (.inl ((gF len tx) l2.1 - nI 48)), some (.inl ((rb5 (gF len tx) l2).2)), none, none, none] [.inl (last)] sh (PL C q l7 de np) (none) sh (PL (rbM C q (gF len tx) l de np) q (rb10 (gF len tx) (rb2 (gF len tx) l)) (de) (rbN (gF len tx) l np)) := by
      intro l7 last hl7 hx7
      refine zw_istore dX2_readBids_64 (by decide) ?_
      refine zw_aload_n dX2_readBids_66 rfl ?_
      refine zw_bipush (v := nI 61) dX2_readBids_67 (by decide) ?_
      refine zw_cVv dX2_readBids_69 (c_X2_take hq hC hl7 _ (chn rfl)) rfl okX2_take ml_X2_70 hq.i hq.k (by decide) rfl (Nat.le_of_ble_eq_true rfl) (Nat.le_of_ble_eq_true rfl) ?_
      refine zw_aload_n dX2_readBids_72 rfl ?_
      refine zw_iconst (v := nI 1) dX2_readBids_73 (by decide) ?_
      refine zw_sipush (v := nI 999) dX2_readBids_74 (by decide) ?_
      refine zw_cVi dX2_readBids_77 (c_X2_takeNumber hq hC (lTK_le hl7 h100 (chn rfl)) _ _) rfl okX2_takeNumber ml_X2_66 hq.i hq.k (by decide) rfl (Nat.le_of_ble_eq_true rfl) (Nat.le_of_ble_eq_true rfl) ?_
      refine zw_istore dX2_readBids_80 (by decide) ?_
      refine zw_aload_n dX2_readBids_82 rfl ?_
      refine zw_bipush (v := nI 59) dX2_readBids_83 (by decide) ?_
      refine zw_cVv dX2_readBids_85 (c_X2_take hq hC (tnF_le (lTK_le hl7 h100 (chn rfl)) h100) _ (chn rfl)) rfl okX2_take ml_X2_70 hq.i hq.k (by decide) rfl (Nat.le_of_ble_eq_true rfl) (Nat.le_of_ble_eq_true rfl) ?_
      refine zw_aload_n dX2_readBids_88 rfl ?_
      refine zw_cVi dX2_readBids_89 (c_X2_hasFailed hq hC (lTK_le (tnF_le (lTK_le hl7 h100 (chn rfl)) h100) h100 (chn rfl))) rfl okX2_hasFailed ml_X2_41 hq.i hq.k (by decide) rfl (Nat.le_of_ble_eq_true rfl) (Nat.le_of_ble_eq_true rfl) ?_
      refine zw_if_ne_c (tgt := 191) dX2_readBids_92 (by decide) (fun c92 => ?_) (fun c92 => ?_)
      · exact zw_vretE dX2_readBids_191 rfl rfl rfl (by unfold rbM rbN; rw [hx2, show rb10 (gF len tx) l2 = lTK (gF len tx) (nI 59) (tnF (gF len tx) (nI 1) (nI 999) (lTK (gF len tx) (nI 61) l7)).1 by unfold rb10 rb9; rw [hx7], if_neg (fun z => c92 z.1), if_neg (fun z => c92 z.1)])
      · refine zw_aload_n dX2_readBids_95 rfl ?_
        refine zw_getIv (j := 3) (kd := 2) (v := (nI (np))) dX2_readBids_96 hq.i hq.k (by decide) (by decide) fl_X2_35 rfl PL_np ?_
        refine zw_bipush (v := nI 14) dX2_readBids_99 (by decide) ?_
        refine zw_icmp_ge_n (tgt := 191) dX2_readBids_101 (by decide) (by omega) (by omega) (fun c101 => ?_) (fun c101 => ?_)
        · exact zw_vretE dX2_readBids_191 rfl rfl rfl (by unfold rbM rbN; rw [hx2, show rb10 (gF len tx) l2 = lTK (gF len tx) (nI 59) (tnF (gF len tx) (nI 1) (nI 999) (lTK (gF len tx) (nI 61) l7)).1 by unfold rb10 rb9; rw [hx7], if_neg (fun z => by have := z.2; omega), if_neg (fun z => by have := z.2; omega)])
        · refine zw_aload_n dX2_readBids_104 rfl ?_
          refine zw_getR (j := 2) (kd := 2) dX2_readBids_105 hq.i hq.k (by decide) (by decide) fl_X2_17 rfl hq.r2 ?_
          refine zw_aload_n dX2_readBids_108 rfl ?_
          refine zw_getIv (j := 3) (kd := 2) (v := (nI (np))) dX2_readBids_109 hq.i hq.k (by decide) (by decide) fl_X2_35 rfl PL_np ?_
          refine zw_aaldP dX2_readBids_112 hq.i2 hq.k2 hq.L2 rfl (by rw [hq.n2]; exact c101) (hq.pr c101) ?_
          refine zw_astore dX2_readBids_113 (by decide) ?_
          refine zw_aload dX2_readBids_115 rfl ?_
          refine zw_iload_n dX2_readBids_117 rfl ?_
          refine zw_putI (j := 0) (kd := 1) dX2_readBids_118 (hq.pi c101) (hq.pk c101) (by decide) (by decide) fl_X2_84 rfl rfl rfl ?_
          refine zw_mem (PL_up (by omega)) ?_
          refine zw_aload dX2_readBids_121 rfl ?_
          refine zw_aload_n dX2_readBids_123 rfl ?_
          refine zw_getIv (j := 5) (kd := 2) (v := (nI (de))) dX2_readBids_124 hq.i hq.k (by decide) (by decide) fl_X2_32 rfl PL_de ?_
          refine zw_putI (j := 1) (kd := 1) dX2_readBids_127 (hq.pi c101) (hq.pk c101) (by decide) (by decide) fl_X2_87 rfl rfl rfl ?_
          refine zw_mem (PL_up (by omega)) ?_
          refine zw_aload dX2_readBids_130 rfl ?_
          refine zw_iload_n dX2_readBids_132 rfl ?_
          refine zw_if_eq_c (tgt := 140) dX2_readBids_133 (by decide) (fun c133 => ?_) (fun c133 => ?_)
          · refine zw_iconst (v := nI 1) dX2_readBids_140 (by decide) ?_
            refine zw_putI (j := 2) (kd := 1) dX2_readBids_141 (hq.pi c101) (hq.pk c101) (by decide) (by decide) fl_X2_88 rfl rfl rfl ?_
            refine zw_mem (PL_up (by omega)) ?_
            refine zw_aload dX2_readBids_144 rfl ?_
            refine zw_iload_n dX2_readBids_146 rfl ?_
            refine zw_putI (j := 3) (kd := 1) dX2_readBids_147 (hq.pi c101) (hq.pk c101) (by decide) (by decide) fl_X2_91 rfl rfl rfl ?_
            refine zw_mem (PL_up (by omega)) ?_
            refine zw_aload dX2_readBids_150 rfl ?_
            refine zw_iload dX2_readBids_152 rfl ?_
            refine zw_putI (j := 4) (kd := 1) dX2_readBids_154 (hq.pi c101) (hq.pk c101) (by decide) (by decide) fl_X2_94 rfl rfl rfl ?_
            refine zw_mem (PL_up (by omega)) ?_
            refine zw_aload dX2_readBids_157 rfl ?_
            refine zw_iload dX2_readBids_159 rfl ?_
            refine zw_putI (j := 5) (kd := 1) dX2_readBids_161 (hq.pi c101) (hq.pk c101) (by decide) (by decide) fl_X2_97 rfl rfl rfl ?_
            refine zw_mem (PL_up (by omega)) ?_
            refine zw_aload dX2_readBids_164 rfl ?_
            refine zw_iload dX2_readBids_166 rfl ?_
            refine zw_aload_n dX2_readBids_168 rfl ?_
            refine zw_getR (j := 7) (kd := 2) dX2_readBids_169 hq.i hq.k (by decide) (by decide) fl_X2_25 rfl hq.r7 ?_
            refine zw_aload_n dX2_readBids_172 rfl ?_
            refine zw_getIv (j := 5) (kd := 2) (v := (nI (de))) dX2_readBids_173 hq.i hq.k (by decide) (by decide) fl_X2_32 rfl PL_de ?_
            refine zw_ialdv (v := (C (q + 3) de)) dX2_readBids_176 hq.i7 hq.k7 hq.L7 rfl (by rw [hq.n7]; omega) (by rw [PL_ne (by omega), up_ne (by omega), up_ne (by omega), up_ne (by omega), up_ne (by omega), up_ne (by omega), up_ne (by omega)]) ?_
            refine zw_imul dX2_readBids_177 ?_
            refine zw_putI (j := 6) (kd := 1) dX2_readBids_178 (hq.pi c101) (hq.pk c101) (by decide) (by decide) fl_X2_100 rfl rfl rfl ?_
            refine zw_mem (PL_up (by omega)) ?_
            refine zw_aload_n dX2_readBids_181 rfl ?_
            refine zw_dup dX2_readBids_182 ?_
            refine zw_getIv (j := 3) (kd := 2) (v := (nI (np))) dX2_readBids_183 hq.i hq.k (by decide) (by decide) fl_X2_35 rfl PL_np ?_
            refine zw_iconst (v := nI 1) dX2_readBids_186 (by decide) ?_
            refine zw_iaddn dX2_readBids_187 ?_
            refine zw_putI (j := 3) (kd := 2) dX2_readBids_188 hq.i hq.k (by decide) (by decide) fl_X2_35 rfl rfl rfl ?_
            refine zw_mem PL_unp ?_
            exact zw_vretE dX2_readBids_191 rfl rfl rfl (by unfold rbM rbN; rw [hx2, show rb10 (gF len tx) l2 = lTK (gF len tx) (nI 59) (tnF (gF len tx) (nI 1) (nI 999) (lTK (gF len tx) (nI 61) l7)).1 by unfold rb10 rb9; rw [hx7], if_pos ⟨Classical.not_not.mp c92, c101⟩, if_pos ⟨Classical.not_not.mp c92, c101⟩]; unfold rbW rb9; rw [hx2, hx7, if_neg c133] <;> rfl)
          · refine zw_iconst (v := nI 0) dX2_readBids_136 (by decide) ?_
            refine zw_goto (tgt := 141) dX2_readBids_137 (by decide) ?_
            refine zw_putI (j := 2) (kd := 1) dX2_readBids_141 (hq.pi c101) (hq.pk c101) (by decide) (by decide) fl_X2_88 rfl rfl rfl ?_
            refine zw_mem (PL_up (by omega)) ?_
            refine zw_aload dX2_readBids_144 rfl ?_
            refine zw_iload_n dX2_readBids_146 rfl ?_
            refine zw_putI (j := 3) (kd := 1) dX2_readBids_147 (hq.pi c101) (hq.pk c101) (by decide) (by decide) fl_X2_91 rfl rfl rfl ?_
            refine zw_mem (PL_up (by omega)) ?_
            refine zw_aload dX2_readBids_150 rfl ?_
            refine zw_iload dX2_readBids_152 rfl ?_
            refine zw_putI (j := 4) (kd := 1) dX2_readBids_154 (hq.pi c101) (hq.pk c101) (by decide) (by decide) fl_X2_94 rfl rfl rfl ?_
            refine zw_mem (PL_up (by omega)) ?_
            refine zw_aload dX2_readBids_157 rfl ?_
            refine zw_iload dX2_readBids_159 rfl ?_
            refine zw_putI (j := 5) (kd := 1) dX2_readBids_161 (hq.pi c101) (hq.pk c101) (by decide) (by decide) fl_X2_97 rfl rfl rfl ?_
            refine zw_mem (PL_up (by omega)) ?_
            refine zw_aload dX2_readBids_164 rfl ?_
            refine zw_iload dX2_readBids_166 rfl ?_
            refine zw_aload_n dX2_readBids_168 rfl ?_
            refine zw_getR (j := 7) (kd := 2) dX2_readBids_169 hq.i hq.k (by decide) (by decide) fl_X2_25 rfl hq.r7 ?_
            refine zw_aload_n dX2_readBids_172 rfl ?_
            refine zw_getIv (j := 5) (kd := 2) (v := (nI (de))) dX2_readBids_173 hq.i hq.k (by decide) (by decide) fl_X2_32 rfl PL_de ?_
            refine zw_ialdv (v := (C (q + 3) de)) dX2_readBids_176 hq.i7 hq.k7 hq.L7 rfl (by rw [hq.n7]; omega) (by rw [PL_ne (by omega), up_ne (by omega), up_ne (by omega), up_ne (by omega), up_ne (by omega), up_ne (by omega), up_ne (by omega)]) ?_
            refine zw_imul dX2_readBids_177 ?_
            refine zw_putI (j := 6) (kd := 1) dX2_readBids_178 (hq.pi c101) (hq.pk c101) (by decide) (by decide) fl_X2_100 rfl rfl rfl ?_
            refine zw_mem (PL_up (by omega)) ?_
            refine zw_aload_n dX2_readBids_181 rfl ?_
            refine zw_dup dX2_readBids_182 ?_
            refine zw_getIv (j := 3) (kd := 2) (v := (nI (np))) dX2_readBids_183 hq.i hq.k (by decide) (by decide) fl_X2_35 rfl PL_np ?_
            refine zw_iconst (v := nI 1) dX2_readBids_186 (by decide) ?_
            refine zw_iaddn dX2_readBids_187 ?_
            refine zw_putI (j := 3) (kd := 2) dX2_readBids_188 hq.i hq.k (by decide) (by decide) fl_X2_35 rfl rfl rfl ?_
            refine zw_mem PL_unp ?_
            exact zw_vretE dX2_readBids_191 rfl rfl rfl (by unfold rbM rbN; rw [hx2, show rb10 (gF len tx) l2 = lTK (gF len tx) (nI 59) (tnF (gF len tx) (nI 1) (nI 999) (lTK (gF len tx) (nI 61) l7)).1 by unfold rb10 rb9; rw [hx7], if_pos ⟨Classical.not_not.mp c92, c101⟩, if_pos ⟨Classical.not_not.mp c92, c101⟩]; unfold rbW rb9; rw [hx2, hx7, if_pos c133] <;> rfl)
    refine zw_if_eq_c (tgt := 62) dX2_readBids_48 (by decide) (fun c48 => ?_) (fun c48 => ?_)
    · refine zw_iload dX2_readBids_62 rfl ?_
      exact WP.sub (J64 _ _ (lTIs_le (rb5_le hl2 h100) h100 (chn rfl)) (by unfold rb7; rw [if_neg (show ¬ lTI (gF len tx) (nI 45) (rb5 (gF len tx) l2).1 from c48)] <;> rfl)) ⟨rfl, rfl, rfl, rfl, rfl, trivial⟩
    · refine zw_aload_n dX2_readBids_51 rfl ?_
      refine zw_iload dX2_readBids_52 rfl ?_
      refine zw_bipush (v := nI 23) dX2_readBids_54 (by decide) ?_
      refine zw_cVi dX2_readBids_56 (c_X2_takeNumber hq hC (lTIs_le (tnF_le (lTK_le (lTS_le hl2 h100) h100 (chn rfl)) h100) h100 (chn rfl)) _ _) rfl okX2_takeNumber ml_X2_66 hq.i hq.k (by decide) rfl (Nat.le_of_ble_eq_true rfl) (Nat.le_of_ble_eq_true rfl) ?_
      refine zw_goto (tgt := 64) dX2_readBids_59 (by decide) ?_
      exact WP.sub (J64 _ _ (tnF_le (lTIs_le (rb5_le hl2 h100) h100 (chn rfl)) h100) (by unfold rb7; rw [if_pos (show lTI (gF len tx) (nI 45) (rb5 (gF len tx) l2).1 from c48)] <;> rfl)) ⟨rfl, rfl, rfl, rfl, rfl, trivial⟩
  refine zw_if_ne_c (tgt := 22) dX2_readBids_13 (by decide) (fun c13 => ?_) (fun c13 => ?_)
  · exact WP.sub (J22 _ (lTIs_le hl h100 (chn rfl)) (by unfold rb2; rw [if_pos c13])) ⟨rfl, rfl, rfl, trivial⟩
  · refine zw_aload_n dX2_readBids_16 rfl ?_
    refine zw_bipush (v := nI 110) dX2_readBids_17 (by decide) ?_
    refine zw_cVv dX2_readBids_19 (c_X2_take hq hC (lTIs_le hl h100 (chn rfl)) _ (chn rfl)) rfl okX2_take ml_X2_70 hq.i hq.k (by decide) rfl (Nat.le_of_ble_eq_true rfl) (Nat.le_of_ble_eq_true rfl) ?_
    exact WP.sub (J22 _ (lTK_le (lTIs_le hl h100 (chn rfl)) h100 (chn rfl)) (by unfold rb2; rw [if_neg c13])) ⟨rfl, rfl, rfl, trivial⟩
abbrev PSt : Type := Mem × LxS × Nat × Nat
def rpF (q : Nat) (g : Nat → Int32) (t : PSt) : PSt :=
  if g t.2.1.1 = nI 41 then (t.1, cgl g t.2.1 t.2.2.1, t.2.2.1 - 1, t.2.2.2)
  else if g t.2.1.1 = nI 40 then (ogM t.1 q g t.2.1 t.2.2.1 (nI 1), ogl g t.2.1 t.2.2.1, ogD g t.2.1 t.2.2.1, t.2.2.2)
  else if isD (g t.2.1.1) then (ogM t.1 q g (lTK g (nI 42) (tnF g (nI 2) (nI 9) t.2.1).1) t.2.2.1 (tnF g (nI 2) (nI 9) t.2.1).2, ogl g (lTK g (nI 42) (tnF g (nI 2) (nI 9) t.2.1).1) t.2.2.1, ogD g (lTK g (nI 42) (tnF g (nI 2) (nI 9) t.2.1).1) t.2.2.1, t.2.2.2)
  else (rbM t.1 q g t.2.1 t.2.2.1 t.2.2.2, rb10 g (rb2 g t.2.1), t.2.2.1, rbN g t.2.1 t.2.2.2)
/-- the memory of a state of the reading -/
abbrev PSm (q : Nat) (t : PSt) : Mem := PL t.1 q t.2.1 t.2.2.1 t.2.2.2
def PSok (q len : Nat) (tx : Nat → Int32) (t : PSt) : Prop := PlOk t.1 q len tx ∧ t.2.1.1 ≤ 100 ∧ t.2.2.1 ≤ 4 ∧ t.2.2.2 ≤ 14
theorem lFA_le {x : Int32} {l : LxS} (h : l.1 ≤ 100) : (lFA x l).1 ≤ 100 := h
theorem ogl_le {len de : Nat} {tx : Nat → Int32} {l : LxS} (hl : l.1 ≤ 100) (hlen : len ≤ 100) : (ogl (gF len tx) l de).1 ≤ 100 := by
  unfold ogl
  split
  · exact lTK_le hl hlen (chn rfl)
  · exact lTK_le (lFA_le hl) hlen (chn rfl)
theorem cgl_le {len de : Nat} {tx : Nat → Int32} {l : LxS} (hl : l.1 ≤ 100) (hlen : len ≤ 100) : (cgl (gF len tx) l de).1 ≤ 100 := by
  unfold cgl
  split
  · exact lTK_le hl hlen (chn rfl)
  · exact lFA_le hl
theorem ogl_ok {g : Nat → Int32} {l : LxS} {de : Nat} (hl : l.1 ≤ 100) (h : (ogl g l de).2 = (-1)) : de < 4 := by
  by_cases hd : de < 4
  · exact hd
  · unfold ogl at h
    rw [if_neg hd] at h
    exact absurd h (lTK_bad (lFA_ok (by omega)))
theorem ogD_le {g : Nat → Int32} {l : LxS} {de : Nat} (hl : l.1 ≤ 100) (hd : de ≤ 4) : ogD g l de ≤ 4 := by
  unfold ogD
  split
  · rename_i h
    have := ogl_ok hl h
    omega
  · exact hd
theorem PlOk.og {C : Mem} {q len de : Nat} {tx g : Nat → Int32} {l : LxS} {f : Int32} (h : PlOk C q len tx) : PlOk (ogM C q g l de f) q len tx := by
  unfold ogM
  split
  · exact h.wr (by omega) (by omega)
  · exact h
theorem PlOk.rb {C : Mem} {q len de np : Nat} {tx g : Nat → Int32} {l : LxS} (h : PlOk C q len tx) : PlOk (rbM C q g l de np) q len tx := by
  unfold rbM
  split
  · exact ((((((h.wr (by omega) (by omega)).wr (by omega) (by omega)).wr (by omega) (by omega)).wr (by omega) (by omega)).wr (by omega) (by omega)).wr (by omega) (by omega)).wr (by omega) (by omega)
  · exact h
theorem rpF_ok {q len : Nat} {tx : Nat → Int32} {t : PSt} (h : PSok q len tx t) : PSok q len tx (rpF q (gF len tx) t) := by
  obtain ⟨h1, h2, h3, h4⟩ := h
  have h100 := h1.2.1
  have h5 : (lTK (gF len tx) (nI 42) (tnF (gF len tx) (nI 2) (nI 9) t.2.1).1).1 ≤ 100 := lTK_le (tnF_le h2 h100) h100 (chn rfl)
  unfold rpF
  split
  · exact ⟨h1, cgl_le h2 h100, by show t.2.2.1 - 1 ≤ 4; omega, h4⟩
  · split
    · exact ⟨h1.og, ogl_le h2 h100, ogD_le h2 h3, h4⟩
    · split
      · exact ⟨h1.og, ogl_le h5 h100, ogD_le h5 h3, h4⟩
      · refine ⟨h1.rb, rb10_le (rb2_le h2 h100) h100, h3, ?_⟩
        show rbN _ _ _ ≤ 14
        unfold rbN
        split <;> omega
set_option maxRecDepth 100000 in
set_option maxHeartbeats 4000000 in
theorem c_X2_readPiece {sh : Sh} {C : Mem} {q len : Nat} {tx : Nat → Int32} {l : LxS} {de np : Nat} (hq : IsPl sh q) (hC : PlOk C q len tx) (hl : l.1 ≤ 100) (hde : de ≤ 4) (hnp : np ≤ 14) : Calls mX2_readPiece 4 0 0 [.inr (some (q))] sh (PL C q l de np) (none) sh (PL ((rpF q (gF len tx) (C, l, de, np)).1) q ((rpF q (gF len tx) (C, l, de, np)).2.1) ((rpF q (gF len tx) (C, l, de, np)).2.2.1) ((rpF q (gF len tx) (C, l, de, np)).2.2.2)) := by
  refine Calls.of plX2 (Nat.le_of_ble_eq_true rfl) ?_
  have h100 := hC.2.1
  show WP mX2_readPiece 4 0 0 0 [some (.inr (some (q))), none] [] sh (PL C q l de np) (none) sh (PL ((rpF q (gF len tx) (C, l, de, np)).1) q ((rpF q (gF len tx) (C, l, de, np)).2.1) ((rpF q (gF len tx) (C, l, de, np)).2.2.1) ((rpF q (gF len tx) (C, l, de, np)).2.2.2))
  refine zw_aload_n dX2_readPiece_0 rfl ?_
  refine zw_cVi dX2_readPiece_1 (c_X2_sign hq hC hl) rfl okX2_sign ml_X2_52 hq.i hq.k (by decide) rfl (Nat.le_of_ble_eq_true rfl) (Nat.le_of_ble_eq_true rfl) ?_
  refine zw_bipush (v := nI 41) dX2_readPiece_4 (by decide) ?_
  refine zw_icmp_ne (tgt := 16) dX2_readPiece_6 (by decide) (fun c6 => ?_) (fun c6 => ?_)
  · refine zw_aload_n dX2_readPiece_16 rfl ?_
    refine zw_cVi dX2_readPiece_17 (c_X2_sign hq hC hl) rfl okX2_sign ml_X2_52 hq.i hq.k (by decide) rfl (Nat.le_of_ble_eq_true rfl) (Nat.le_of_ble_eq_true rfl) ?_
    refine zw_bipush (v := nI 40) dX2_readPiece_20 (by decide) ?_
    refine zw_icmp_ne (tgt := 33) dX2_readPiece_22 (by decide) (fun c22 => ?_) (fun c22 => ?_)
    · refine zw_aload_n dX2_readPiece_33 rfl ?_
      refine zw_cVi dX2_readPiece_34 (c_X2_sign hq hC hl) rfl okX2_sign ml_X2_52 hq.i hq.k (by decide) rfl (Nat.le_of_ble_eq_true rfl) (Nat.le_of_ble_eq_true rfl) ?_
      refine zw_cSi dX2_readPiece_37 (c_X2_isDigit _) rfl okX2_isDigit ml_X2_62 (Nat.le_of_ble_eq_true rfl) (Nat.le_of_ble_eq_true rfl) ?_
      refine zw_if_eq_b (tgt := 65) dX2_readPiece_40 (by decide) (fun c40 => ?_) (fun c40 => ?_)
      · refine zw_aload_n dX2_readPiece_65 rfl ?_
        refine zw_cVv dX2_readPiece_66 (c_X2_readBids hq hC hl (by omega) (by omega)) rfl okX2_readBids ml_X2_74 hq.i hq.k (by decide) rfl (Nat.le_of_ble_eq_true rfl) (Nat.le_of_ble_eq_true rfl) ?_
        exact zw_vretE dX2_readPiece_69 rfl rfl rfl (by unfold rpF; rw [if_neg c6, if_neg c22, if_neg c40])
      · refine zw_aload_n dX2_readPiece_43 rfl ?_
        refine zw_iconst (v := nI 2) dX2_readPiece_44 (by decide) ?_
        refine zw_bipush (v := nI 9) dX2_readPiece_45 (by decide) ?_
        refine zw_cVi dX2_readPiece_47 (c_X2_takeNumber hq hC hl _ _) rfl okX2_takeNumber ml_X2_66 hq.i hq.k (by decide) rfl (Nat.le_of_ble_eq_true rfl) (Nat.le_of_ble_eq_true rfl) ?_
        refine zw_istore_n dX2_readPiece_50 (by decide) ?_
        refine zw_aload_n dX2_readPiece_51 rfl ?_
        refine zw_bipush (v := nI 42) dX2_readPiece_52 (by decide) ?_
        refine zw_cVv dX2_readPiece_54 (c_X2_take hq hC (tnF_le hl h100) _ (chn rfl)) rfl okX2_take ml_X2_70 hq.i hq.k (by decide) rfl (Nat.le_of_ble_eq_true rfl) (Nat.le_of_ble_eq_true rfl) ?_
        refine zw_aload_n dX2_readPiece_57 rfl ?_
        refine zw_iload_n dX2_readPiece_58 rfl ?_
        refine zw_cVv dX2_readPiece_59 (c_X2_openGroup hq hC (lTK_le (tnF_le hl h100) h100 (chn rfl)) (by omega) _) rfl okX2_openGroup ml_X2_59 hq.i hq.k (by decide) rfl (Nat.le_of_ble_eq_true rfl) (Nat.le_of_ble_eq_true rfl) ?_
        refine zw_goto (tgt := 69) dX2_readPiece_62 (by decide) ?_
        exact zw_vretE dX2_readPiece_69 rfl rfl rfl (by unfold rpF; rw [if_neg c6, if_neg c22, if_pos c40])
    · refine zw_aload_n dX2_readPiece_25 rfl ?_
      refine zw_iconst (v := nI 1) dX2_readPiece_26 (by decide) ?_
      refine zw_cVv dX2_readPiece_27 (c_X2_openGroup hq hC hl (by omega) _) rfl okX2_openGroup ml_X2_59 hq.i hq.k (by decide) rfl (Nat.le_of_ble_eq_true rfl) (Nat.le_of_ble_eq_true rfl) ?_
      refine zw_goto (tgt := 69) dX2_readPiece_30 (by decide) ?_
      exact zw_vretE dX2_readPiece_69 rfl rfl rfl (by unfold rpF; rw [if_neg c6, if_pos c22])
  · refine zw_aload_n dX2_readPiece_9 rfl ?_
    refine zw_cVv dX2_readPiece_10 (c_X2_closeGroup hq hC hl (by omega)) rfl okX2_closeGroup ml_X2_56 hq.i hq.k (by decide) rfl (Nat.le_of_ble_eq_true rfl) (Nat.le_of_ble_eq_true rfl) ?_
    refine zw_goto (tgt := 69) dX2_readPiece_13 (by decide) ?_
    exact zw_vretE dX2_readPiece_69 rfl rfl rfl (by unfold rpF; rw [if_pos c6])
def rtL (q len : Nat) (g : Nat → Int32) : Nat → PSt → PSt
  | 0, t => t
  | n + 1, t => if t.2.1.1 < len ∧ t.2.1.2 = (-1) then rtL q len g n (rpF q g t) else t
theorem rtL_go {q len n : Nat} {g : Nat → Int32} {t : PSt} (h1 : t.2.1.1 < len) (h2 : t.2.1.2 = (-1)) : rtL q len g (n + 1) t = rtL q len g n (rpF q g t) := if_pos ⟨h1, h2⟩
theorem rtL_stop {q len n : Nat} {g : Nat → Int32} {t : PSt} (h : ¬ (t.2.1.1 < len ∧ t.2.1.2 = (-1))) : rtL q len g (n + 1) t = t := if_neg h
def rtE (t : PSt) : LxS := if 0 < t.2.2.1 then lFA (nI t.2.1.1) t.2.1 else t.2.1
theorem PL_init {C : Mem} {q : Nat} : up (up (up (up C q 6 (nI 0)) q 5 (nI 0)) q 3 (nI 0)) q 4 (-1) = PL C q (0, -1) 0 0 := by
  funext a j
  by_cases h : a = q
  · subst h
    by_cases h6 : j = 6
    · subst h6; simp [up, upd, PL]
    · by_cases h4 : j = 4
      · subst h4; simp [up, upd, PL]
      · by_cases h5 : j = 5
        · subst h5; simp [up, upd, PL]
        · by_cases h3 : j = 3
          · subst h3; simp [up, upd, PL]
          · simp [up, upd, PL, h6, h4, h5, h3]
  · simp [up, PL, h]
def rt0 (C : Mem) : PSt := (C, (0, -1), 0, 0)
def rtR (q len : Nat) (tx : Nat → Int32) (C : Mem) : PSt := rtL q len (gF len tx) 100 (rt0 C)
set_option maxRecDepth 100000 in
set_option maxHeartbeats 4000000 in
theorem c_X2_readText {sh : Sh} {C : Mem} {q len : Nat} {tx : Nat → Int32} (hq : IsPl sh q) (hC : PlOk C q len tx) : Calls mX2_readText 5 0 0 [.inr (some (q))] sh C (some (.inl (b01c ((rtE (rtR q len tx C)).2 = (-1))))) sh (PL ((rtR q len tx C).1) q (rtE (rtR q len tx C)) ((rtR q len tx C).2.2.1) ((rtR q len tx C).2.2.2)) := by
  refine Calls.of plX2 (Nat.le_of_ble_eq_true rfl) ?_
  have h100 := hC.2.1
  show WP mX2_readText 5 0 0 0 [some (.inr (some (q))), none] [] sh (C) (some (.inl (b01c ((rtE (rtR q len tx C)).2 = (-1))))) sh (PL ((rtR q len tx C).1) q (rtE (rtR q len tx C)) ((rtR q len tx C).2.2.1) ((rtR q len tx C).2.2.2))
  refine zw_aload_n dX2_readText_0 rfl ?_
  refine zw_iconst (v := nI 0) dX2_readText_1 (by decide) ?_
  refine zw_putI (j := 6) (kd := 2) dX2_readText_2 hq.i hq.k (by decide) (by decide) fl_X2_29 rfl rfl rfl ?_
  refine zw_aload_n dX2_readText_5 rfl ?_
  refine zw_iconst (v := nI 0) dX2_readText_6 (by decide) ?_
  refine zw_putI (j := 5) (kd := 2) dX2_readText_7 hq.i hq.k (by decide) (by decide) fl_X2_32 rfl rfl rfl ?_
  refine zw_aload_n dX2_readText_10 rfl ?_
  refine zw_iconst (v := nI 0) dX2_readText_11 (by decide) ?_
  refine zw_putI (j := 3) (kd := 2) dX2_readText_12 hq.i hq.k (by decide) (by decide) fl_X2_35 rfl rfl rfl ?_
  refine zw_aload_n dX2_readText_15 rfl ?_
  refine zw_iconst (v := (-1)) dX2_readText_16 (by decide) ?_
  refine zw_putI (j := 4) (kd := 2) dX2_readText_17 hq.i hq.k (by decide) (by decide) fl_X2_21 rfl rfl rfl ?_
  refine zw_mem PL_init ?_
  refine zw_iconst (v := nI 0) dX2_readText_20 (by decide) ?_
  refine zw_istore_n dX2_readText_21 (by decide) ?_
  have J56 : ∀ (C1 : Mem) (l : LxS) (de np : Nat), PlOk C1 q len tx → l.1 ≤ 100 → de ≤ 4 → np ≤ 14 → (rtR q len tx C) = (C1, l, de, np) → WP mX2_readText 5 0 0 56 [some (.inr (some (q))), none] [] sh (PL C1 q l de np) (some (.inl (b01c ((rtE (rtR q len tx C)).2 = (-1))))) sh (PL ((rtR q len tx C).1) q (rtE (rtR q len tx C)) ((rtR q len tx C).2.2.1) ((rtR q len tx C).2.2.2)) := by
    intro C1 l de np hC1 hl hde hnp hx
    refine zw_aload_n dX2_readText_56 rfl ?_
    refine zw_getIv (j := 5) (kd := 2) (v := (nI (de))) dX2_readText_57 hq.i hq.k (by decide) (by decide) fl_X2_32 rfl PL_de ?_
    refine zw_if_le_n (tgt := 71) dX2_readText_60 (by decide) (by omega) (fun c60 => ?_) (fun c60 => ?_)
    · refine zw_aload_n dX2_readText_71 rfl ?_
      refine zw_cVi dX2_readText_72 (c_X2_hasFailed hq hC1 hl) rfl okX2_hasFailed ml_X2_41 hq.i hq.k (by decide) rfl (Nat.le_of_ble_eq_true rfl) (Nat.le_of_ble_eq_true rfl) ?_
      refine zw_if_ne_c (tgt := 82) dX2_readText_75 (by decide) (fun c75 => ?_) (fun c75 => ?_)
      · refine zw_iconst (v := nI 0) dX2_readText_82 (by decide) ?_
        exact zw_zretE dX2_readText_83 rfl (Or.inl rfl) (by rw [hx, show rtE (C1, l, de, np) = l by unfold rtE; rw [if_neg (by show ¬ 0 < de; omega)]]; rw [b01c_f (fun z => c75 z)]) rfl (by rw [hx]; unfold rtE; rw [if_neg (by show ¬ 0 < de; omega)])
      · refine zw_iconst (v := nI 1) dX2_readText_78 (by decide) ?_
        refine zw_goto (tgt := 83) dX2_readText_79 (by decide) ?_
        exact zw_zretE dX2_readText_83 rfl (Or.inr rfl) (by rw [hx, show rtE (C1, l, de, np) = l by unfold rtE; rw [if_neg (by show ¬ 0 < de; omega)]]; rw [b01c_t (Classical.not_not.mp c75)]) rfl (by rw [hx]; unfold rtE; rw [if_neg (by show ¬ 0 < de; omega)])
    · refine zw_aload_n dX2_readText_63 rfl ?_
      refine zw_aload_n dX2_readText_64 rfl ?_
      refine zw_getIv (j := 6) (kd := 2) (v := (nI ((l).1))) dX2_readText_65 hq.i hq.k (by decide) (by decide) fl_X2_29 rfl PL_po ?_
      refine zw_cVv dX2_readText_68 (c_X2_failAt hq hC1 hl _) rfl okX2_failAt ml_X2_48 hq.i hq.k (by decide) rfl (Nat.le_of_ble_eq_true rfl) (Nat.le_of_ble_eq_true rfl) ?_
      refine zw_aload_n dX2_readText_71 rfl ?_
      refine zw_cVi dX2_readText_72 (c_X2_hasFailed hq hC1 (show (lFA ((nI ((l).1))) (l)).1 ≤ 100 from hl)) rfl okX2_hasFailed ml_X2_41 hq.i hq.k (by decide) rfl (Nat.le_of_ble_eq_true rfl) (Nat.le_of_ble_eq_true rfl) ?_
      refine zw_if_ne_c (tgt := 82) dX2_readText_75 (by decide) (fun c75 => ?_) (fun c75 => ?_)
      · refine zw_iconst (v := nI 0) dX2_readText_82 (by decide) ?_
        exact zw_zretE dX2_readText_83 rfl (Or.inl rfl) (by rw [hx, show rtE (C1, l, de, np) = lFA (nI l.1) l by unfold rtE; rw [if_pos (by show 0 < de; omega)]]; rw [b01c_f (fun z => c75 z)]) rfl (by rw [hx]; unfold rtE; rw [if_pos (by show 0 < de; omega)])
      · refine zw_iconst (v := nI 1) dX2_readText_78 (by decide) ?_
        refine zw_goto (tgt := 83) dX2_readText_79 (by decide) ?_
        exact zw_zretE dX2_readText_83 rfl (Or.inr rfl) (by rw [hx, show rtE (C1, l, de, np) = lFA (nI l.1) l by unfold rtE; rw [if_pos (by show 0 < de; omega)]]; rw [b01c_t (Classical.not_not.mp c75)]) rfl (by rw [hx]; unfold rtE; rw [if_pos (by show 0 < de; omega)])
  have L22 : ∀ (n_22 k : Nat), k + n_22 = 100 → ∀ (C1 : Mem) (l : LxS) (de np : Nat), PlOk C1 q len tx → l.1 ≤ 100 → de ≤ 4 → np ≤ 14 → (rtR q len tx C) = rtL q len (gF len tx) n_22 (C1, l, de, np) → WP mX2_readText 5 0 0 22 [some (.inr (some (q))), some (.inl (nI (k)))] [] sh (PL C1 q l de np) (some (.inl (b01c ((rtE (rtR q len tx C)).2 = (-1))))) sh (PL ((rtR q len tx C).1) q (rtE (rtR q len tx C)) ((rtR q len tx C).2.2.1) ((rtR q len tx C).2.2.2)) := by
    intro n_22
    induction n_22 with
    | zero =>
      intro k hk22 C1 l de np hC1 hl hde hnp hx
      have ek22 : 100 = k := by omega
      subst ek22
      have J56 : ∀ (C1 : Mem) (l : LxS) (de np : Nat), PlOk C1 q len tx → l.1 ≤ 100 → de ≤ 4 → np ≤ 14 → (rtR q len tx C) = (C1, l, de, np) → WP mX2_readText 5 0 0 56 [some (.inr (some (q))), none] [] sh (PL C1 q l de np) (some (.inl (b01c ((rtE (rtR q len tx C)).2 = (-1))))) sh (PL ((rtR q len tx C).1) q (rtE (rtR q len tx C)) ((rtR q len tx C).2.2.1) ((rtR q len tx C).2.2.2)) := by
        intro C1 l de np hC1 hl hde hnp hx
        refine zw_aload_n dX2_readText_56 rfl ?_
        refine zw_getIv (j := 5) (kd := 2) (v := (nI (de))) dX2_readText_57 hq.i hq.k (by decide) (by decide) fl_X2_32 rfl PL_de ?_
        refine zw_if_le_n (tgt := 71) dX2_readText_60 (by decide) (by omega) (fun c60 => ?_) (fun c60 => ?_)
        · refine zw_aload_n dX2_readText_71 rfl ?_
          refine zw_cVi dX2_readText_72 (c_X2_hasFailed hq hC1 hl) rfl okX2_hasFailed ml_X2_41 hq.i hq.k (by decide) rfl (Nat.le_of_ble_eq_true rfl) (Nat.le_of_ble_eq_true rfl) ?_
          refine zw_if_ne_c (tgt := 82) dX2_readText_75 (by decide) (fun c75 => ?_) (fun c75 => ?_)
          · refine zw_iconst (v := nI 0) dX2_readText_82 (by decide) ?_
            exact zw_zretE dX2_readText_83 rfl (Or.inl rfl) (by rw [hx, show rtE (C1, l, de, np) = l by unfold rtE; rw [if_neg (by show ¬ 0 < de; omega)]]; rw [b01c_f (fun z => c75 z)]) rfl (by rw [hx]; unfold rtE; rw [if_neg (by show ¬ 0 < de; omega)])
          · refine zw_iconst (v := nI 1) dX2_readText_78 (by decide) ?_
            refine zw_goto (tgt := 83) dX2_readText_79 (by decide) ?_
            exact zw_zretE dX2_readText_83 rfl (Or.inr rfl) (by rw [hx, show rtE (C1, l, de, np) = l by unfold rtE; rw [if_neg (by show ¬ 0 < de; omega)]]; rw [b01c_t (Classical.not_not.mp c75)]) rfl (by rw [hx]; unfold rtE; rw [if_neg (by show ¬ 0 < de; omega)])
        · refine zw_aload_n dX2_readText_63 rfl ?_
          refine zw_aload_n dX2_readText_64 rfl ?_
          refine zw_getIv (j := 6) (kd := 2) (v := (nI ((l).1))) dX2_readText_65 hq.i hq.k (by decide) (by decide) fl_X2_29 rfl PL_po ?_
          refine zw_cVv dX2_readText_68 (c_X2_failAt hq hC1 hl _) rfl okX2_failAt ml_X2_48 hq.i hq.k (by decide) rfl (Nat.le_of_ble_eq_true rfl) (Nat.le_of_ble_eq_true rfl) ?_
          refine zw_aload_n dX2_readText_71 rfl ?_
          refine zw_cVi dX2_readText_72 (c_X2_hasFailed hq hC1 (show (lFA ((nI ((l).1))) (l)).1 ≤ 100 from hl)) rfl okX2_hasFailed ml_X2_41 hq.i hq.k (by decide) rfl (Nat.le_of_ble_eq_true rfl) (Nat.le_of_ble_eq_true rfl) ?_
          refine zw_if_ne_c (tgt := 82) dX2_readText_75 (by decide) (fun c75 => ?_) (fun c75 => ?_)
          · refine zw_iconst (v := nI 0) dX2_readText_82 (by decide) ?_
            exact zw_zretE dX2_readText_83 rfl (Or.inl rfl) (by rw [hx, show rtE (C1, l, de, np) = lFA (nI l.1) l by unfold rtE; rw [if_pos (by show 0 < de; omega)]]; rw [b01c_f (fun z => c75 z)]) rfl (by rw [hx]; unfold rtE; rw [if_pos (by show 0 < de; omega)])
          · refine zw_iconst (v := nI 1) dX2_readText_78 (by decide) ?_
            refine zw_goto (tgt := 83) dX2_readText_79 (by decide) ?_
            exact zw_zretE dX2_readText_83 rfl (Or.inr rfl) (by rw [hx, show rtE (C1, l, de, np) = lFA (nI l.1) l by unfold rtE; rw [if_pos (by show 0 < de; omega)]]; rw [b01c_t (Classical.not_not.mp c75)]) rfl (by rw [hx]; unfold rtE; rw [if_pos (by show 0 < de; omega)])
      refine zw_iload_n dX2_readText_22 rfl ?_
      refine zw_bipush (v := nI 100) dX2_readText_23 (by decide) ?_
      refine zw_icmp_ge_n (tgt := 56) dX2_readText_25 (by decide) (by omega) (by omega) (fun c25 => ?_) (fun c25 => by omega)
      exact WP.sub (J56 C1 l de np hC1 hl hde hnp (hx.trans rfl)) ⟨rfl, trivial⟩
    | succ n_22 ih22 =>
      intro k hk22 C1 l de np hC1 hl hde hnp hx
      have hlt22 : k < 100 := by omega
      have J56 : ∀ (C1 : Mem) (l : LxS) (de np : Nat), PlOk C1 q len tx → l.1 ≤ 100 → de ≤ 4 → np ≤ 14 → (rtR q len tx C) = (C1, l, de, np) → WP mX2_readText 5 0 0 56 [some (.inr (some (q))), none] [] sh (PL C1 q l de np) (some (.inl (b01c ((rtE (rtR q len tx C)).2 = (-1))))) sh (PL ((rtR q len tx C).1) q (rtE (rtR q len tx C)) ((rtR q len tx C).2.2.1) ((rtR q len tx C).2.2.2)) := by
        intro C1 l de np hC1 hl hde hnp hx
        refine zw_aload_n dX2_readText_56 rfl ?_
        refine zw_getIv (j := 5) (kd := 2) (v := (nI (de))) dX2_readText_57 hq.i hq.k (by decide) (by decide) fl_X2_32 rfl PL_de ?_
        refine zw_if_le_n (tgt := 71) dX2_readText_60 (by decide) (by omega) (fun c60 => ?_) (fun c60 => ?_)
        · refine zw_aload_n dX2_readText_71 rfl ?_
          refine zw_cVi dX2_readText_72 (c_X2_hasFailed hq hC1 hl) rfl okX2_hasFailed ml_X2_41 hq.i hq.k (by decide) rfl (Nat.le_of_ble_eq_true rfl) (Nat.le_of_ble_eq_true rfl) ?_
          refine zw_if_ne_c (tgt := 82) dX2_readText_75 (by decide) (fun c75 => ?_) (fun c75 => ?_)
          · refine zw_iconst (v := nI 0) dX2_readText_82 (by decide) ?_
            exact zw_zretE dX2_readText_83 rfl (Or.inl rfl) (by rw [hx, show rtE (C1, l, de, np) = l by unfold rtE; rw [if_neg (by show ¬ 0 < de; omega)]]; rw [b01c_f (fun z => c75 z)]) rfl (by rw [hx]; unfold rtE; rw [if_neg (by show ¬ 0 < de; omega)])
          · refine zw_iconst (v := nI 1) dX2_readText_78 (by decide) ?_
            refine zw_goto (tgt := 83) dX2_readText_79 (by decide) ?_
            exact zw_zretE dX2_readText_83 rfl (Or.inr rfl) (by rw [hx, show rtE (C1, l, de, np) = l by unfold rtE; rw [if_neg (by show ¬ 0 < de; omega)]]; rw [b01c_t (Classical.not_not.mp c75)]) rfl (by rw [hx]; unfold rtE; rw [if_neg (by show ¬ 0 < de; omega)])
        · refine zw_aload_n dX2_readText_63 rfl ?_
          refine zw_aload_n dX2_readText_64 rfl ?_
          refine zw_getIv (j := 6) (kd := 2) (v := (nI ((l).1))) dX2_readText_65 hq.i hq.k (by decide) (by decide) fl_X2_29 rfl PL_po ?_
          refine zw_cVv dX2_readText_68 (c_X2_failAt hq hC1 hl _) rfl okX2_failAt ml_X2_48 hq.i hq.k (by decide) rfl (Nat.le_of_ble_eq_true rfl) (Nat.le_of_ble_eq_true rfl) ?_
          refine zw_aload_n dX2_readText_71 rfl ?_
          refine zw_cVi dX2_readText_72 (c_X2_hasFailed hq hC1 (show (lFA ((nI ((l).1))) (l)).1 ≤ 100 from hl)) rfl okX2_hasFailed ml_X2_41 hq.i hq.k (by decide) rfl (Nat.le_of_ble_eq_true rfl) (Nat.le_of_ble_eq_true rfl) ?_
          refine zw_if_ne_c (tgt := 82) dX2_readText_75 (by decide) (fun c75 => ?_) (fun c75 => ?_)
          · refine zw_iconst (v := nI 0) dX2_readText_82 (by decide) ?_
            exact zw_zretE dX2_readText_83 rfl (Or.inl rfl) (by rw [hx, show rtE (C1, l, de, np) = lFA (nI l.1) l by unfold rtE; rw [if_pos (by show 0 < de; omega)]]; rw [b01c_f (fun z => c75 z)]) rfl (by rw [hx]; unfold rtE; rw [if_pos (by show 0 < de; omega)])
          · refine zw_iconst (v := nI 1) dX2_readText_78 (by decide) ?_
            refine zw_goto (tgt := 83) dX2_readText_79 (by decide) ?_
            exact zw_zretE dX2_readText_83 rfl (Or.inr rfl) (by rw [hx, show rtE (C1, l, de, np) = lFA (nI l.1) l by unfold rtE; rw [if_pos (by show 0 < de; omega)]]; rw [b01c_t (Classical.not_not.mp c75)]) rfl (by rw [hx]; unfold rtE; rw [if_pos (by show 0 < de; omega)])
      refine zw_iload_n dX2_readText_22 rfl ?_
      refine zw_bipush (v := nI 100) dX2_readText_23 (by decide) ?_
      refine zw_icmp_ge_n (tgt := 56) dX2_readText_25 (by decide) (by omega) (by omega) (fun c25 => by omega) (fun c25 => ?_)
      refine zw_aload_n dX2_readText_28 rfl ?_
      refine zw_getIv (j := 6) (kd := 2) (v := (nI ((l).1))) dX2_readText_29 hq.i hq.k (by decide) (by decide) fl_X2_29 rfl PL_po ?_
      refine zw_aload_n dX2_readText_32 rfl ?_
      refine zw_getIv (j := 1) (kd := 2) (v := (nI (len))) dX2_readText_33 hq.i hq.k (by decide) (by decide) fl_X2_38 rfl ((PL_f (by decide)).trans hC1.1) ?_
      refine zw_icmp_ge_n (tgt := 56) dX2_readText_36 (by decide) (by omega) (by omega) (fun c36 => ?_) (fun c36 => ?_)
      · exact WP.sub (J56 C1 l de np hC1 hl hde hnp (hx.trans (rtL_stop (fun z => absurd z.1 (Nat.not_lt.mpr c36))))) ⟨rfl, trivial⟩
      · refine zw_aload_n dX2_readText_39 rfl ?_
        refine zw_cVi dX2_readText_40 (c_X2_hasFailed hq hC1 hl) rfl okX2_hasFailed ml_X2_41 hq.i hq.k (by decide) rfl (Nat.le_of_ble_eq_true rfl) (Nat.le_of_ble_eq_true rfl) ?_
        refine zw_if_ne_c (tgt := 56) dX2_readText_43 (by decide) (fun c43 => ?_) (fun c43 => ?_)
        · exact WP.sub (J56 C1 l de np hC1 hl hde hnp (hx.trans (rtL_stop (fun z => c43 z.2)))) ⟨rfl, trivial⟩
        · refine zw_aload_n dX2_readText_46 rfl ?_
          refine zw_cVv dX2_readText_47 (c_X2_readPiece hq hC1 hl hde hnp) rfl okX2_readPiece ml_X2_45 hq.i hq.k (by decide) rfl (Nat.le_of_ble_eq_true rfl) (Nat.le_of_ble_eq_true rfl) ?_
          refine zw_iincn dX2_readText_50 rfl (by decide) ?_
          refine zw_goto (tgt := 22) dX2_readText_53 (by decide) ?_
          exact WP.sub (ih22 (k + 1) (by omega) _ _ _ _ (rpF_ok (t := (C1, l, de, np)) ⟨hC1, hl, hde, hnp⟩).1 (rpF_ok (t := (C1, l, de, np)) ⟨hC1, hl, hde, hnp⟩).2.1 (rpF_ok (t := (C1, l, de, np)) ⟨hC1, hl, hde, hnp⟩).2.2.1 (rpF_ok (t := (C1, l, de, np)) ⟨hC1, hl, hde, hnp⟩).2.2.2 (hx.trans (rtL_go c36 (Classical.not_not.mp c43)))) ⟨rfl, rfl, trivial⟩
  exact WP.sub (L22 (100) 0 (by omega) C (0, -1) 0 0 hC (by decide) (by decide) (by decide) rfl) ⟨rfl, rfl, trivial⟩
