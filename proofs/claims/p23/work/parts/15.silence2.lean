/-! ===== run ===== -/
def rnH (q p st : Nat) (sd am : Int32) : Nat → Nat → Mem → Nat → Mem × Nat × Int32
  | 0, _, C, m => (C, m, 0)
  | n + 1, h, C, m => if bE C q p (st * 24 + h) am = 0 then rnH q p st sd am n (h + 1) (pB C q p (st * 24 + h) sd am) (m + 1) else (C, m, bE C q p (st * 24 + h) am)
theorem rnH_go {q p st n h m : Nat} {sd am : Int32} {C : Mem} (e : bE C q p (st * 24 + h) am = 0) : rnH q p st sd am (n + 1) h C m = rnH q p st sd am n (h + 1) (pB C q p (st * 24 + h) sd am) (m + 1) := if_pos e
theorem rnH_no {q p st n h m : Nat} {sd am : Int32} {C : Mem} (e : ¬ bE C q p (st * 24 + h) am = 0) : rnH q p st sd am (n + 1) h C m = (C, m, bE C q p (st * 24 + h) am) := if_neg e
/-- the parts of a plan at t: what they hold (place, depth, side, street, first, last, amount), by their number -/
abbrev PT1 : Type := Nat × Nat × Int32 × Nat × Nat × Nat × Int32
def rnP (q p : Nat) (pt : Nat → PT1) : Nat → Nat → Mem → Nat → Mem × Nat × Int32 × Nat
  | 0, i, C, m => (C, m, 0, i)
  | n + 1, i, C, m =>
    let r := rnH q p (pt i).2.2.2.1 (pt i).2.2.1 (pt i).2.2.2.2.2.2 ((pt i).2.2.2.2.2.1 + 1 - (pt i).2.2.2.2.1) (pt i).2.2.2.2.1 C m
    if r.2.2 = 0 then rnP q p pt n (i + 1) r.1 r.2.1 else (r.1, r.2.1, r.2.2, i)
def PtOk (C : Mem) (t np : Nat) (pt : Nat → PT1) : Prop := ∀ i, i < np → C (t + i) 0 = nI (pt i).1 ∧ C (t + i) 1 = nI (pt i).2.1 ∧ C (t + i) 2 = (pt i).2.2.1 ∧ (C (t + i) 3 = nI (pt i).2.2.2.1 ∧ (pt i).2.2.2.1 < 4) ∧ (C (t + i) 4 = nI (pt i).2.2.2.2.1 ∧ (pt i).2.2.2.2.1 ≤ (pt i).2.2.2.2.2.1) ∧ (C (t + i) 5 = nI (pt i).2.2.2.2.2.1 ∧ (pt i).2.2.2.2.2.1 < 24) ∧ C (t + i) 6 = (pt i).2.2.2.2.2.2
theorem PtOk.of {C C' : Mem} {t np : Nat} {pt : Nat → PT1} (h : PtOk C t np pt) (he : ∀ i, i < np → C' (t + i) = C (t + i)) : PtOk C' t np pt := fun i hi => by
  rw [he i hi]
  exact h i hi
theorem pB_ne {C : Mem} {q p s a : Nat} {sd am : Int32} (h1 : a ≠ q + 2) (h2 : a ≠ q + 9) : pB C q p s sd am a = C a := by
  unfold pB
  rw [up_ne h2, up_ne h1]
theorem rnH_ne {q p st : Nat} {sd am : Int32} {a : Nat} (h1 : a ≠ q + 2) (h2 : a ≠ q + 9) : ∀ (n h : Nat) (C : Mem) (m : Nat), (rnH q p st sd am n h C m).1 a = C a
  | 0, _, _, _ => rfl
  | n + 1, h, C, m => by
    unfold rnH
    split
    · rw [rnH_ne h1 h2 n, pB_ne h1 h2]
    · rfl
theorem rnP_ne {q p : Nat} {pt : Nat → PT1} {a : Nat} (h1 : a ≠ q + 2) (h2 : a ≠ q + 9) : ∀ (n i : Nat) (C : Mem) (m : Nat), (rnP q p pt n i C m).1 a = C a
  | 0, _, _, _ => rfl
  | n + 1, i, C, m => by
    unfold rnP
    simp only []
    split
    · rw [rnP_ne h1 h2 n, rnH_ne h1 h2]
    · exact rnH_ne h1 h2 _ _ _ _
/-- the memory behind the reading of the text -/
def rdM (C : Mem) (pl len : Nat) (tx : Nat → Int32) : Mem := PL (rtR pl len tx C).1 pl (rtE (rtR pl len tx C)) (rtR pl len tx C).2.2.1 (rtR pl len tx C).2.2.2
set_option maxRecDepth 100000 in
set_option maxHeartbeats 1000000 in
theorem c_run_bad {sh : Sh} {C : Mem} {b P : Nat} (hb : IsSH sh b) (hw : Wf C (b + 1) P) (x : Int32) (hx : ¬ isP P x) : Calls mX4_run 6 0 0 [.inr (some (b)), .inl (x)] sh C (some (.inl (-1))) sh (C) := by
  refine Calls.of plX4 (Nat.le_of_ble_eq_true rfl) ?_
  show WP mX4_run 6 0 0 0 [some (.inr (some (b))), some (.inl (x)), none, none, none, none, none, none] [] sh (C) (some (.inl (-1))) sh (C)
  have hP12 := hw.2.1
  refine zw_aload_n dX4_run_0 rfl ?_
  refine zw_iload_n dX4_run_1 rfl ?_
  refine zw_cVi dX4_run_2 (c_X4_isPerson hb hw _) rfl okX4_isPerson ml_X4_53 hb.i hb.k (by decide) rfl (Nat.le_of_ble_eq_true rfl) (Nat.le_of_ble_eq_true rfl) ?_
  refine zw_if_ne_c (tgt := 10) dX4_run_5 (by decide) (fun c5 => absurd c5 hx) (fun c5 => ?_)
  refine zw_iconst (v := (-1)) dX4_run_8 (by decide) ?_
  exact zw_iretE dX4_run_9 rfl (rfl) rfl (rfl)
set_option maxRecDepth 100000 in
set_option maxHeartbeats 1000000 in
theorem c_run_pf {sh : Sh} {C : Mem} {b P : Nat} (hb : IsSH sh b) (hw : Wf C (b + 1) P) {p : Nat} (hp : p < P) {len : Nat} {tx : Nat → Int32} (hT : PlOk C (b + 115) len tx) (hf : ¬ (rtE (rtR (b + 115) len tx C)).2 = (-1)) : Calls mX4_run 6 0 0 [.inr (some (b)), .inl (nI (p))] sh C (some (.inl ((-1000) - (rtE (rtR (b + 115) len tx C)).2))) sh (fpM (rdM C (b + 115) len tx) (b + 133) (nI 1) (rtE (rtR (b + 115) len tx C)).2 (nI (rtR (b + 115) len tx C).2.2.1) (nI 0) (-9)) := by
  refine Calls.of plX4 (Nat.le_of_ble_eq_true rfl) ?_
  show WP mX4_run 6 0 0 0 [some (.inr (some (b))), some (.inl (nI (p))), none, none, none, none, none, none] [] sh (C) (some (.inl ((-1000) - (rtE (rtR (b + 115) len tx C)).2))) sh (fpM (rdM C (b + 115) len tx) (b + 133) (nI 1) (rtE (rtR (b + 115) len tx C)).2 (nI (rtR (b + 115) len tx C).2.2.1) (nI 0) (-9))
  have hP12 := hw.2.1
  refine zw_aload_n dX4_run_0 rfl ?_
  refine zw_iload_n dX4_run_1 rfl ?_
  refine zw_cVi dX4_run_2 (c_X4_isPerson hb hw _) rfl okX4_isPerson ml_X4_53 hb.i hb.k (by decide) rfl (Nat.le_of_ble_eq_true rfl) (Nat.le_of_ble_eq_true rfl) ?_
  refine zw_if_ne_c (tgt := 10) dX4_run_5 (by decide) (fun c5 => ?_) (fun c5 => absurd (isP_n hp) c5)
  refine zw_aload_n dX4_run_10 rfl ?_
  refine zw_getR (j := 3) (kd := 4) dX4_run_11 hb.i hb.k (by decide) (by decide) fl_X4_29 rfl hb.r3 ?_
  refine zw_cVi dX4_run_14 (c_X2_readText hb.pl hT) rfl okX2_readText ml_X4_115 hb.pl.i hb.pl.k (by decide) rfl (Nat.le_of_ble_eq_true rfl) (Nat.le_of_ble_eq_true rfl) ?_
  refine zw_if_ne_c (tgt := 43) dX4_run_17 (by decide) (fun c17 => absurd c17 hf) (fun c17 => ?_)
  refine zw_aload_n dX4_run_20 rfl ?_
  refine zw_iconst (v := nI 1) dX4_run_21 (by decide) ?_
  refine zw_aload_n dX4_run_22 rfl ?_
  refine zw_getR (j := 3) (kd := 4) dX4_run_23 hb.i hb.k (by decide) (by decide) fl_X4_29 rfl hb.r3 ?_
  refine zw_getIv (j := 4) (kd := 2) (v := ((rtE (rtR (b + 115) len tx C)).2)) dX4_run_26 hb.pl.i hb.pl.k (by decide) (by decide) fl_X4_119 rfl PL_fa ?_
  refine zw_aload_n dX4_run_29 rfl ?_
  refine zw_getR (j := 3) (kd := 4) dX4_run_30 hb.i hb.k (by decide) (by decide) fl_X4_29 rfl hb.r3 ?_
  refine zw_getIv (j := 5) (kd := 2) (v := (nI ((rtR (b + 115) len tx C).2.2.1))) dX4_run_33 hb.pl.i hb.pl.k (by decide) (by decide) fl_X4_122 rfl PL_de ?_
  refine zw_iconst (v := nI 0) dX4_run_36 (by decide) ?_
  refine zw_bipush (v := (-9)) dX4_run_37 (by decide) ?_
  refine zw_cVi dX4_run_39 (c_X4_failPlan hb _ _ _ _ _) rfl okX4_failPlan ml_X4_125 hb.i hb.k (by decide) rfl (Nat.le_of_ble_eq_true rfl) (Nat.le_of_ble_eq_true rfl) ?_
  exact zw_iretE dX4_run_42 rfl (rfl) rfl (rfl)
theorem Wf.pB {C : Mem} {q P p s : Nat} {sd am : Int32} (h : Wf C q P) : Wf (pB C q p s sd am) q P := h.of (by rw [pB_ne (by omega) (by omega)]) (pB_ne (by omega) (by omega))
/-- what the run needs of the memory while it bids -/
def RnOk (C : Mem) (b P o z np : Nat) (pt : Nat → PT1) : Prop := Wf C (b + 1) P ∧ C (b + 33) 1 = nI o ∧ C (b + 33) 2 = nI z ∧ C (b + 115) 3 = nI np ∧ PtOk C (b + 119) np pt
theorem RnOk.of {C C' : Mem} {b P o z np : Nat} {pt : Nat → PT1} (h : RnOk C b P o z np pt) (hnp : np ≤ 14) (h1 : Wf C' (b + 1) P) (he : ∀ a, b + 33 ≤ a → a < b + 133 → C' a = C a) : RnOk C' b P o z np pt :=
  ⟨h1, by rw [he _ (by omega) (by omega)]; exact h.2.1, by rw [he _ (by omega) (by omega)]; exact h.2.2.1, by rw [he _ (by omega) (by omega)]; exact h.2.2.2.1, h.2.2.2.2.of (fun i hi => he _ (by omega) (by omega))⟩
theorem RnOk.pB {C : Mem} {b P o z np p s : Nat} {pt : Nat → PT1} {sd am : Int32} (h : RnOk C b P o z np pt) (hnp : np ≤ 14) : RnOk (pB C (b + 1) p s sd am) b P o z np pt :=
  h.of hnp h.1.pB (fun a h1 h2 => pB_ne (by omega) (by omega))
theorem rnP_go {q p n i m : Nat} {pt : Nat → PT1} {C C2 : Mem} {m2 : Nat} (e : rnH q p (pt i).2.2.2.1 (pt i).2.2.1 (pt i).2.2.2.2.2.2 ((pt i).2.2.2.2.2.1 + 1 - (pt i).2.2.2.2.1) (pt i).2.2.2.2.1 C m = (C2, m2, 0)) : rnP q p pt (n + 1) i C m = rnP q p pt n (i + 1) C2 m2 := by
  conv => lhs; unfold rnP
  simp only [e, if_true]
theorem rnP_no {q p n i m : Nat} {pt : Nat → PT1} {C C2 : Mem} {m2 : Nat} {er : Int32} (he : ¬ er = 0) (e : rnH q p (pt i).2.2.2.1 (pt i).2.2.1 (pt i).2.2.2.2.2.2 ((pt i).2.2.2.2.2.1 + 1 - (pt i).2.2.2.2.1) (pt i).2.2.2.2.1 C m = (C2, m2, er)) : rnP q p pt (n + 1) i C m = (C2, m2, er, i) := by
  conv => lhs; unfold rnP
  simp only [e, if_neg he]
set_option maxRecDepth 100000 in
set_option maxHeartbeats 4000000 in
theorem w_run_54 {sh : Sh} {C1 : Mem} {b P o z p np : Nat} {pt : Nat → PT1} (hb : IsSH sh b) (hR0 : RnOk C1 b P o z np pt) (ho5 : o < 5) (hz5 : z ≤ 5) (hp : p < P) (hnp14 : np ≤ 14) : WP mX4_run 6 0 0 54 [some (.inr (some (b))), some (.inl (nI (p))), none, none, none, none, none, none] [] sh (C1) (some (.inl (if (rnP (b + 1) p pt np 0 C1 0).2.2.1 = 0 then nI (rnP (b + 1) p pt np 0 C1 0).2.1 else (-1000) - nI (pt (rnP (b + 1) p pt np 0 C1 0).2.2.2).1))) sh ((if (rnP (b + 1) p pt np 0 C1 0).2.2.1 = 0 then recM (rnP (b + 1) p pt np 0 C1 0).1 (b + 33) o z (b + 17) else fpM (cpM (rnP (b + 1) p pt np 0 C1 0).1 (b + 17) (b + 1)) (b + 133) (nI 2) (nI (pt (rnP (b + 1) p pt np 0 C1 0).2.2.2).1) (nI (pt (rnP (b + 1) p pt np 0 C1 0).2.2.2).2.1) (nI (rnP (b + 1) p pt np 0 C1 0).2.1) (rnP (b + 1) p pt np 0 C1 0).2.2.1)) := by
  have hP12 := hR0.1.2.1
  refine zw_iconst (v := nI 0) dX4_run_54 (by decide) ?_
  refine zw_istore_n dX4_run_55 (by decide) ?_
  refine zw_iconst (v := nI 0) dX4_run_56 (by decide) ?_
  refine zw_istore_n dX4_run_57 (by decide) ?_
  have L58 : ∀ (n_58 i : Nat), i + n_58 = np → ∀ (C2 : Mem) (made : Nat), RnOk C2 b P o z np pt → (rnP (b + 1) p pt np 0 C1 0) = rnP (b + 1) p pt n_58 i C2 made → WP mX4_run 6 0 0 58 [some (.inr (some (b))), some (.inl (nI (p))), some (.inl (nI (made))), some (.inl (nI (i))), none, none, none, none] [] sh (C2) (some (.inl (if (rnP (b + 1) p pt np 0 C1 0).2.2.1 = 0 then nI (rnP (b + 1) p pt np 0 C1 0).2.1 else (-1000) - nI (pt (rnP (b + 1) p pt np 0 C1 0).2.2.2).1))) sh ((if (rnP (b + 1) p pt np 0 C1 0).2.2.1 = 0 then recM (rnP (b + 1) p pt np 0 C1 0).1 (b + 33) o z (b + 17) else fpM (cpM (rnP (b + 1) p pt np 0 C1 0).1 (b + 17) (b + 1)) (b + 133) (nI 2) (nI (pt (rnP (b + 1) p pt np 0 C1 0).2.2.2).1) (nI (pt (rnP (b + 1) p pt np 0 C1 0).2.2.2).2.1) (nI (rnP (b + 1) p pt np 0 C1 0).2.1) (rnP (b + 1) p pt np 0 C1 0).2.2.1)) := by
    intro n_58
    induction n_58 with
    | zero =>
      intro i hk58 C2 made hR hx
      have ek58 : np = i := by omega
      subst ek58
      refine zw_iload_n dX4_run_58 rfl ?_
      refine zw_aload_n dX4_run_59 rfl ?_
      refine zw_getR (j := 3) (kd := 4) dX4_run_60 hb.i hb.k (by decide) (by decide) fl_X4_29 rfl hb.r3 ?_
      refine zw_getIv (j := 3) (kd := 2) (v := (nI (np))) dX4_run_63 hb.pl.i hb.pl.k (by decide) (by decide) fl_X4_132 rfl hR.2.2.2.1 ?_
      refine zw_icmp_ge_n (tgt := 197) dX4_run_66 (by decide) (by omega) (by omega) (fun c66 => ?_) (fun c66 => by omega)
      refine zw_aload_n dX4_run_197 rfl ?_
      refine zw_getR (j := 2) (kd := 4) dX4_run_198 hb.i hb.k (by decide) (by decide) fl_X4_22 rfl hb.r2 ?_
      refine zw_aload_n dX4_run_201 rfl ?_
      refine zw_getR (j := 1) (kd := 4) dX4_run_202 hb.i hb.k (by decide) (by decide) fl_X4_16 rfl hb.r1 ?_
      refine zw_cVv dX4_run_205 (c_X0_record hb.hi hb.sp hR.2.1 hR.2.2.1 ho5 hz5) rfl okX0_record ml_X4_46 hb.hi.i hb.hi.k (by decide) rfl (Nat.le_of_ble_eq_true rfl) (Nat.le_of_ble_eq_true rfl) ?_
      refine zw_iload_n dX4_run_208 rfl ?_
      exact zw_iretE dX4_run_209 rfl (by rw [show (rnP (b + 1) p pt np 0 C1 0) = (C2, made, 0, np) from hx]; simp only [if_true]) rfl (by rw [show (rnP (b + 1) p pt np 0 C1 0) = (C2, made, 0, np) from hx]; simp only [if_true])
    | succ n_58 ih58 =>
      intro i hk58 C2 made hR hx
      have hlt58 : i < np := by omega
      refine zw_iload_n dX4_run_58 rfl ?_
      refine zw_aload_n dX4_run_59 rfl ?_
      refine zw_getR (j := 3) (kd := 4) dX4_run_60 hb.i hb.k (by decide) (by decide) fl_X4_29 rfl hb.r3 ?_
      refine zw_getIv (j := 3) (kd := 2) (v := (nI (np))) dX4_run_63 hb.pl.i hb.pl.k (by decide) (by decide) fl_X4_132 rfl hR.2.2.2.1 ?_
      refine zw_icmp_ge_n (tgt := 197) dX4_run_66 (by decide) (by omega) (by omega) (fun c66 => by omega) (fun c66 => ?_)
      refine zw_aload_n dX4_run_69 rfl ?_
      refine zw_getR (j := 3) (kd := 4) dX4_run_70 hb.i hb.k (by decide) (by decide) fl_X4_29 rfl hb.r3 ?_
      refine zw_getR (j := 2) (kd := 2) dX4_run_73 hb.pl.i hb.pl.k (by decide) (by decide) fl_X4_135 rfl hb.pl.r2 ?_
      refine zw_iload_n dX4_run_76 rfl ?_
      refine zw_aaldP dX4_run_77 hb.pl.i2 hb.pl.k2 hb.pl.L2 rfl (by rw [hb.pl.n2]; exact (show i < 14 by omega)) (hb.pl.pr (show i < 14 by omega)) ?_
      refine zw_astore dX4_run_78 (by decide) ?_
      refine zw_aload dX4_run_80 rfl ?_
      have hpi := hR.2.2.2.2 i hlt58
      have hst4 := hpi.2.2.2.1.2
      have hfl := hpi.2.2.2.2.1.2
      have hl24 := hpi.2.2.2.2.2.1.2
      refine zw_getIv (j := 4) (kd := 1) (v := (nI ((pt i).2.2.2.2.1))) dX4_run_82 (hb.pl.pi (show i < 14 by omega)) (hb.pl.pk (show i < 14 by omega)) (by decide) (by decide) fl_X4_139 rfl ((hR.2.2.2.2 i hlt58).2.2.2.2.1.1) ?_
      refine zw_istore dX4_run_85 (by decide) ?_
      have L87 : ∀ (n_87 j : Nat), j + n_87 = (pt i).2.2.2.2.2.1 + 1 → ∀ (C3 : Mem) (m3 : Nat), RnOk C3 b P o z np pt → rnH (b + 1) p (pt i).2.2.2.1 (pt i).2.2.1 (pt i).2.2.2.2.2.2 ((pt i).2.2.2.2.2.1 + 1 - (pt i).2.2.2.2.1) (pt i).2.2.2.2.1 C2 made = rnH (b + 1) p (pt i).2.2.2.1 (pt i).2.2.1 (pt i).2.2.2.2.2.2 n_87 j C3 m3 → WP mX4_run 6 0 0 87 [some (.inr (some (b))), some (.inl (nI (p))), some (.inl (nI (m3))), some (.inl (nI (i))), some (.inr (some (b + 115 + 4 + (i)))), some (.inl (nI (j))), none, none] [] sh (C3) (some (.inl (if (rnP (b + 1) p pt np 0 C1 0).2.2.1 = 0 then nI (rnP (b + 1) p pt np 0 C1 0).2.1 else (-1000) - nI (pt (rnP (b + 1) p pt np 0 C1 0).2.2.2).1))) sh ((if (rnP (b + 1) p pt np 0 C1 0).2.2.1 = 0 then recM (rnP (b + 1) p pt np 0 C1 0).1 (b + 33) o z (b + 17) else fpM (cpM (rnP (b + 1) p pt np 0 C1 0).1 (b + 17) (b + 1)) (b + 133) (nI 2) (nI (pt (rnP (b + 1) p pt np 0 C1 0).2.2.2).1) (nI (pt (rnP (b + 1) p pt np 0 C1 0).2.2.2).2.1) (nI (rnP (b + 1) p pt np 0 C1 0).2.1) (rnP (b + 1) p pt np 0 C1 0).2.2.1)) := by
        intro n_87
        induction n_87 with
        | zero =>
          intro j hk87 C3 m3 hR3 hx3
          have ek87 : (pt i).2.2.2.2.2.1 + 1 = j := by omega
          subst ek87
          refine zw_iload dX4_run_87 rfl ?_
          refine zw_aload dX4_run_89 rfl ?_
          refine zw_getIv (j := 5) (kd := 1) (v := (nI ((pt i).2.2.2.2.2.1))) dX4_run_91 (hb.pl.pi (show i < 14 by omega)) (hb.pl.pk (show i < 14 by omega)) (by decide) (by decide) fl_X4_144 rfl ((hR3.2.2.2.2 i hlt58).2.2.2.2.2.1.1) ?_
          refine zw_icmp_gt_n (tgt := 191) dX4_run_94 (by decide) (by omega) (by omega) (fun c94 => ?_) (fun c94 => by omega)
          refine zw_iincn dX4_run_191 rfl (by decide) ?_
          refine zw_goto (tgt := 58) dX4_run_194 (by decide) ?_
          exact WP.sub (ih58 (i + 1) (by omega) _ _ hR3 (hx.trans (rnP_go hx3))) ⟨rfl, rfl, rfl, rfl, trivial⟩
        | succ n_87 ih87 =>
          intro j hk87 C3 m3 hR3 hx3
          have hlt87 : j < (pt i).2.2.2.2.2.1 + 1 := by omega
          refine zw_iload dX4_run_87 rfl ?_
          refine zw_aload dX4_run_89 rfl ?_
          refine zw_getIv (j := 5) (kd := 1) (v := (nI ((pt i).2.2.2.2.2.1))) dX4_run_91 (hb.pl.pi (show i < 14 by omega)) (hb.pl.pk (show i < 14 by omega)) (by decide) (by decide) fl_X4_144 rfl ((hR3.2.2.2.2 i hlt58).2.2.2.2.2.1.1) ?_
          refine zw_icmp_gt_n (tgt := 191) dX4_run_94 (by decide) (by omega) (by omega) (fun c94 => by omega) (fun c94 => ?_)
          refine zw_aload dX4_run_97 rfl ?_
          refine zw_getIv (j := 3) (kd := 1) (v := (nI ((pt i).2.2.2.1))) dX4_run_99 (hb.pl.pi (show i < 14 by omega)) (hb.pl.pk (show i < 14 by omega)) (by decide) (by decide) fl_X4_147 rfl ((hR3.2.2.2.2 i hlt58).2.2.2.1.1) ?_
          refine zw_iload dX4_run_102 rfl ?_
          refine zw_cSi dX4_run_104 (c_X4_slotAt _ _) rfl okX4_slotAt ml_X4_72 (Nat.le_of_ble_eq_true rfl) (Nat.le_of_ble_eq_true rfl) ?_
          refine zw_istore dX4_run_107 (by decide) ?_
          refine zw_aload_n dX4_run_109 rfl ?_
          refine zw_getR (j := 0) (kd := 4) dX4_run_110 hb.i hb.k (by decide) (by decide) fl_X4_12 rfl hb.r0 ?_
          refine zw_iload_n dX4_run_113 rfl ?_
          refine zw_iload dX4_run_114 rfl ?_
          refine zw_aload dX4_run_116 rfl ?_
          refine zw_getIv (j := 6) (kd := 1) (v := ((pt i).2.2.2.2.2.2)) dX4_run_118 (hb.pl.pi (show i < 14 by omega)) (hb.pl.pk (show i < 14 by omega)) (by decide) (by decide) fl_X4_150 rfl ((hR3.2.2.2.2 i hlt58).2.2.2.2.2.2) ?_
          refine zw_cVi dX4_run_121 (c_X3_bidError hb.st (by omega) (by omega) _) rfl okX3_bidError ml_X4_76 hb.st.i hb.st.k (by decide) rfl (Nat.le_of_ble_eq_true rfl) (Nat.le_of_ble_eq_true rfl) ?_
          refine zw_istore dX4_run_124 (by decide) ?_
          refine zw_iload dX4_run_126 rfl ?_
          refine zw_if_eq (tgt := 161) dX4_run_128 (by decide) (fun c128 => ?_) (fun c128 => ?_)
          · refine zw_aload_n dX4_run_161 rfl ?_
            refine zw_getR (j := 0) (kd := 4) dX4_run_162 hb.i hb.k (by decide) (by decide) fl_X4_12 rfl hb.r0 ?_
            refine zw_iload_n dX4_run_165 rfl ?_
            refine zw_iload dX4_run_166 rfl ?_
            refine zw_aload dX4_run_168 rfl ?_
            refine zw_getIv (j := 2) (kd := 1) (v := ((pt i).2.2.1)) dX4_run_170 (hb.pl.pi (show i < 14 by omega)) (hb.pl.pk (show i < 14 by omega)) (by decide) (by decide) fl_X4_157 rfl ((hR3.2.2.2.2 i hlt58).2.2.1) ?_
            refine zw_aload dX4_run_173 rfl ?_
            refine zw_getIv (j := 6) (kd := 1) (v := ((pt i).2.2.2.2.2.2)) dX4_run_175 (hb.pl.pi (show i < 14 by omega)) (hb.pl.pk (show i < 14 by omega)) (by decide) (by decide) fl_X4_150 rfl ((hR3.2.2.2.2 i hlt58).2.2.2.2.2.2) ?_
            refine zw_cVi dX4_run_178 (c_X3_placeBid hb.st (by omega) (by omega) _ _) rfl okX3_placeBid ml_X4_80 hb.st.i hb.st.k (by decide) rfl (Nat.le_of_ble_eq_true rfl) (Nat.le_of_ble_eq_true rfl) ?_
            refine zw_pop dX4_run_181 ?_
            refine zw_iincn dX4_run_182 rfl (by decide) ?_
            refine zw_iincn dX4_run_185 rfl (by decide) ?_
            refine zw_goto (tgt := 87) dX4_run_188 (by decide) ?_
            exact WP.sub (ih87 (j + 1) (by omega) _ _ (hR3.pB hnp14) (hx3.trans (rnH_go c128))) ⟨rfl, rfl, rfl, rfl, rfl, rfl, trivial⟩
          · refine zw_aload_n dX4_run_131 rfl ?_
            refine zw_getR (j := 0) (kd := 4) dX4_run_132 hb.i hb.k (by decide) (by decide) fl_X4_12 rfl hb.r0 ?_
            refine zw_aload_n dX4_run_135 rfl ?_
            refine zw_getR (j := 1) (kd := 4) dX4_run_136 hb.i hb.k (by decide) (by decide) fl_X4_16 rfl hb.r1 ?_
            refine zw_cVv dX4_run_139 (c_X3_copyFrom hb.st hb.sp) rfl okX3_copyFrom ml_X4_129 hb.st.i hb.st.k (by decide) rfl (Nat.le_of_ble_eq_true rfl) (Nat.le_of_ble_eq_true rfl) ?_
            refine zw_aload_n dX4_run_142 rfl ?_
            refine zw_iconst (v := nI 2) dX4_run_143 (by decide) ?_
            refine zw_aload dX4_run_144 rfl ?_
            refine zw_getIv (j := 0) (kd := 1) (v := (nI ((pt i).1))) dX4_run_146 (hb.pl.pi (show i < 14 by omega)) (hb.pl.pk (show i < 14 by omega)) (by decide) (by decide) fl_X4_153 rfl (by rw [cpM_ne (by omega)]; exact (hR3.2.2.2.2 i hlt58).1) ?_
            refine zw_aload dX4_run_149 rfl ?_
            refine zw_getIv (j := 1) (kd := 1) (v := (nI ((pt i).2.1))) dX4_run_151 (hb.pl.pi (show i < 14 by omega)) (hb.pl.pk (show i < 14 by omega)) (by decide) (by decide) fl_X4_156 rfl (by rw [cpM_ne (by omega)]; exact (hR3.2.2.2.2 i hlt58).2.1) ?_
            refine zw_iload_n dX4_run_154 rfl ?_
            refine zw_iload dX4_run_155 rfl ?_
            refine zw_cVi dX4_run_157 (c_X4_failPlan hb _ _ _ _ _) rfl okX4_failPlan ml_X4_125 hb.i hb.k (by decide) rfl (Nat.le_of_ble_eq_true rfl) (Nat.le_of_ble_eq_true rfl) ?_
            exact zw_iretE dX4_run_160 rfl (by rw [show (rnP (b + 1) p pt np 0 C1 0) = (C3, m3, _, i) from hx.trans (rnP_no c128 (hx3.trans (rnH_no c128)))]; simp only [if_neg c128]) rfl (by rw [show (rnP (b + 1) p pt np 0 C1 0) = (C3, m3, _, i) from hx.trans (rnP_no c128 (hx3.trans (rnH_no c128)))]; simp only [if_neg c128])
      exact WP.sub (L87 ((pt i).2.2.2.2.2.1 + 1 - (pt i).2.2.2.2.1) (pt i).2.2.2.2.1 (by omega) C2 made hR rfl) ⟨rfl, rfl, rfl, rfl, rfl, rfl, trivial⟩
  exact WP.sub (L58 (np) 0 (by omega) C1 0 hR0 rfl) ⟨rfl, rfl, rfl, rfl, trivial⟩
set_option maxRecDepth 100000 in
set_option maxHeartbeats 1000000 in
theorem c_run_go {sh : Sh} {C : Mem} {b P o z np : Nat} {pt : Nat → PT1} (hb : IsSH sh b) (hw : Wf C (b + 1) P) (ho5 : o < 5) (hz5 : z ≤ 5) {p : Nat} (hp : p < P) {len : Nat} {tx : Nat → Int32} (hT : PlOk C (b + 115) len tx) (hf : (rtE (rtR (b + 115) len tx C)).2 = (-1)) (hnp14 : np ≤ 14) (hR0 : RnOk (cpM (rdM C (b + 115) len tx) (b + 1) (b + 17)) b P o z np pt) : Calls mX4_run 6 0 0 [.inr (some (b)), .inl (nI (p))] sh C (some (.inl (if (rnP (b + 1) p pt np 0 (cpM (rdM C (b + 115) len tx) (b + 1) (b + 17)) 0).2.2.1 = 0 then nI (rnP (b + 1) p pt np 0 (cpM (rdM C (b + 115) len tx) (b + 1) (b + 17)) 0).2.1 else (-1000) - nI (pt (rnP (b + 1) p pt np 0 (cpM (rdM C (b + 115) len tx) (b + 1) (b + 17)) 0).2.2.2).1))) sh ((if (rnP (b + 1) p pt np 0 (cpM (rdM C (b + 115) len tx) (b + 1) (b + 17)) 0).2.2.1 = 0 then recM (rnP (b + 1) p pt np 0 (cpM (rdM C (b + 115) len tx) (b + 1) (b + 17)) 0).1 (b + 33) o z (b + 17) else fpM (cpM (rnP (b + 1) p pt np 0 (cpM (rdM C (b + 115) len tx) (b + 1) (b + 17)) 0).1 (b + 17) (b + 1)) (b + 133) (nI 2) (nI (pt (rnP (b + 1) p pt np 0 (cpM (rdM C (b + 115) len tx) (b + 1) (b + 17)) 0).2.2.2).1) (nI (pt (rnP (b + 1) p pt np 0 (cpM (rdM C (b + 115) len tx) (b + 1) (b + 17)) 0).2.2.2).2.1) (nI (rnP (b + 1) p pt np 0 (cpM (rdM C (b + 115) len tx) (b + 1) (b + 17)) 0).2.1) (rnP (b + 1) p pt np 0 (cpM (rdM C (b + 115) len tx) (b + 1) (b + 17)) 0).2.2.1)) := by
  refine Calls.of plX4 (Nat.le_of_ble_eq_true rfl) ?_
  show WP mX4_run 6 0 0 0 [some (.inr (some (b))), some (.inl (nI (p))), none, none, none, none, none, none] [] sh (C) (some (.inl (if (rnP (b + 1) p pt np 0 (cpM (rdM C (b + 115) len tx) (b + 1) (b + 17)) 0).2.2.1 = 0 then nI (rnP (b + 1) p pt np 0 (cpM (rdM C (b + 115) len tx) (b + 1) (b + 17)) 0).2.1 else (-1000) - nI (pt (rnP (b + 1) p pt np 0 (cpM (rdM C (b + 115) len tx) (b + 1) (b + 17)) 0).2.2.2).1))) sh ((if (rnP (b + 1) p pt np 0 (cpM (rdM C (b + 115) len tx) (b + 1) (b + 17)) 0).2.2.1 = 0 then recM (rnP (b + 1) p pt np 0 (cpM (rdM C (b + 115) len tx) (b + 1) (b + 17)) 0).1 (b + 33) o z (b + 17) else fpM (cpM (rnP (b + 1) p pt np 0 (cpM (rdM C (b + 115) len tx) (b + 1) (b + 17)) 0).1 (b + 17) (b + 1)) (b + 133) (nI 2) (nI (pt (rnP (b + 1) p pt np 0 (cpM (rdM C (b + 115) len tx) (b + 1) (b + 17)) 0).2.2.2).1) (nI (pt (rnP (b + 1) p pt np 0 (cpM (rdM C (b + 115) len tx) (b + 1) (b + 17)) 0).2.2.2).2.1) (nI (rnP (b + 1) p pt np 0 (cpM (rdM C (b + 115) len tx) (b + 1) (b + 17)) 0).2.1) (rnP (b + 1) p pt np 0 (cpM (rdM C (b + 115) len tx) (b + 1) (b + 17)) 0).2.2.1))
  have hP12 := hw.2.1
  refine zw_aload_n dX4_run_0 rfl ?_
  refine zw_iload_n dX4_run_1 rfl ?_
  refine zw_cVi dX4_run_2 (c_X4_isPerson hb hw _) rfl okX4_isPerson ml_X4_53 hb.i hb.k (by decide) rfl (Nat.le_of_ble_eq_true rfl) (Nat.le_of_ble_eq_true rfl) ?_
  refine zw_if_ne_c (tgt := 10) dX4_run_5 (by decide) (fun c5 => ?_) (fun c5 => absurd (isP_n hp) c5)
  refine zw_aload_n dX4_run_10 rfl ?_
  refine zw_getR (j := 3) (kd := 4) dX4_run_11 hb.i hb.k (by decide) (by decide) fl_X4_29 rfl hb.r3 ?_
  refine zw_cVi dX4_run_14 (c_X2_readText hb.pl hT) rfl okX2_readText ml_X4_115 hb.pl.i hb.pl.k (by decide) rfl (Nat.le_of_ble_eq_true rfl) (Nat.le_of_ble_eq_true rfl) ?_
  refine zw_if_ne_c (tgt := 43) dX4_run_17 (by decide) (fun c17 => ?_) (fun c17 => absurd hf c17)
  refine zw_aload_n dX4_run_43 rfl ?_
  refine zw_getR (j := 1) (kd := 4) dX4_run_44 hb.i hb.k (by decide) (by decide) fl_X4_16 rfl hb.r1 ?_
  refine zw_aload_n dX4_run_47 rfl ?_
  refine zw_getR (j := 0) (kd := 4) dX4_run_48 hb.i hb.k (by decide) (by decide) fl_X4_12 rfl hb.r0 ?_
  refine zw_cVv dX4_run_51 (c_X3_copyFrom hb.sp hb.st) rfl okX3_copyFrom ml_X4_129 hb.sp.i hb.sp.k (by decide) rfl (Nat.le_of_ble_eq_true rfl) (Nat.le_of_ble_eq_true rfl) ?_
  exact w_run_54 hb hR0 ho5 hz5 hp hnp14
