theorem cS_p {s : Sh} {i : Nat} (hi : i < s.1) (hk : s.2.1 i = 4) : i < (stG s.1 (pushS s 3 0) 15).1 ∧ (stG s.1 (pushS s 3 0) 15).2.1 i = 4 ∧ (stG s.1 (pushS s 3 0) 15).1 = (pushS s 3 0).1 + 15 ∧ i < (cS1 i s).1 ∧ (cS1 i s).2.1 i = 4 ∧ i < (cS2 i s).1 ∧ (cS2 i s).2.1 i = 4 := by
  unfold cS1 cS2
  obtain ⟨g1, g2, g3, g4⟩ := stG_f (sh := pushS s 3 0) (i := s.1) rfl pushS_k 15
  clear g2 g4
  revert g1 g3
  generalize stG s.1 (pushS s 3 0) 15 = u
  intro g1 g3
  have e : u.2.1 i = 4 := (g3.2 i hi).1.trans ((pushS_kn (Nat.ne_of_lt hi)).trans hk)
  have f : i < u.1 := by omega
  exact ⟨f, e, g1, f, e, f, e⟩
theorem cH_p {s : Sh} {i : Nat} (hi : i < s.1) (hk : s.2.1 i = 4) : i < (hiG s.1 (pushS s 0 0) 5).1 ∧ (hiG s.1 (pushS s 0 0) 5).2.1 i = 4 ∧ (hiG s.1 (pushS s 0 0) 5).1 = (pushS s 0 0).1 + 81 ∧ i < (cHi i s).1 ∧ (cHi i s).2.1 i = 4 := by
  unfold cHi
  obtain ⟨g1, g2, g3, g4, g5, g6, g7⟩ := hiG_f (sh := pushS s 0 0) (i := s.1) rfl pushS_k 5
  clear g2 g3 g4 g5 g7
  revert g1 g6
  generalize hiG s.1 (pushS s 0 0) 5 = u
  intro g1 g6
  have e : u.2.1 i = 4 := (g6.2 i hi).1.trans ((pushS_kn (Nat.ne_of_lt hi)).trans hk)
  have f : i < u.1 := by omega
  exact ⟨f, e, g1.trans (by show _ = s.1 + 1 + 81; omega), f, e⟩
theorem cP_p {s : Sh} {i : Nat} (hi : i < s.1) (hk : s.2.1 i = 4) : i < (plG s.1 (pushS s 2 0) 14).1 ∧ (plG s.1 (pushS s 2 0) 14).2.1 i = 4 ∧ (plG s.1 (pushS s 2 0) 14).1 = (pushS s 2 0).1 + 17 ∧ i < (cPl i s).1 ∧ (cPl i s).2.1 i = 4 := by
  unfold cPl
  obtain ⟨g1, g2, g3, g4, g5, g6, g7⟩ := plG_f (sh := pushS s 2 0) (i := s.1) rfl pushS_k 14
  clear g2 g3 g4 g5 g7
  revert g1 g6
  generalize plG s.1 (pushS s 2 0) 14 = u
  intro g1 g6
  have e : u.2.1 i = 4 := (g6.2 i hi).1.trans ((pushS_kn (Nat.ne_of_lt hi)).trans hk)
  have f : i < u.1 := by omega
  exact ⟨f, e, g1.trans (by show _ = s.1 + 1 + 17; omega), f, e⟩
set_option maxHeartbeats 1000000 in
theorem k_X4_init {sh : Sh} {C : Mem} {i : Nat} (hi : sh.1 = i + 1) (hk : sh.2.1 i = 4) (hz : Zr C (i + 1)) : Calls mX4_init 3 133 12495 [.inr (some i)] sh C none (cSH i sh) (cSM C i) := by
  obtain ⟨n1, n2, n3, n4⟩ := cSH_n hi
  have z1 : Zr (up C (i + 1) 1 (nI 20)) (i + 17) := (hz.wk (by omega)).up (by omega)
  have z2 : Zr (up (up C (i + 1) 1 (nI 20)) (i + 17) 1 (nI 20)) (i + 33) := (z1.wk (by omega)).up (by omega)
  have z3 : Zr (hiM (up (up C (i + 1) 1 (nI 20)) (i + 17) 1 (nI 20)) (i + 33) 5) (i + 115) := hiM_z (z2.wk (by omega)) 5
  have z4 : Zr (cSM C i) (i + 133) := ((z3.wk (by omega)).up (by omega)).up (by omega)
  have h0 : i < sh.1 := by omega
  obtain ⟨a1, a2, a3, a4, a5, a6, a7⟩ := cS_p h0 hk
  obtain ⟨b1, b2, b3, -, -, b6, b7⟩ := cS_p a4 a5
  obtain ⟨c1, c2, c3, c4, c5⟩ := cH_p b6 b7
  obtain ⟨d1, d2, d3, d4, d5⟩ := cP_p c4 c5
  refine Calls.of plX4 (Nat.le_of_ble_eq_true rfl) ?_
  show WP mX4_init 3 133 12495 0 [some (.inr (some i))] [] sh C none (cSH i sh) (cSM C i)
  refine zw_aload_n dX4_init_0 rfl ?_
  refine zw_objInit dX4_init_1 ml_X4_3 (by decide) (by decide) ?_
  refine zw_aload_n dX4_init_4 rfl ?_
  refine zw_new (kd := 3) dX4_init_5 (by decide) cl_X4_9 it_X3 in_X3 (by decide) (Nat.le_of_ble_eq_true rfl) (Nat.le_of_ble_eq_true rfl) ?_
  rw [hz.push (show i + 1 ≤ sh.1 from Nat.le_of_eq hi.symm)]
  refine zw_dup dX4_init_8 ?_
  refine zw_invIN (k2 := 15) (n2 := 1732) (k3 := 117) (n3 := 10744) dX4_init_9 okX3_init nl_X4_11 (by decide) (Nat.le_of_ble_eq_true rfl) rfl rfl a3 (k_X3_init rfl pushS_k (hz.wk (Nat.le_succ_of_le (Nat.le_of_eq hi.symm)))) ?_
  refine zw_putR (i := i) (j := 0) (kd := 4) dX4_init_12 a1 a2 (by decide) (by decide) fl_X4_12 rfl rfl rfl rfl (fun _ => rfl) (fun _ => rfl) ?_
  rw [show up C sh.1 1 (nI 20) = (up C (i + 1) 1 (nI 20)) by rw [hi]]
  show WP mX4_init 3 117 10744 15 [some (.inr (some i))] [] (cS1 i sh) (up C (i + 1) 1 (nI 20)) none (cSH i sh) (cSM C i)
  refine zw_aload_n dX4_init_15 rfl ?_
  refine zw_new (kd := 3) dX4_init_16 (by decide) cl_X4_9 it_X3 in_X3 (by decide) (Nat.le_of_ble_eq_true rfl) (Nat.le_of_ble_eq_true rfl) ?_
  rw [z1.push (show i + 17 ≤ (cS1 i sh).1 from Nat.le_of_eq n1.symm)]
  refine zw_dup dX4_init_19 ?_
  refine zw_invIN (k2 := 15) (n2 := 1732) (k3 := 101) (n3 := 8993) dX4_init_20 okX3_init nl_X4_11 (by decide) (Nat.le_of_ble_eq_true rfl) rfl rfl b3 (k_X3_init rfl pushS_k (z1.wk (Nat.le_succ_of_le (Nat.le_of_eq n1.symm)))) ?_
  refine zw_putR (i := i) (j := 1) (kd := 4) dX4_init_23 b1 b2 (by decide) (by decide) fl_X4_16 rfl rfl rfl rfl (fun _ => rfl) (fun _ => rfl) ?_
  rw [show up (up C (i + 1) 1 (nI 20)) (cS1 i sh).1 1 (nI 20) = (up (up C (i + 1) 1 (nI 20)) (i + 17) 1 (nI 20)) by rw [n1]]
  show WP mX4_init 3 101 8993 26 [some (.inr (some i))] [] (cS2 i (cS1 i sh)) (up (up C (i + 1) 1 (nI 20)) (i + 17) 1 (nI 20)) none (cSH i sh) (cSM C i)
  refine zw_aload_n dX4_init_26 rfl ?_
  refine zw_new (kd := 0) dX4_init_27 (by decide) cl_X4_19 it_X0 in_X0 (by decide) (Nat.le_of_ble_eq_true rfl) (Nat.le_of_ble_eq_true rfl) ?_
  rw [z2.push (show i + 33 ≤ (cS2 i (cS1 i sh)).1 from Nat.le_of_eq n2.symm)]
  refine zw_dup dX4_init_30 ?_
  refine zw_invI (k2 := 81) (n2 := 8760) (k3 := 19) (n3 := 230) dX4_init_31 okX0_init ml_X4_21 (by decide) (Nat.le_of_ble_eq_true rfl) rfl rfl c3 (k_X0_init rfl pushS_k (z2.wk (Nat.le_succ_of_le (Nat.le_of_eq n2.symm)))) ?_
  refine zw_putR (i := i) (j := 2) (kd := 4) dX4_init_34 c1 c2 (by decide) (by decide) fl_X4_22 rfl rfl rfl rfl (fun _ => rfl) (fun _ => rfl) ?_
  rw [show hiM (up (up C (i + 1) 1 (nI 20)) (i + 17) 1 (nI 20)) (cS2 i (cS1 i sh)).1 5 = (hiM (up (up C (i + 1) 1 (nI 20)) (i + 17) 1 (nI 20)) (i + 33) 5) by rw [n2]]
  show WP mX4_init 3 19 230 37 [some (.inr (some i))] [] (cHi i (cS2 i (cS1 i sh))) (hiM (up (up C (i + 1) 1 (nI 20)) (i + 17) 1 (nI 20)) (i + 33) 5) none (cSH i sh) (cSM C i)
  refine zw_aload_n dX4_init_37 rfl ?_
  refine zw_new (kd := 2) dX4_init_38 (by decide) cl_X4_26 it_X2 in_X2 (by decide) (Nat.le_of_ble_eq_true rfl) (Nat.le_of_ble_eq_true rfl) ?_
  rw [z3.push (show i + 115 ≤ (cHi i (cS2 i (cS1 i sh))).1 from Nat.le_of_eq n3.symm)]
  refine zw_dup dX4_init_41 ?_
  refine zw_invI (k2 := 17) (n2 := 217) (k3 := 1) (n3 := 5) dX4_init_42 okX2_init ml_X4_28 (by decide) (Nat.le_of_ble_eq_true rfl) rfl rfl d3 (k_X2_init rfl pushS_k (z3.wk (Nat.le_succ_of_le (Nat.le_of_eq n3.symm)))) ?_
  refine zw_putR (i := i) (j := 3) (kd := 4) dX4_init_45 d1 d2 (by decide) (by decide) fl_X4_29 rfl rfl rfl rfl (fun _ => rfl) (fun _ => rfl) ?_
  rw [show plM (hiM (up (up C (i + 1) 1 (nI 20)) (i + 17) 1 (nI 20)) (i + 33) 5) (cHi i (cS2 i (cS1 i sh))).1 = (cSM C i) by rw [n3]; rfl]
  show WP mX4_init 3 1 5 48 [some (.inr (some i))] [] (cPl i (cHi i (cS2 i (cS1 i sh)))) (cSM C i) none (cSH i sh) (cSM C i)
  refine zw_aload_n dX4_init_48 rfl ?_
  refine zw_iconst (v := nI 5) dX4_init_49 (by decide) ?_
  refine zw_newI (len := 5) dX4_init_50 rfl (by decide) (by decide) (by decide) ?_
  rw [z4.push (show i + 133 ≤ (cPl i (cHi i (cS2 i (cS1 i sh)))).1 from Nat.le_of_eq n4.symm)]
  refine zw_putR (i := i) (j := 4) (kd := 4) dX4_init_52 (Nat.lt_succ_of_lt d4) ((pushS_kn (Nat.ne_of_lt d4)).trans d5) (by decide) (by decide) fl_X4_33 rfl rfl rfl rfl (fun _ => rfl) (fun _ => rfl) ?_
  exact zw_vretE dX4_init_55 rfl rfl rfl rfl
