/-! ===== the reference: the other public methods ===== -/
def joD (D : Mem) (m P : Nat) (x : Int32) : Mem :=
  let D1 := fcO D (m + 1) (8 + 7 * P) (fun _ => nI 0) 7
  let D2 := up D1 (m + 1) (8 + 7 * P) x
  let D3 := fcO D2 (m + 1) (572 + 96 * P) (fun _ => nI 0) 96
  up D3 (m + 1) 1 (D3 (m + 1) 1 + nI 1)
set_option maxRecDepth 100000 in
set_option maxHeartbeats 4000000 in
theorem d_join_bad {sh : Sh} {D : Mem} {m P : Nat} (hm : IsMo sh m) (hw : Wm D m P) (x : Int32) (hx : ¬ (nI 0 ≤ x ∧ x ≤ nI 100000)) : Calls mX5_join 2 0 0 [.inr (some (m)), .inl (x)] sh (D) (some (.inl (-1))) sh (D) := by
  refine Calls.of plX5 (Nat.le_of_ble_eq_true rfl) ?_
  have hP12 := hw.2.1
  show WP mX5_join 2 0 0 0 [some (.inr (some (m))), some (.inl (x)), none, none] [] sh (D) (some (.inl (-1))) sh (D)
  refine zw_iload_n dX5_join_0 rfl ?_
  refine zw_iconst (v := nI 0) dX5_join_1 (by decide) ?_
  refine zw_ldc (v := nI 100000) dX5_join_2 cs_X5_57 ?_
  refine zw_cSi dX5_join_4 (c_X5_in _ _ _) rfl okX5_in ml_X5_31 (Nat.le_of_ble_eq_true rfl) (Nat.le_of_ble_eq_true rfl) ?_
  refine zw_if_ne_b (tgt := 12) dX5_join_7 (by decide) (fun c7 => absurd c7 hx) (fun c7 => ?_)
  refine zw_iconst (v := (-1)) dX5_join_10 (by decide) ?_
  exact zw_iretE dX5_join_11 rfl (rfl) rfl (rfl)
set_option maxRecDepth 100000 in
set_option maxHeartbeats 4000000 in
theorem d_join_full {sh : Sh} {D : Mem} {m P : Nat} (hm : IsMo sh m) (hw : Wm D m P) (x : Int32) (hx : (nI 0 ≤ x ∧ x ≤ nI 100000)) (hP : P = 12) : Calls mX5_join 2 0 0 [.inr (some (m)), .inl (x)] sh (D) (some (.inl (-3))) sh (D) := by
  refine Calls.of plX5 (Nat.le_of_ble_eq_true rfl) ?_
  have hP12 := hw.2.1
  show WP mX5_join 2 0 0 0 [some (.inr (some (m))), some (.inl (x)), none, none] [] sh (D) (some (.inl (-3))) sh (D)
  refine zw_iload_n dX5_join_0 rfl ?_
  refine zw_iconst (v := nI 0) dX5_join_1 (by decide) ?_
  refine zw_ldc (v := nI 100000) dX5_join_2 cs_X5_57 ?_
  refine zw_cSi dX5_join_4 (c_X5_in _ _ _) rfl okX5_in ml_X5_31 (Nat.le_of_ble_eq_true rfl) (Nat.le_of_ble_eq_true rfl) ?_
  refine zw_if_ne_b (tgt := 12) dX5_join_7 (by decide) (fun c7 => ?_) (fun c7 => absurd hx c7)
  refine zw_aload_n dX5_join_12 rfl ?_
  refine zw_getR (j := 0) (kd := 5) dX5_join_13 hm.i hm.k (by decide) (by decide) fl_X5_7 rfl hm.r0 ?_
  refine zw_iconst (v := nI 1) dX5_join_16 (by decide) ?_
  refine zw_ialdv (v := (nI (P))) dX5_join_17 hm.i0 hm.k0 hm.L0 rfl (by rw [hm.n0]; omega) hw.1 ?_
  refine zw_bipush (v := nI 12) dX5_join_18 (by decide) ?_
  refine zw_icmp_ne_n (tgt := 26) dX5_join_20 (by decide) (by omega) (by omega) (fun c20 => by omega) (fun c20 => ?_)
  refine zw_bipush (v := (-3)) dX5_join_23 (by decide) ?_
  exact zw_iretE dX5_join_25 rfl (rfl) rfl (rfl)
set_option maxRecDepth 100000 in
set_option maxHeartbeats 4000000 in
theorem d_join_ok {sh : Sh} {D : Mem} {m P : Nat} (hm : IsMo sh m) (hw : Wm D m P) {z : Nat} (hz : D m 2 = nI z) (hz5 : z ≤ 5) (x : Int32) (hx : (nI 0 ≤ x ∧ x ≤ nI 100000)) (hP : P < 12) : Calls mX5_join 2 0 0 [.inr (some (m)), .inl (x)] sh (D) (some (.inl (nI P))) sh (joD (ntM D m z) m P x) := by
  refine Calls.of plX5 (Nat.le_of_ble_eq_true rfl) ?_
  have hP12 := hw.2.1
  show WP mX5_join 2 0 0 0 [some (.inr (some (m))), some (.inl (x)), none, none] [] sh (D) (some (.inl (nI P))) sh (joD (ntM D m z) m P x)
  refine zw_iload_n dX5_join_0 rfl ?_
  refine zw_iconst (v := nI 0) dX5_join_1 (by decide) ?_
  refine zw_ldc (v := nI 100000) dX5_join_2 cs_X5_57 ?_
  refine zw_cSi dX5_join_4 (c_X5_in _ _ _) rfl okX5_in ml_X5_31 (Nat.le_of_ble_eq_true rfl) (Nat.le_of_ble_eq_true rfl) ?_
  refine zw_if_ne_b (tgt := 12) dX5_join_7 (by decide) (fun c7 => ?_) (fun c7 => absurd hx c7)
  refine zw_aload_n dX5_join_12 rfl ?_
  refine zw_getR (j := 0) (kd := 5) dX5_join_13 hm.i hm.k (by decide) (by decide) fl_X5_7 rfl hm.r0 ?_
  refine zw_iconst (v := nI 1) dX5_join_16 (by decide) ?_
  refine zw_ialdv (v := (nI (P))) dX5_join_17 hm.i0 hm.k0 hm.L0 rfl (by rw [hm.n0]; omega) hw.1 ?_
  refine zw_bipush (v := nI 12) dX5_join_18 (by decide) ?_
  refine zw_icmp_ne_n (tgt := 26) dX5_join_20 (by decide) (by omega) (by omega) (fun c20 => ?_) (fun c20 => by omega)
  refine zw_aload_n dX5_join_26 rfl ?_
  refine zw_cVv dX5_join_27 (c_X5_notes hm hz hz5) rfl okX5_notes ml_X5_58 hm.i hm.k (by decide) rfl (Nat.le_of_ble_eq_true rfl) (Nat.le_of_ble_eq_true rfl) ?_
  refine zw_aload_n dX5_join_30 rfl ?_
  refine zw_getR (j := 0) (kd := 5) dX5_join_31 hm.i hm.k (by decide) (by decide) fl_X5_7 rfl hm.r0 ?_
  refine zw_iconst (v := nI 1) dX5_join_34 (by decide) ?_
  refine zw_ialdv (v := (nI (P))) dX5_join_35 hm.i0 hm.k0 hm.L0 rfl (by rw [hm.n0]; omega) (hw.nt).1 ?_
  refine zw_istore_n dX5_join_36 (by decide) ?_
  refine zw_iconst (v := nI 0) dX5_join_37 (by decide) ?_
  refine zw_istore_n dX5_join_38 (by decide) ?_
  refine zw_mem (C2 := fcO (ntM D m z) (m + 1) (8 + 7 * P) (fun _ => nI 0) 0) fcO_0.symm ?_
  have L39 : ∀ (n_39 k : Nat), k + n_39 = 7 → WP mX5_join 2 0 0 39 [some (.inr (some (m))), some (.inl (x)), some (.inl (nI (P))), some (.inl (nI (k)))] [] sh (fcO (ntM D m z) (m + 1) (8 + 7 * P) (fun _ => nI 0) (k)) (some (.inl (nI P))) sh (joD (ntM D m z) m P x) := by
    intro n_39
    induction n_39 with
    | zero =>
      intro k hk39
      have ek39 : 7 = k := by omega
      subst ek39
      refine zw_iload_n dX5_join_39 rfl ?_
      refine zw_bipush (v := nI 7) dX5_join_40 (by decide) ?_
      refine zw_icmp_ge_n (tgt := 66) dX5_join_42 (by decide) (by omega) (by omega) (fun c42 => ?_) (fun c42 => by omega)
      refine zw_aload_n dX5_join_66 rfl ?_
      refine zw_getR (j := 0) (kd := 5) dX5_join_67 hm.i hm.k (by decide) (by decide) fl_X5_7 rfl hm.r0 ?_
      refine zw_bipush (v := nI 8) dX5_join_70 (by decide) ?_
      refine zw_bipush (v := nI 7) dX5_join_72 (by decide) ?_
      refine zw_iload_n dX5_join_74 rfl ?_
      refine zw_imuln dX5_join_75 ?_
      refine zw_iaddn dX5_join_76 ?_
      refine zw_iload_n dX5_join_77 rfl ?_
      refine zw_iast dX5_join_78 hm.i0 hm.k0 hm.L0 rfl (by rw [hm.n0]; omega) ?_
      refine zw_iconst (v := nI 0) dX5_join_79 (by decide) ?_
      refine zw_istore_n dX5_join_80 (by decide) ?_
      refine zw_mem (C2 := fcO (up (fcO (ntM D m z) (m + 1) (8 + 7 * P) (fun _ => nI 0) 7) (m + 1) (8 + 7 * P) x) (m + 1) (572 + 96 * P) (fun _ => nI 0) 0) fcO_0.symm ?_
      have L81 : ∀ (n_81 k : Nat), k + n_81 = 96 → WP mX5_join 2 0 0 81 [some (.inr (some (m))), some (.inl (x)), some (.inl (nI (P))), some (.inl (nI (k)))] [] sh (fcO (up (fcO (ntM D m z) (m + 1) (8 + 7 * P) (fun _ => nI 0) 7) (m + 1) (8 + 7 * P) x) (m + 1) (572 + 96 * P) (fun _ => nI 0) (k)) (some (.inl (nI P))) sh (joD (ntM D m z) m P x) := by
        intro n_81
        induction n_81 with
        | zero =>
          intro k hk81
          have ek81 : 96 = k := by omega
          subst ek81
          refine zw_iload_n dX5_join_81 rfl ?_
          refine zw_bipush (v := nI 96) dX5_join_82 (by decide) ?_
          refine zw_icmp_ge_n (tgt := 109) dX5_join_84 (by decide) (by omega) (by omega) (fun c84 => ?_) (fun c84 => by omega)
          refine zw_aload_n dX5_join_109 rfl ?_
          refine zw_getR (j := 0) (kd := 5) dX5_join_110 hm.i hm.k (by decide) (by decide) fl_X5_7 rfl hm.r0 ?_
          refine zw_iconst (v := nI 1) dX5_join_113 (by decide) ?_
          refine zw_dup2 dX5_join_114 ?_
          refine zw_iald dX5_join_115 hm.i0 hm.k0 hm.L0 rfl (by rw [hm.n0]; omega) ?_
          refine zw_iconst (v := nI 1) dX5_join_116 (by decide) ?_
          refine zw_iadd dX5_join_117 ?_
          refine zw_iast dX5_join_118 hm.i0 hm.k0 hm.L0 rfl (by rw [hm.n0]; omega) ?_
          refine zw_iload_n dX5_join_119 rfl ?_
          exact zw_iretE dX5_join_120 rfl (rfl) rfl (rfl)
        | succ n_81 ih81 =>
          intro k hk81
          have hlt81 : k < 96 := by omega
          refine zw_iload_n dX5_join_81 rfl ?_
          refine zw_bipush (v := nI 96) dX5_join_82 (by decide) ?_
          refine zw_icmp_ge_n (tgt := 109) dX5_join_84 (by decide) (by omega) (by omega) (fun c84 => by omega) (fun c84 => ?_)
          refine zw_aload_n dX5_join_87 rfl ?_
          refine zw_getR (j := 0) (kd := 5) dX5_join_88 hm.i hm.k (by decide) (by decide) fl_X5_7 rfl hm.r0 ?_
          refine zw_sipush (v := nI 572) dX5_join_91 (by decide) ?_
          refine zw_bipush (v := nI 96) dX5_join_94 (by decide) ?_
          refine zw_iload_n dX5_join_96 rfl ?_
          refine zw_imuln dX5_join_97 ?_
          refine zw_iaddn dX5_join_98 ?_
          refine zw_iload_n dX5_join_99 rfl ?_
          refine zw_iaddn dX5_join_100 ?_
          refine zw_iconst (v := nI 0) dX5_join_101 (by decide) ?_
          refine zw_iast dX5_join_102 hm.i0 hm.k0 hm.L0 rfl (by rw [hm.n0]; omega) ?_
          refine zw_iincn dX5_join_103 rfl (by decide) ?_
          refine zw_goto (tgt := 81) dX5_join_106 (by decide) ?_
          refine zw_mem (C2 := fcO (up (fcO (ntM D m z) (m + 1) (8 + 7 * P) (fun _ => nI 0) 7) (m + 1) (8 + 7 * P) x) (m + 1) (572 + 96 * P) (fun _ => nI 0) (k + 1)) (fcO_s rfl) ?_
          exact WP.sub (ih81 (k + 1) (by omega)) ⟨rfl, rfl, rfl, rfl, trivial⟩
      exact WP.sub (L81 (96) 0 (by omega)) ⟨rfl, rfl, rfl, rfl, trivial⟩
    | succ n_39 ih39 =>
      intro k hk39
      have hlt39 : k < 7 := by omega
      refine zw_iload_n dX5_join_39 rfl ?_
      refine zw_bipush (v := nI 7) dX5_join_40 (by decide) ?_
      refine zw_icmp_ge_n (tgt := 66) dX5_join_42 (by decide) (by omega) (by omega) (fun c42 => by omega) (fun c42 => ?_)
      refine zw_aload_n dX5_join_45 rfl ?_
      refine zw_getR (j := 0) (kd := 5) dX5_join_46 hm.i hm.k (by decide) (by decide) fl_X5_7 rfl hm.r0 ?_
      refine zw_bipush (v := nI 8) dX5_join_49 (by decide) ?_
      refine zw_bipush (v := nI 7) dX5_join_51 (by decide) ?_
      refine zw_iload_n dX5_join_53 rfl ?_
      refine zw_imuln dX5_join_54 ?_
      refine zw_iaddn dX5_join_55 ?_
      refine zw_iload_n dX5_join_56 rfl ?_
      refine zw_iaddn dX5_join_57 ?_
      refine zw_iconst (v := nI 0) dX5_join_58 (by decide) ?_
      refine zw_iast dX5_join_59 hm.i0 hm.k0 hm.L0 rfl (by rw [hm.n0]; omega) ?_
      refine zw_iincn dX5_join_60 rfl (by decide) ?_
      refine zw_goto (tgt := 39) dX5_join_63 (by decide) ?_
      refine zw_mem (C2 := fcO (ntM D m z) (m + 1) (8 + 7 * P) (fun _ => nI 0) (k + 1)) (fcO_s rfl) ?_
      exact WP.sub (ih39 (k + 1) (by omega)) ⟨rfl, rfl, rfl, rfl, trivial⟩
  exact WP.sub (L39 (7) 0 (by omega)) ⟨rfl, rfl, rfl, rfl, trivial⟩
def cpD (D : Mem) (m p : Nat) (am : Int32) : Prop := ¬ (am < 0 ∧ (frL D m p 96 < -am ∨ 0 < D (m + 1) (8 + 7 * p + 1))) ∧ D (m + 1) (8 + 7 * p + 0) + am - (if am < 0 then nI 0 else if am < D (m + 1) (8 + 7 * p + 1) then am else D (m + 1) (8 + 7 * p + 1)) ≤ nI 10000000
def paD (D : Mem) (m p : Nat) (am : Int32) : Mem := if am < 0 then adM D m p 0 am else rcD D m p am
set_option maxRecDepth 100000 in
set_option maxHeartbeats 4000000 in
theorem d_pay_bad {sh : Sh} {D : Mem} {m P : Nat} (hm : IsMo sh m) (hw : Wm D m P) (x am : Int32) (hx : ¬ (isP P x ∧ (-100000 ≤ am ∧ am ≤ nI 100000))) : Calls mX5_pay 3 0 0 [.inr (some (m)), .inl (x), .inl (am)] sh (D) (some (.inl (-1))) sh (D) := by
  refine Calls.of plX5 (Nat.le_of_ble_eq_true rfl) ?_
  have hP12 := hw.2.1
  show WP mX5_pay 3 0 0 0 [some (.inr (some (m))), some (.inl (x)), some (.inl (am)), none, none] [] sh (D) (some (.inl (-1))) sh (D)
  refine zw_aload_n dX5_pay_0 rfl ?_
  refine zw_iload_n dX5_pay_1 rfl ?_
  refine zw_cVi dX5_pay_2 (c_X5_isPerson hm hw _) rfl okX5_isPerson ml_X5_61 hm.i hm.k (by decide) rfl (Nat.le_of_ble_eq_true rfl) (Nat.le_of_ble_eq_true rfl) ?_
  refine zw_if_eq_c (tgt := 19) dX5_pay_5 (by decide) (fun c5 => ?_) (fun c5 => ?_)
  · refine zw_iconst (v := (-1)) dX5_pay_19 (by decide) ?_
    exact zw_iretE dX5_pay_20 rfl (rfl) rfl (rfl)
  · refine zw_iload_n dX5_pay_8 rfl ?_
    refine zw_ldc (v := (-100000)) dX5_pay_9 cs_X5_65 ?_
    refine zw_ldc (v := nI 100000) dX5_pay_11 cs_X5_57 ?_
    refine zw_cSi dX5_pay_13 (c_X5_in _ _ _) rfl okX5_in ml_X5_31 (Nat.le_of_ble_eq_true rfl) (Nat.le_of_ble_eq_true rfl) ?_
    refine zw_if_ne_b (tgt := 21) dX5_pay_16 (by decide) (fun c16 => absurd (And.intro c5 c16) hx) (fun c16 => ?_)
    refine zw_iconst (v := (-1)) dX5_pay_19 (by decide) ?_
    exact zw_iretE dX5_pay_20 rfl (rfl) rfl (rfl)
set_option maxRecDepth 100000 in
set_option maxHeartbeats 4000000 in
theorem d_pay_ill {sh : Sh} {D : Mem} {m P : Nat} (hm : IsMo sh m) (hw : Wm D m P) {p : Nat} (hp : p < P) (am : Int32) (hx : (-100000 ≤ am ∧ am ≤ nI 100000)) (hc : ¬ cpD D m p am) : Calls mX5_pay 3 0 0 [.inr (some (m)), .inl (nI (p)), .inl (am)] sh (D) (some (.inl (-2))) sh (D) := by
  refine Calls.of plX5 (Nat.le_of_ble_eq_true rfl) ?_
  have hP12 := hw.2.1
  show WP mX5_pay 3 0 0 0 [some (.inr (some (m))), some (.inl (nI (p))), some (.inl (am)), none, none] [] sh (D) (some (.inl (-2))) sh (D)
  refine zw_aload_n dX5_pay_0 rfl ?_
  refine zw_iload_n dX5_pay_1 rfl ?_
  refine zw_cVi dX5_pay_2 (c_X5_isPerson hm hw _) rfl okX5_isPerson ml_X5_61 hm.i hm.k (by decide) rfl (Nat.le_of_ble_eq_true rfl) (Nat.le_of_ble_eq_true rfl) ?_
  refine zw_if_eq_c (tgt := 19) dX5_pay_5 (by decide) (fun c5 => absurd (isP_n hp) c5) (fun c5 => ?_)
  refine zw_iload_n dX5_pay_8 rfl ?_
  refine zw_ldc (v := (-100000)) dX5_pay_9 cs_X5_65 ?_
  refine zw_ldc (v := nI 100000) dX5_pay_11 cs_X5_57 ?_
  refine zw_cSi dX5_pay_13 (c_X5_in _ _ _) rfl okX5_in ml_X5_31 (Nat.le_of_ble_eq_true rfl) (Nat.le_of_ble_eq_true rfl) ?_
  refine zw_if_ne_b (tgt := 21) dX5_pay_16 (by decide) (fun c16 => ?_) (fun c16 => absurd hx c16)
  refine zw_aload_n dX5_pay_21 rfl ?_
  refine zw_iload_n dX5_pay_22 rfl ?_
  refine zw_iconst (v := nI 1) dX5_pay_23 (by decide) ?_
  refine zw_cVi dX5_pay_24 (c_X5_of hm (by omega) (by omega)) rfl okX5_of ml_X5_43 hm.i hm.k (by decide) rfl (Nat.le_of_ble_eq_true rfl) (Nat.le_of_ble_eq_true rfl) ?_
  refine zw_istore_n dX5_pay_27 (by decide) ?_
  refine zw_iload_n dX5_pay_28 rfl ?_
  refine zw_if_ge (tgt := 49) dX5_pay_29 (by decide) (fun c29 => ?_) (fun c29 => ?_)
  · have first_ok : ¬ (am < 0 ∧ (frL D m p 96 < -am ∨ 0 < D (m + 1) (8 + 7 * p + 1))) := fun z => c29 z.1
    refine zw_iload_n dX5_pay_49 rfl ?_
    have J67 : ∀ (t : Int32), (if am < 0 then nI 0 else if am < D (m + 1) (8 + 7 * p + 1) then am else D (m + 1) (8 + 7 * p + 1)) = t → WP mX5_pay 3 0 0 67 [some (.inr (some (m))), some (.inl (nI (p))), some (.inl (am)), none, none] [.inl (t)] sh (D) (some (.inl (-2))) sh (D) := by
      intro t ht
      refine zw_istore dX5_pay_67 (by decide) ?_
      refine zw_aload_n dX5_pay_69 rfl ?_
      refine zw_iload_n dX5_pay_70 rfl ?_
      refine zw_iconst (v := nI 0) dX5_pay_71 (by decide) ?_
      refine zw_cVi dX5_pay_72 (c_X5_of hm (by omega) (by omega)) rfl okX5_of ml_X5_43 hm.i hm.k (by decide) rfl (Nat.le_of_ble_eq_true rfl) (Nat.le_of_ble_eq_true rfl) ?_
      refine zw_iload_n dX5_pay_75 rfl ?_
      refine zw_iadd dX5_pay_76 ?_
      refine zw_iload dX5_pay_77 rfl ?_
      refine zw_isub dX5_pay_79 ?_
      refine zw_ldc (v := nI 10000000) dX5_pay_80 cs_X5_70 ?_
      refine zw_icmp_le (tgt := 88) dX5_pay_82 (by decide) (fun c82 => absurd (show cpD D m p am from ⟨first_ok, by rw [ht]; exact Int32.not_lt.mp c82⟩) hc) (fun c82 => ?_)
      refine zw_bipush (v := (-2)) dX5_pay_85 (by decide) ?_
      exact zw_iretE dX5_pay_87 rfl (rfl) rfl (rfl)
    refine zw_if_ge (tgt := 57) dX5_pay_50 (by decide) (fun c50 => ?_) (fun c50 => ?_)
    · refine zw_iload_n dX5_pay_57 rfl ?_
      refine zw_iload_n dX5_pay_58 rfl ?_
      refine zw_icmp_ge (tgt := 66) dX5_pay_59 (by decide) (fun c59 => ?_) (fun c59 => ?_)
      · refine zw_iload_n dX5_pay_66 rfl ?_
        exact WP.sub (J67 _ (by rw [if_neg c50, if_neg c59])) ⟨rfl, rfl, rfl, trivial⟩
      · refine zw_iload_n dX5_pay_62 rfl ?_
        refine zw_goto (tgt := 67) dX5_pay_63 (by decide) ?_
        exact WP.sub (J67 _ (by rw [if_neg c50, if_pos c59])) ⟨rfl, rfl, rfl, trivial⟩
    · refine zw_iconst (v := nI 0) dX5_pay_53 (by decide) ?_
      refine zw_goto (tgt := 67) dX5_pay_54 (by decide) ?_
      exact WP.sub (J67 _ (by rw [if_pos c50])) ⟨rfl, rfl, rfl, trivial⟩
  · refine zw_iload_n dX5_pay_32 rfl ?_
    refine zw_ineg dX5_pay_33 ?_
    refine zw_aload_n dX5_pay_34 rfl ?_
    refine zw_iload_n dX5_pay_35 rfl ?_
    refine zw_cVi dX5_pay_36 (c_X5_free hm (by omega)) rfl okX5_free ml_X5_66 hm.i hm.k (by decide) rfl (Nat.le_of_ble_eq_true rfl) (Nat.le_of_ble_eq_true rfl) ?_
    refine zw_icmp_gt (tgt := 46) dX5_pay_39 (by decide) (fun c39 => ?_) (fun c39 => ?_)
    · refine zw_bipush (v := (-2)) dX5_pay_46 (by decide) ?_
      exact zw_iretE dX5_pay_48 rfl (rfl) rfl (rfl)
    · refine zw_iload_n dX5_pay_42 rfl ?_
      refine zw_if_le (tgt := 49) dX5_pay_43 (by decide) (fun c43 => ?_) (fun c43 => ?_)
      · have first_ok : ¬ (am < 0 ∧ (frL D m p 96 < -am ∨ 0 < D (m + 1) (8 + 7 * p + 1))) := fun z => z.2.elim c39 c43
        refine zw_iload_n dX5_pay_49 rfl ?_
        have J67 : ∀ (t : Int32), (if am < 0 then nI 0 else if am < D (m + 1) (8 + 7 * p + 1) then am else D (m + 1) (8 + 7 * p + 1)) = t → WP mX5_pay 3 0 0 67 [some (.inr (some (m))), some (.inl (nI (p))), some (.inl (am)), none, none] [.inl (t)] sh (D) (some (.inl (-2))) sh (D) := by
          intro t ht
          refine zw_istore dX5_pay_67 (by decide) ?_
          refine zw_aload_n dX5_pay_69 rfl ?_
          refine zw_iload_n dX5_pay_70 rfl ?_
          refine zw_iconst (v := nI 0) dX5_pay_71 (by decide) ?_
          refine zw_cVi dX5_pay_72 (c_X5_of hm (by omega) (by omega)) rfl okX5_of ml_X5_43 hm.i hm.k (by decide) rfl (Nat.le_of_ble_eq_true rfl) (Nat.le_of_ble_eq_true rfl) ?_
          refine zw_iload_n dX5_pay_75 rfl ?_
          refine zw_iadd dX5_pay_76 ?_
          refine zw_iload dX5_pay_77 rfl ?_
          refine zw_isub dX5_pay_79 ?_
          refine zw_ldc (v := nI 10000000) dX5_pay_80 cs_X5_70 ?_
          refine zw_icmp_le (tgt := 88) dX5_pay_82 (by decide) (fun c82 => absurd (show cpD D m p am from ⟨first_ok, by rw [ht]; exact Int32.not_lt.mp c82⟩) hc) (fun c82 => ?_)
          refine zw_bipush (v := (-2)) dX5_pay_85 (by decide) ?_
          exact zw_iretE dX5_pay_87 rfl (rfl) rfl (rfl)
        refine zw_if_ge (tgt := 57) dX5_pay_50 (by decide) (fun c50 => ?_) (fun c50 => ?_)
        · refine zw_iload_n dX5_pay_57 rfl ?_
          refine zw_iload_n dX5_pay_58 rfl ?_
          refine zw_icmp_ge (tgt := 66) dX5_pay_59 (by decide) (fun c59 => ?_) (fun c59 => ?_)
          · refine zw_iload_n dX5_pay_66 rfl ?_
            exact WP.sub (J67 _ (by rw [if_neg c50, if_neg c59])) ⟨rfl, rfl, rfl, trivial⟩
          · refine zw_iload_n dX5_pay_62 rfl ?_
            refine zw_goto (tgt := 67) dX5_pay_63 (by decide) ?_
            exact WP.sub (J67 _ (by rw [if_neg c50, if_pos c59])) ⟨rfl, rfl, rfl, trivial⟩
        · refine zw_iconst (v := nI 0) dX5_pay_53 (by decide) ?_
          refine zw_goto (tgt := 67) dX5_pay_54 (by decide) ?_
          exact WP.sub (J67 _ (by rw [if_pos c50])) ⟨rfl, rfl, rfl, trivial⟩
      · refine zw_bipush (v := (-2)) dX5_pay_46 (by decide) ?_
        exact zw_iretE dX5_pay_48 rfl (rfl) rfl (rfl)
set_option maxRecDepth 100000 in
set_option maxHeartbeats 4000000 in
theorem d_pay_ok {sh : Sh} {D : Mem} {m P : Nat} (hm : IsMo sh m) (hw : Wm D m P) {p : Nat} (hp : p < P) {z : Nat} (hz : D m 2 = nI z) (hz5 : z ≤ 5) (am : Int32) (hx : (-100000 ≤ am ∧ am ≤ nI 100000)) (hc : cpD D m p am) : Calls mX5_pay 3 0 0 [.inr (some (m)), .inl (nI (p)), .inl (am)] sh (D) (some (.inl (paD (ntM D m z) m p am (m + 1) (8 + 7 * p + 0)))) sh (paD (ntM D m z) m p am) := by
  refine Calls.of plX5 (Nat.le_of_ble_eq_true rfl) ?_
  have hP12 := hw.2.1
  show WP mX5_pay 3 0 0 0 [some (.inr (some (m))), some (.inl (nI (p))), some (.inl (am)), none, none] [] sh (D) (some (.inl (paD (ntM D m z) m p am (m + 1) (8 + 7 * p + 0)))) sh (paD (ntM D m z) m p am)
  refine zw_aload_n dX5_pay_0 rfl ?_
  refine zw_iload_n dX5_pay_1 rfl ?_
  refine zw_cVi dX5_pay_2 (c_X5_isPerson hm hw _) rfl okX5_isPerson ml_X5_61 hm.i hm.k (by decide) rfl (Nat.le_of_ble_eq_true rfl) (Nat.le_of_ble_eq_true rfl) ?_
  refine zw_if_eq_c (tgt := 19) dX5_pay_5 (by decide) (fun c5 => absurd (isP_n hp) c5) (fun c5 => ?_)
  refine zw_iload_n dX5_pay_8 rfl ?_
  refine zw_ldc (v := (-100000)) dX5_pay_9 cs_X5_65 ?_
  refine zw_ldc (v := nI 100000) dX5_pay_11 cs_X5_57 ?_
  refine zw_cSi dX5_pay_13 (c_X5_in _ _ _) rfl okX5_in ml_X5_31 (Nat.le_of_ble_eq_true rfl) (Nat.le_of_ble_eq_true rfl) ?_
  refine zw_if_ne_b (tgt := 21) dX5_pay_16 (by decide) (fun c16 => ?_) (fun c16 => absurd hx c16)
  refine zw_aload_n dX5_pay_21 rfl ?_
  refine zw_iload_n dX5_pay_22 rfl ?_
  refine zw_iconst (v := nI 1) dX5_pay_23 (by decide) ?_
  refine zw_cVi dX5_pay_24 (c_X5_of hm (by omega) (by omega)) rfl okX5_of ml_X5_43 hm.i hm.k (by decide) rfl (Nat.le_of_ble_eq_true rfl) (Nat.le_of_ble_eq_true rfl) ?_
  refine zw_istore_n dX5_pay_27 (by decide) ?_
  refine zw_iload_n dX5_pay_28 rfl ?_
  refine zw_if_ge (tgt := 49) dX5_pay_29 (by decide) (fun c29 => ?_) (fun c29 => ?_)
  · refine zw_iload_n dX5_pay_49 rfl ?_
    have J67 : ∀ (t : Int32), (if am < 0 then nI 0 else if am < D (m + 1) (8 + 7 * p + 1) then am else D (m + 1) (8 + 7 * p + 1)) = t → WP mX5_pay 3 0 0 67 [some (.inr (some (m))), some (.inl (nI (p))), some (.inl (am)), none, none] [.inl (t)] sh (D) (some (.inl (paD (ntM D m z) m p am (m + 1) (8 + 7 * p + 0)))) sh (paD (ntM D m z) m p am) := by
      intro t ht
      refine zw_istore dX5_pay_67 (by decide) ?_
      refine zw_aload_n dX5_pay_69 rfl ?_
      refine zw_iload_n dX5_pay_70 rfl ?_
      refine zw_iconst (v := nI 0) dX5_pay_71 (by decide) ?_
      refine zw_cVi dX5_pay_72 (c_X5_of hm (by omega) (by omega)) rfl okX5_of ml_X5_43 hm.i hm.k (by decide) rfl (Nat.le_of_ble_eq_true rfl) (Nat.le_of_ble_eq_true rfl) ?_
      refine zw_iload_n dX5_pay_75 rfl ?_
      refine zw_iadd dX5_pay_76 ?_
      refine zw_iload dX5_pay_77 rfl ?_
      refine zw_isub dX5_pay_79 ?_
      refine zw_ldc (v := nI 10000000) dX5_pay_80 cs_X5_70 ?_
      refine zw_icmp_le (tgt := 88) dX5_pay_82 (by decide) (fun c82 => ?_) (fun c82 => absurd c82 (Int32.not_lt.mpr (by have h := hc.2; rw [ht] at h; exact h)))
      refine zw_aload_n dX5_pay_88 rfl ?_
      refine zw_cVv dX5_pay_89 (c_X5_notes hm hz hz5) rfl okX5_notes ml_X5_58 hm.i hm.k (by decide) rfl (Nat.le_of_ble_eq_true rfl) (Nat.le_of_ble_eq_true rfl) ?_
      refine zw_iload_n dX5_pay_92 rfl ?_
      refine zw_if_ge (tgt := 106) dX5_pay_93 (by decide) (fun c93 => ?_) (fun c93 => ?_)
      · refine zw_aload_n dX5_pay_106 rfl ?_
        refine zw_iload_n dX5_pay_107 rfl ?_
        refine zw_iload_n dX5_pay_108 rfl ?_
        refine zw_cVv dX5_pay_109 (c_X5_receives hm (hw.nt) (by omega) _) rfl okX5_receives ml_X5_71 hm.i hm.k (by decide) rfl (Nat.le_of_ble_eq_true rfl) (Nat.le_of_ble_eq_true rfl) ?_
        refine zw_aload_n dX5_pay_112 rfl ?_
        refine zw_iload_n dX5_pay_113 rfl ?_
        refine zw_iconst (v := nI 0) dX5_pay_114 (by decide) ?_
        refine zw_cVi dX5_pay_115 (c_X5_of hm (by omega) (by omega)) rfl okX5_of ml_X5_43 hm.i hm.k (by decide) rfl (Nat.le_of_ble_eq_true rfl) (Nat.le_of_ble_eq_true rfl) ?_
        exact zw_iretE dX5_pay_118 rfl (by unfold paD; rw [if_neg c93]) rfl (by unfold paD; rw [if_neg c93])
      · refine zw_aload_n dX5_pay_96 rfl ?_
        refine zw_iload_n dX5_pay_97 rfl ?_
        refine zw_iconst (v := nI 0) dX5_pay_98 (by decide) ?_
        refine zw_iload_n dX5_pay_99 rfl ?_
        refine zw_cVv dX5_pay_100 (c_X5_adds hm (by omega) (by omega) _) rfl okX5_adds ml_X5_53 hm.i hm.k (by decide) rfl (Nat.le_of_ble_eq_true rfl) (Nat.le_of_ble_eq_true rfl) ?_
        refine zw_goto (tgt := 112) dX5_pay_103 (by decide) ?_
        refine zw_aload_n dX5_pay_112 rfl ?_
        refine zw_iload_n dX5_pay_113 rfl ?_
        refine zw_iconst (v := nI 0) dX5_pay_114 (by decide) ?_
        refine zw_cVi dX5_pay_115 (c_X5_of hm (by omega) (by omega)) rfl okX5_of ml_X5_43 hm.i hm.k (by decide) rfl (Nat.le_of_ble_eq_true rfl) (Nat.le_of_ble_eq_true rfl) ?_
        exact zw_iretE dX5_pay_118 rfl (by unfold paD; rw [if_pos c93]) rfl (by unfold paD; rw [if_pos c93])
    refine zw_if_ge (tgt := 57) dX5_pay_50 (by decide) (fun c50 => ?_) (fun c50 => ?_)
    · refine zw_iload_n dX5_pay_57 rfl ?_
      refine zw_iload_n dX5_pay_58 rfl ?_
      refine zw_icmp_ge (tgt := 66) dX5_pay_59 (by decide) (fun c59 => ?_) (fun c59 => ?_)
      · refine zw_iload_n dX5_pay_66 rfl ?_
        exact WP.sub (J67 _ (by rw [if_neg c50, if_neg c59])) ⟨rfl, rfl, rfl, trivial⟩
      · refine zw_iload_n dX5_pay_62 rfl ?_
        refine zw_goto (tgt := 67) dX5_pay_63 (by decide) ?_
        exact WP.sub (J67 _ (by rw [if_neg c50, if_pos c59])) ⟨rfl, rfl, rfl, trivial⟩
    · refine zw_iconst (v := nI 0) dX5_pay_53 (by decide) ?_
      refine zw_goto (tgt := 67) dX5_pay_54 (by decide) ?_
      exact WP.sub (J67 _ (by rw [if_pos c50])) ⟨rfl, rfl, rfl, trivial⟩
  · refine zw_iload_n dX5_pay_32 rfl ?_
    refine zw_ineg dX5_pay_33 ?_
    refine zw_aload_n dX5_pay_34 rfl ?_
    refine zw_iload_n dX5_pay_35 rfl ?_
    refine zw_cVi dX5_pay_36 (c_X5_free hm (by omega)) rfl okX5_free ml_X5_66 hm.i hm.k (by decide) rfl (Nat.le_of_ble_eq_true rfl) (Nat.le_of_ble_eq_true rfl) ?_
    refine zw_icmp_gt (tgt := 46) dX5_pay_39 (by decide) (fun c39 => absurd (And.intro c29 (Or.inl c39)) hc.1) (fun c39 => ?_)
    refine zw_iload_n dX5_pay_42 rfl ?_
    refine zw_if_le (tgt := 49) dX5_pay_43 (by decide) (fun c43 => ?_) (fun c43 => absurd (And.intro c29 (Or.inr c43)) hc.1)
    refine zw_iload_n dX5_pay_49 rfl ?_
    have J67 : ∀ (t : Int32), (if am < 0 then nI 0 else if am < D (m + 1) (8 + 7 * p + 1) then am else D (m + 1) (8 + 7 * p + 1)) = t → WP mX5_pay 3 0 0 67 [some (.inr (some (m))), some (.inl (nI (p))), some (.inl (am)), none, none] [.inl (t)] sh (D) (some (.inl (paD (ntM D m z) m p am (m + 1) (8 + 7 * p + 0)))) sh (paD (ntM D m z) m p am) := by
      intro t ht
      refine zw_istore dX5_pay_67 (by decide) ?_
      refine zw_aload_n dX5_pay_69 rfl ?_
      refine zw_iload_n dX5_pay_70 rfl ?_
      refine zw_iconst (v := nI 0) dX5_pay_71 (by decide) ?_
      refine zw_cVi dX5_pay_72 (c_X5_of hm (by omega) (by omega)) rfl okX5_of ml_X5_43 hm.i hm.k (by decide) rfl (Nat.le_of_ble_eq_true rfl) (Nat.le_of_ble_eq_true rfl) ?_
      refine zw_iload_n dX5_pay_75 rfl ?_
      refine zw_iadd dX5_pay_76 ?_
      refine zw_iload dX5_pay_77 rfl ?_
      refine zw_isub dX5_pay_79 ?_
      refine zw_ldc (v := nI 10000000) dX5_pay_80 cs_X5_70 ?_
      refine zw_icmp_le (tgt := 88) dX5_pay_82 (by decide) (fun c82 => ?_) (fun c82 => absurd c82 (Int32.not_lt.mpr (by have h := hc.2; rw [ht] at h; exact h)))
      refine zw_aload_n dX5_pay_88 rfl ?_
      refine zw_cVv dX5_pay_89 (c_X5_notes hm hz hz5) rfl okX5_notes ml_X5_58 hm.i hm.k (by decide) rfl (Nat.le_of_ble_eq_true rfl) (Nat.le_of_ble_eq_true rfl) ?_
      refine zw_iload_n dX5_pay_92 rfl ?_
      refine zw_if_ge (tgt := 106) dX5_pay_93 (by decide) (fun c93 => ?_) (fun c93 => ?_)
      · refine zw_aload_n dX5_pay_106 rfl ?_
        refine zw_iload_n dX5_pay_107 rfl ?_
        refine zw_iload_n dX5_pay_108 rfl ?_
        refine zw_cVv dX5_pay_109 (c_X5_receives hm (hw.nt) (by omega) _) rfl okX5_receives ml_X5_71 hm.i hm.k (by decide) rfl (Nat.le_of_ble_eq_true rfl) (Nat.le_of_ble_eq_true rfl) ?_
        refine zw_aload_n dX5_pay_112 rfl ?_
        refine zw_iload_n dX5_pay_113 rfl ?_
        refine zw_iconst (v := nI 0) dX5_pay_114 (by decide) ?_
        refine zw_cVi dX5_pay_115 (c_X5_of hm (by omega) (by omega)) rfl okX5_of ml_X5_43 hm.i hm.k (by decide) rfl (Nat.le_of_ble_eq_true rfl) (Nat.le_of_ble_eq_true rfl) ?_
        exact zw_iretE dX5_pay_118 rfl (by unfold paD; rw [if_neg c93]) rfl (by unfold paD; rw [if_neg c93])
      · refine zw_aload_n dX5_pay_96 rfl ?_
        refine zw_iload_n dX5_pay_97 rfl ?_
        refine zw_iconst (v := nI 0) dX5_pay_98 (by decide) ?_
        refine zw_iload_n dX5_pay_99 rfl ?_
        refine zw_cVv dX5_pay_100 (c_X5_adds hm (by omega) (by omega) _) rfl okX5_adds ml_X5_53 hm.i hm.k (by decide) rfl (Nat.le_of_ble_eq_true rfl) (Nat.le_of_ble_eq_true rfl) ?_
        refine zw_goto (tgt := 112) dX5_pay_103 (by decide) ?_
        refine zw_aload_n dX5_pay_112 rfl ?_
        refine zw_iload_n dX5_pay_113 rfl ?_
        refine zw_iconst (v := nI 0) dX5_pay_114 (by decide) ?_
        refine zw_cVi dX5_pay_115 (c_X5_of hm (by omega) (by omega)) rfl okX5_of ml_X5_43 hm.i hm.k (by decide) rfl (Nat.le_of_ble_eq_true rfl) (Nat.le_of_ble_eq_true rfl) ?_
        exact zw_iretE dX5_pay_118 rfl (by unfold paD; rw [if_pos c93]) rfl (by unfold paD; rw [if_pos c93])
    refine zw_if_ge (tgt := 57) dX5_pay_50 (by decide) (fun c50 => ?_) (fun c50 => ?_)
    · refine zw_iload_n dX5_pay_57 rfl ?_
      refine zw_iload_n dX5_pay_58 rfl ?_
      refine zw_icmp_ge (tgt := 66) dX5_pay_59 (by decide) (fun c59 => ?_) (fun c59 => ?_)
      · refine zw_iload_n dX5_pay_66 rfl ?_
        exact WP.sub (J67 _ (by rw [if_neg c50, if_neg c59])) ⟨rfl, rfl, rfl, trivial⟩
      · refine zw_iload_n dX5_pay_62 rfl ?_
        refine zw_goto (tgt := 67) dX5_pay_63 (by decide) ?_
        exact WP.sub (J67 _ (by rw [if_neg c50, if_pos c59])) ⟨rfl, rfl, rfl, trivial⟩
    · refine zw_iconst (v := nI 0) dX5_pay_53 (by decide) ?_
      refine zw_goto (tgt := 67) dX5_pay_54 (by decide) ?_
      exact WP.sub (J67 _ (by rw [if_pos c50])) ⟨rfl, rfl, rfl, trivial⟩
def blF (D : Mem) (m p s : Nat) (am : Int32) : Int32 := frL D m p 96 + aF (dm D m p s) (nI 0) + aF (dm D m p s) (nI 1) - am
def bdOk (D : Mem) (m p s : Nat) (am : Int32) : Prop := ¬ 0 < D (m + 1) (8 + 7 * p + 1) ∧ ¬ blF D m p s am < 0
def bdM (D : Mem) (m p s : Nat) (sd am : Int32) : Mem := up D (m + 1) (572 + 96 * p + s) (if am = 0 then nI 0 else am + nI 1000 * sd)
set_option maxRecDepth 100000 in
set_option maxHeartbeats 4000000 in
theorem d_bids_bad {sh : Sh} {D : Mem} {m P : Nat} (hm : IsMo sh m) (hw : Wm D m P) (x a h sd am : Int32) (hx : ¬ (isP P x ∧ inS a h ∧ (nI 0 ≤ sd ∧ sd ≤ nI 1) ∧ (nI 0 ≤ am ∧ am ≤ nI 999))) : Calls mX5_bids 3 0 0 [.inr (some (m)), .inl (x), .inl (a), .inl (h), .inl (sd), .inl (am)] sh (D) (some (.inl (-1))) sh (D) := by
  refine Calls.of plX5 (Nat.le_of_ble_eq_true rfl) ?_
  have hP12 := hw.2.1
  show WP mX5_bids 3 0 0 0 [some (.inr (some (m))), some (.inl (x)), some (.inl (a)), some (.inl (h)), some (.inl (sd)), some (.inl (am)), none, none] [] sh (D) (some (.inl (-1))) sh (D)
  refine zw_aload_n dX5_bids_0 rfl ?_
  refine zw_iload_n dX5_bids_1 rfl ?_
  refine zw_cVi dX5_bids_2 (c_X5_isPerson hm hw _) rfl okX5_isPerson ml_X5_61 hm.i hm.k (by decide) rfl (Nat.le_of_ble_eq_true rfl) (Nat.le_of_ble_eq_true rfl) ?_
  refine zw_if_eq_c (tgt := 38) dX5_bids_5 (by decide) (fun c5 => ?_) (fun c5 => ?_)
  · refine zw_iconst (v := (-1)) dX5_bids_38 (by decide) ?_
    exact zw_iretE dX5_bids_39 rfl (rfl) rfl (rfl)
  · refine zw_iload_n dX5_bids_8 rfl ?_
    refine zw_iload_n dX5_bids_9 rfl ?_
    refine zw_cSi dX5_bids_10 (c_X5_isSlot _ _) rfl okX5_isSlot ml_X5_75 (Nat.le_of_ble_eq_true rfl) (Nat.le_of_ble_eq_true rfl) ?_
    refine zw_if_eq_c (tgt := 38) dX5_bids_13 (by decide) (fun c13 => ?_) (fun c13 => ?_)
    · refine zw_iconst (v := (-1)) dX5_bids_38 (by decide) ?_
      exact zw_iretE dX5_bids_39 rfl (rfl) rfl (rfl)
    · refine zw_iload dX5_bids_16 rfl ?_
      refine zw_iconst (v := nI 0) dX5_bids_18 (by decide) ?_
      refine zw_iconst (v := nI 1) dX5_bids_19 (by decide) ?_
      refine zw_cSi dX5_bids_20 (c_X5_in _ _ _) rfl okX5_in ml_X5_31 (Nat.le_of_ble_eq_true rfl) (Nat.le_of_ble_eq_true rfl) ?_
      refine zw_if_eq_b (tgt := 38) dX5_bids_23 (by decide) (fun c23 => ?_) (fun c23 => ?_)
      · refine zw_iconst (v := (-1)) dX5_bids_38 (by decide) ?_
        exact zw_iretE dX5_bids_39 rfl (rfl) rfl (rfl)
      · refine zw_iload dX5_bids_26 rfl ?_
        refine zw_iconst (v := nI 0) dX5_bids_28 (by decide) ?_
        refine zw_sipush (v := nI 999) dX5_bids_29 (by decide) ?_
        refine zw_cSi dX5_bids_32 (c_X5_in _ _ _) rfl okX5_in ml_X5_31 (Nat.le_of_ble_eq_true rfl) (Nat.le_of_ble_eq_true rfl) ?_
        refine zw_if_ne_b (tgt := 40) dX5_bids_35 (by decide) (fun c35 => absurd (And.intro c5 (And.intro c13 (And.intro c23 c35))) hx) (fun c35 => ?_)
        refine zw_iconst (v := (-1)) dX5_bids_38 (by decide) ?_
        exact zw_iretE dX5_bids_39 rfl (rfl) rfl (rfl)
set_option maxRecDepth 100000 in
set_option maxHeartbeats 4000000 in
theorem d_bids_am {sh : Sh} {D : Mem} {m P : Nat} (hm : IsMo sh m) (hw : Wm D m P) {p : Nat} (hp : p < P) {st h : Nat} (hst : st < 4) (hh : h < 24) (sd am : Int32) (hsd : (nI 0 ≤ sd ∧ sd ≤ nI 1)) (ha : ¬ (nI 0 ≤ am ∧ am ≤ nI 999)) : Calls mX5_bids 3 0 0 [.inr (some (m)), .inl (nI (p)), .inl (nI (st)), .inl (nI (h)), .inl (sd), .inl (am)] sh (D) (some (.inl (-1))) sh (D) := by
  refine Calls.of plX5 (Nat.le_of_ble_eq_true rfl) ?_
  have hP12 := hw.2.1
  show WP mX5_bids 3 0 0 0 [some (.inr (some (m))), some (.inl (nI (p))), some (.inl (nI (st))), some (.inl (nI (h))), some (.inl (sd)), some (.inl (am)), none, none] [] sh (D) (some (.inl (-1))) sh (D)
  refine zw_aload_n dX5_bids_0 rfl ?_
  refine zw_iload_n dX5_bids_1 rfl ?_
  refine zw_cVi dX5_bids_2 (c_X5_isPerson hm hw _) rfl okX5_isPerson ml_X5_61 hm.i hm.k (by decide) rfl (Nat.le_of_ble_eq_true rfl) (Nat.le_of_ble_eq_true rfl) ?_
  refine zw_if_eq_c (tgt := 38) dX5_bids_5 (by decide) (fun c5 => absurd (isP_n hp) c5) (fun c5 => ?_)
  refine zw_iload_n dX5_bids_8 rfl ?_
  refine zw_iload_n dX5_bids_9 rfl ?_
  refine zw_cSi dX5_bids_10 (c_X5_isSlot _ _) rfl okX5_isSlot ml_X5_75 (Nat.le_of_ble_eq_true rfl) (Nat.le_of_ble_eq_true rfl) ?_
  refine zw_if_eq_c (tgt := 38) dX5_bids_13 (by decide) (fun c13 => absurd (inS_n hst hh) c13) (fun c13 => ?_)
  refine zw_iload dX5_bids_16 rfl ?_
  refine zw_iconst (v := nI 0) dX5_bids_18 (by decide) ?_
  refine zw_iconst (v := nI 1) dX5_bids_19 (by decide) ?_
  refine zw_cSi dX5_bids_20 (c_X5_in _ _ _) rfl okX5_in ml_X5_31 (Nat.le_of_ble_eq_true rfl) (Nat.le_of_ble_eq_true rfl) ?_
  refine zw_if_eq_b (tgt := 38) dX5_bids_23 (by decide) (fun c23 => absurd hsd c23) (fun c23 => ?_)
  refine zw_iload dX5_bids_26 rfl ?_
  refine zw_iconst (v := nI 0) dX5_bids_28 (by decide) ?_
  refine zw_sipush (v := nI 999) dX5_bids_29 (by decide) ?_
  refine zw_cSi dX5_bids_32 (c_X5_in _ _ _) rfl okX5_in ml_X5_31 (Nat.le_of_ble_eq_true rfl) (Nat.le_of_ble_eq_true rfl) ?_
  refine zw_if_ne_b (tgt := 40) dX5_bids_35 (by decide) (fun c35 => absurd c35 ha) (fun c35 => ?_)
  refine zw_iconst (v := (-1)) dX5_bids_38 (by decide) ?_
  exact zw_iretE dX5_bids_39 rfl (rfl) rfl (rfl)
set_option maxRecDepth 100000 in
set_option maxHeartbeats 4000000 in
theorem d_bids_ill {sh : Sh} {D : Mem} {m P : Nat} (hm : IsMo sh m) (hw : Wm D m P) {p : Nat} (hp : p < P) {st h : Nat} (hst : st < 4) (hh : h < 24) (sd am : Int32) (hsd : (nI 0 ≤ sd ∧ sd ≤ nI 1)) (ha : (nI 0 ≤ am ∧ am ≤ nI 999)) (hc : ¬ bdOk D m p (24 * st + h) am) : Calls mX5_bids 3 0 0 [.inr (some (m)), .inl (nI (p)), .inl (nI (st)), .inl (nI (h)), .inl (sd), .inl (am)] sh (D) (some (.inl (-2))) sh (D) := by
  refine Calls.of plX5 (Nat.le_of_ble_eq_true rfl) ?_
  have hP12 := hw.2.1
  show WP mX5_bids 3 0 0 0 [some (.inr (some (m))), some (.inl (nI (p))), some (.inl (nI (st))), some (.inl (nI (h))), some (.inl (sd)), some (.inl (am)), none, none] [] sh (D) (some (.inl (-2))) sh (D)
  refine zw_aload_n dX5_bids_0 rfl ?_
  refine zw_iload_n dX5_bids_1 rfl ?_
  refine zw_cVi dX5_bids_2 (c_X5_isPerson hm hw _) rfl okX5_isPerson ml_X5_61 hm.i hm.k (by decide) rfl (Nat.le_of_ble_eq_true rfl) (Nat.le_of_ble_eq_true rfl) ?_
  refine zw_if_eq_c (tgt := 38) dX5_bids_5 (by decide) (fun c5 => absurd (isP_n hp) c5) (fun c5 => ?_)
  refine zw_iload_n dX5_bids_8 rfl ?_
  refine zw_iload_n dX5_bids_9 rfl ?_
  refine zw_cSi dX5_bids_10 (c_X5_isSlot _ _) rfl okX5_isSlot ml_X5_75 (Nat.le_of_ble_eq_true rfl) (Nat.le_of_ble_eq_true rfl) ?_
  refine zw_if_eq_c (tgt := 38) dX5_bids_13 (by decide) (fun c13 => absurd (inS_n hst hh) c13) (fun c13 => ?_)
  refine zw_iload dX5_bids_16 rfl ?_
  refine zw_iconst (v := nI 0) dX5_bids_18 (by decide) ?_
  refine zw_iconst (v := nI 1) dX5_bids_19 (by decide) ?_
  refine zw_cSi dX5_bids_20 (c_X5_in _ _ _) rfl okX5_in ml_X5_31 (Nat.le_of_ble_eq_true rfl) (Nat.le_of_ble_eq_true rfl) ?_
  refine zw_if_eq_b (tgt := 38) dX5_bids_23 (by decide) (fun c23 => absurd hsd c23) (fun c23 => ?_)
  refine zw_iload dX5_bids_26 rfl ?_
  refine zw_iconst (v := nI 0) dX5_bids_28 (by decide) ?_
  refine zw_sipush (v := nI 999) dX5_bids_29 (by decide) ?_
  refine zw_cSi dX5_bids_32 (c_X5_in _ _ _) rfl okX5_in ml_X5_31 (Nat.le_of_ble_eq_true rfl) (Nat.le_of_ble_eq_true rfl) ?_
  refine zw_if_ne_b (tgt := 40) dX5_bids_35 (by decide) (fun c35 => ?_) (fun c35 => absurd ha c35)
  refine zw_bipush (v := nI 24) dX5_bids_40 (by decide) ?_
  refine zw_iload_n dX5_bids_42 rfl ?_
  refine zw_imuln dX5_bids_43 ?_
  refine zw_iload_n dX5_bids_44 rfl ?_
  refine zw_iaddn dX5_bids_45 ?_
  refine zw_istore dX5_bids_46 (by decide) ?_
  refine zw_aload_n dX5_bids_48 rfl ?_
  refine zw_iload_n dX5_bids_49 rfl ?_
  refine zw_cVi dX5_bids_50 (c_X5_free hm (by omega)) rfl okX5_free ml_X5_66 hm.i hm.k (by decide) rfl (Nat.le_of_ble_eq_true rfl) (Nat.le_of_ble_eq_true rfl) ?_
  refine zw_aload_n dX5_bids_53 rfl ?_
  refine zw_iload_n dX5_bids_54 rfl ?_
  refine zw_iload dX5_bids_55 rfl ?_
  refine zw_iconst (v := nI 0) dX5_bids_57 (by decide) ?_
  refine zw_cVi dX5_bids_58 (c_X5_amount hm (by omega) (by omega) _) rfl okX5_amount ml_X5_39 hm.i hm.k (by decide) rfl (Nat.le_of_ble_eq_true rfl) (Nat.le_of_ble_eq_true rfl) ?_
  refine zw_iadd dX5_bids_61 ?_
  refine zw_aload_n dX5_bids_62 rfl ?_
  refine zw_iload_n dX5_bids_63 rfl ?_
  refine zw_iload dX5_bids_64 rfl ?_
  refine zw_iconst (v := nI 1) dX5_bids_66 (by decide) ?_
  refine zw_cVi dX5_bids_67 (c_X5_amount hm (by omega) (by omega) _) rfl okX5_amount ml_X5_39 hm.i hm.k (by decide) rfl (Nat.le_of_ble_eq_true rfl) (Nat.le_of_ble_eq_true rfl) ?_
  refine zw_iadd dX5_bids_70 ?_
  refine zw_iload dX5_bids_71 rfl ?_
  refine zw_isub dX5_bids_73 ?_
  refine zw_istore dX5_bids_74 (by decide) ?_
  refine zw_aload_n dX5_bids_76 rfl ?_
  refine zw_iload_n dX5_bids_77 rfl ?_
  refine zw_iconst (v := nI 1) dX5_bids_78 (by decide) ?_
  refine zw_cVi dX5_bids_79 (c_X5_of hm (by omega) (by omega)) rfl okX5_of ml_X5_43 hm.i hm.k (by decide) rfl (Nat.le_of_ble_eq_true rfl) (Nat.le_of_ble_eq_true rfl) ?_
  refine zw_if_gt (tgt := 90) dX5_bids_82 (by decide) (fun c82 => ?_) (fun c82 => ?_)
  · refine zw_bipush (v := (-2)) dX5_bids_90 (by decide) ?_
    exact zw_iretE dX5_bids_92 rfl (rfl) rfl (rfl)
  · refine zw_iload dX5_bids_85 rfl ?_
    refine zw_if_ge (tgt := 93) dX5_bids_87 (by decide) (fun c87 => absurd (show bdOk D m p (24 * st + h) am from And.intro c82 c87) hc) (fun c87 => ?_)
    refine zw_bipush (v := (-2)) dX5_bids_90 (by decide) ?_
    exact zw_iretE dX5_bids_92 rfl (rfl) rfl (rfl)
set_option maxRecDepth 100000 in
set_option maxHeartbeats 4000000 in
theorem d_bids_ok {sh : Sh} {D : Mem} {m P : Nat} (hm : IsMo sh m) (hw : Wm D m P) {p : Nat} (hp : p < P) {st h : Nat} (hst : st < 4) (hh : h < 24) (sd am : Int32) (hsd : (nI 0 ≤ sd ∧ sd ≤ nI 1)) (ha : (nI 0 ≤ am ∧ am ≤ nI 999)) (hc : bdOk D m p (24 * st + h) am) : Calls mX5_bids 3 0 0 [.inr (some (m)), .inl (nI (p)), .inl (nI (st)), .inl (nI (h)), .inl (sd), .inl (am)] sh (D) (some (.inl (blF D m p (24 * st + h) am))) sh (bdM D m p (24 * st + h) sd am) := by
  refine Calls.of plX5 (Nat.le_of_ble_eq_true rfl) ?_
  have hP12 := hw.2.1
  show WP mX5_bids 3 0 0 0 [some (.inr (some (m))), some (.inl (nI (p))), some (.inl (nI (st))), some (.inl (nI (h))), some (.inl (sd)), some (.inl (am)), none, none] [] sh (D) (some (.inl (blF D m p (24 * st + h) am))) sh (bdM D m p (24 * st + h) sd am)
  refine zw_aload_n dX5_bids_0 rfl ?_
  refine zw_iload_n dX5_bids_1 rfl ?_
  refine zw_cVi dX5_bids_2 (c_X5_isPerson hm hw _) rfl okX5_isPerson ml_X5_61 hm.i hm.k (by decide) rfl (Nat.le_of_ble_eq_true rfl) (Nat.le_of_ble_eq_true rfl) ?_
  refine zw_if_eq_c (tgt := 38) dX5_bids_5 (by decide) (fun c5 => absurd (isP_n hp) c5) (fun c5 => ?_)
  refine zw_iload_n dX5_bids_8 rfl ?_
  refine zw_iload_n dX5_bids_9 rfl ?_
  refine zw_cSi dX5_bids_10 (c_X5_isSlot _ _) rfl okX5_isSlot ml_X5_75 (Nat.le_of_ble_eq_true rfl) (Nat.le_of_ble_eq_true rfl) ?_
  refine zw_if_eq_c (tgt := 38) dX5_bids_13 (by decide) (fun c13 => absurd (inS_n hst hh) c13) (fun c13 => ?_)
  refine zw_iload dX5_bids_16 rfl ?_
  refine zw_iconst (v := nI 0) dX5_bids_18 (by decide) ?_
  refine zw_iconst (v := nI 1) dX5_bids_19 (by decide) ?_
  refine zw_cSi dX5_bids_20 (c_X5_in _ _ _) rfl okX5_in ml_X5_31 (Nat.le_of_ble_eq_true rfl) (Nat.le_of_ble_eq_true rfl) ?_
  refine zw_if_eq_b (tgt := 38) dX5_bids_23 (by decide) (fun c23 => absurd hsd c23) (fun c23 => ?_)
  refine zw_iload dX5_bids_26 rfl ?_
  refine zw_iconst (v := nI 0) dX5_bids_28 (by decide) ?_
  refine zw_sipush (v := nI 999) dX5_bids_29 (by decide) ?_
  refine zw_cSi dX5_bids_32 (c_X5_in _ _ _) rfl okX5_in ml_X5_31 (Nat.le_of_ble_eq_true rfl) (Nat.le_of_ble_eq_true rfl) ?_
  refine zw_if_ne_b (tgt := 40) dX5_bids_35 (by decide) (fun c35 => ?_) (fun c35 => absurd ha c35)
  refine zw_bipush (v := nI 24) dX5_bids_40 (by decide) ?_
  refine zw_iload_n dX5_bids_42 rfl ?_
  refine zw_imuln dX5_bids_43 ?_
  refine zw_iload_n dX5_bids_44 rfl ?_
  refine zw_iaddn dX5_bids_45 ?_
  refine zw_istore dX5_bids_46 (by decide) ?_
  refine zw_aload_n dX5_bids_48 rfl ?_
  refine zw_iload_n dX5_bids_49 rfl ?_
  refine zw_cVi dX5_bids_50 (c_X5_free hm (by omega)) rfl okX5_free ml_X5_66 hm.i hm.k (by decide) rfl (Nat.le_of_ble_eq_true rfl) (Nat.le_of_ble_eq_true rfl) ?_
  refine zw_aload_n dX5_bids_53 rfl ?_
  refine zw_iload_n dX5_bids_54 rfl ?_
  refine zw_iload dX5_bids_55 rfl ?_
  refine zw_iconst (v := nI 0) dX5_bids_57 (by decide) ?_
  refine zw_cVi dX5_bids_58 (c_X5_amount hm (by omega) (by omega) _) rfl okX5_amount ml_X5_39 hm.i hm.k (by decide) rfl (Nat.le_of_ble_eq_true rfl) (Nat.le_of_ble_eq_true rfl) ?_
  refine zw_iadd dX5_bids_61 ?_
  refine zw_aload_n dX5_bids_62 rfl ?_
  refine zw_iload_n dX5_bids_63 rfl ?_
  refine zw_iload dX5_bids_64 rfl ?_
  refine zw_iconst (v := nI 1) dX5_bids_66 (by decide) ?_
  refine zw_cVi dX5_bids_67 (c_X5_amount hm (by omega) (by omega) _) rfl okX5_amount ml_X5_39 hm.i hm.k (by decide) rfl (Nat.le_of_ble_eq_true rfl) (Nat.le_of_ble_eq_true rfl) ?_
  refine zw_iadd dX5_bids_70 ?_
  refine zw_iload dX5_bids_71 rfl ?_
  refine zw_isub dX5_bids_73 ?_
  refine zw_istore dX5_bids_74 (by decide) ?_
  refine zw_aload_n dX5_bids_76 rfl ?_
  refine zw_iload_n dX5_bids_77 rfl ?_
  refine zw_iconst (v := nI 1) dX5_bids_78 (by decide) ?_
  refine zw_cVi dX5_bids_79 (c_X5_of hm (by omega) (by omega)) rfl okX5_of ml_X5_43 hm.i hm.k (by decide) rfl (Nat.le_of_ble_eq_true rfl) (Nat.le_of_ble_eq_true rfl) ?_
  refine zw_if_gt (tgt := 90) dX5_bids_82 (by decide) (fun c82 => absurd c82 hc.1) (fun c82 => ?_)
  refine zw_iload dX5_bids_85 rfl ?_
  refine zw_if_ge (tgt := 93) dX5_bids_87 (by decide) (fun c87 => ?_) (fun c87 => absurd c87 hc.2)
  refine zw_aload_n dX5_bids_93 rfl ?_
  refine zw_getR (j := 0) (kd := 5) dX5_bids_94 hm.i hm.k (by decide) (by decide) fl_X5_7 rfl hm.r0 ?_
  refine zw_sipush (v := nI 572) dX5_bids_97 (by decide) ?_
  refine zw_bipush (v := nI 96) dX5_bids_100 (by decide) ?_
  refine zw_iload_n dX5_bids_102 rfl ?_
  refine zw_imuln dX5_bids_103 ?_
  refine zw_iaddn dX5_bids_104 ?_
  refine zw_iload dX5_bids_105 rfl ?_
  refine zw_iaddn dX5_bids_107 ?_
  refine zw_iload dX5_bids_108 rfl ?_
  refine zw_if_ne (tgt := 117) dX5_bids_110 (by decide) (fun c110 => ?_) (fun c110 => ?_)
  · refine zw_iload dX5_bids_117 rfl ?_
    refine zw_sipush (v := nI 1000) dX5_bids_119 (by decide) ?_
    refine zw_iload dX5_bids_122 rfl ?_
    refine zw_imul dX5_bids_124 ?_
    refine zw_iadd dX5_bids_125 ?_
    refine zw_iast dX5_bids_126 hm.i0 hm.k0 hm.L0 rfl (by rw [hm.n0]; omega) ?_
    refine zw_iload dX5_bids_127 rfl ?_
    exact zw_iretE dX5_bids_129 rfl (rfl) rfl (by unfold bdM; rw [if_neg c110])
  · refine zw_iconst (v := nI 0) dX5_bids_113 (by decide) ?_
    refine zw_goto (tgt := 126) dX5_bids_114 (by decide) ?_
    refine zw_iast dX5_bids_126 hm.i0 hm.k0 hm.L0 rfl (by rw [hm.n0]; omega) ?_
    refine zw_iload dX5_bids_127 rfl ?_
    exact zw_iretE dX5_bids_129 rfl (rfl) rfl (by unfold bdM; rw [if_pos c110])
theorem asM_a {D : Mem} {m a : Nat} (h : a ≠ m + 3) : asM D m a = D a := fcO_ne h
theorem Wm.as {D : Mem} {m P : Nat} (hw : Wm D m P) : Wm (asM D m) m P := hw.of (by rw [asM_a (by omega)]) (fun p hp => by rw [asM_a (by omega)])
def bgM (D : Mem) (m z p s : Nat) (sd am : Int32) : Mem := baM (ntM (swM (bdM (asM D m) m p s sd am) m) m z) m
theorem swM_a {D : Mem} {m a : Nat} (h : a ≠ m + 3) (h2 : a ≠ m + 1) : swM D m a = D a := by
  unfold swM swN
  rw [fcO_ne h, fcO_ne h2]
set_option maxRecDepth 100000 in
set_option maxHeartbeats 4000000 in
theorem d_bid_bad {sh : Sh} {D : Mem} {m P : Nat} (hm : IsMo sh m) (hw : Wm D m P) (x a h sd am : Int32) (hx : ¬ (isP P x ∧ inS a h ∧ (nI 0 ≤ sd ∧ sd ≤ nI 1) ∧ (nI 0 ≤ am ∧ am ≤ nI 999))) : Calls mX5_bid 4 0 0 [.inr (some (m)), .inl (x), .inl (a), .inl (h), .inl (sd), .inl (am)] sh (D) (some (.inl (-1))) sh (asM D m) := by
  refine Calls.of plX5 (Nat.le_of_ble_eq_true rfl) ?_
  have hP12 := hw.2.1
  show WP mX5_bid 4 0 0 0 [some (.inr (some (m))), some (.inl (x)), some (.inl (a)), some (.inl (h)), some (.inl (sd)), some (.inl (am)), none] [] sh (D) (some (.inl (-1))) sh (asM D m)
  refine zw_aload_n dX5_bid_0 rfl ?_
  refine zw_cVv dX5_bid_1 (c_X5_asides hm) rfl okX5_asides ml_X5_79 hm.i hm.k (by decide) rfl (Nat.le_of_ble_eq_true rfl) (Nat.le_of_ble_eq_true rfl) ?_
  refine zw_aload_n dX5_bid_4 rfl ?_
  refine zw_iload_n dX5_bid_5 rfl ?_
  refine zw_iload_n dX5_bid_6 rfl ?_
  refine zw_iload_n dX5_bid_7 rfl ?_
  refine zw_iload dX5_bid_8 rfl ?_
  refine zw_iload dX5_bid_10 rfl ?_
  refine zw_cVi dX5_bid_12 (d_bids_bad hm hw.as _ _ _ _ _ hx) rfl okX5_bids ml_X5_82 hm.i hm.k (by decide) rfl (Nat.le_of_ble_eq_true rfl) (Nat.le_of_ble_eq_true rfl) ?_
  refine zw_istore dX5_bid_15 (by decide) ?_
  refine zw_iload dX5_bid_17 rfl ?_
  refine zw_if_lt (tgt := 34) dX5_bid_19 (by decide) (fun c19 => ?_) (fun c19 => absurd (by decide) c19)
  refine zw_iload dX5_bid_34 rfl ?_
  exact zw_iretE dX5_bid_36 rfl (rfl) rfl (rfl)
set_option maxRecDepth 100000 in
set_option maxHeartbeats 4000000 in
theorem d_bid_ill {sh : Sh} {D : Mem} {m P : Nat} (hm : IsMo sh m) (hw : Wm D m P) {p : Nat} (hp : p < P) {st h : Nat} (hst : st < 4) (hh : h < 24) (sd am : Int32) (hsd : (nI 0 ≤ sd ∧ sd ≤ nI 1)) (ha : (nI 0 ≤ am ∧ am ≤ nI 999)) (hc : ¬ bdOk (asM D m) m p (24 * st + h) am) : Calls mX5_bid 4 0 0 [.inr (some (m)), .inl (nI (p)), .inl (nI (st)), .inl (nI (h)), .inl (sd), .inl (am)] sh (D) (some (.inl (-2))) sh (asM D m) := by
  refine Calls.of plX5 (Nat.le_of_ble_eq_true rfl) ?_
  have hP12 := hw.2.1
  show WP mX5_bid 4 0 0 0 [some (.inr (some (m))), some (.inl (nI (p))), some (.inl (nI (st))), some (.inl (nI (h))), some (.inl (sd)), some (.inl (am)), none] [] sh (D) (some (.inl (-2))) sh (asM D m)
  refine zw_aload_n dX5_bid_0 rfl ?_
  refine zw_cVv dX5_bid_1 (c_X5_asides hm) rfl okX5_asides ml_X5_79 hm.i hm.k (by decide) rfl (Nat.le_of_ble_eq_true rfl) (Nat.le_of_ble_eq_true rfl) ?_
  refine zw_aload_n dX5_bid_4 rfl ?_
  refine zw_iload_n dX5_bid_5 rfl ?_
  refine zw_iload_n dX5_bid_6 rfl ?_
  refine zw_iload_n dX5_bid_7 rfl ?_
  refine zw_iload dX5_bid_8 rfl ?_
  refine zw_iload dX5_bid_10 rfl ?_
  refine zw_cVi dX5_bid_12 (d_bids_ill hm hw.as hp hst hh _ _ hsd ha hc) rfl okX5_bids ml_X5_82 hm.i hm.k (by decide) rfl (Nat.le_of_ble_eq_true rfl) (Nat.le_of_ble_eq_true rfl) ?_
  refine zw_istore dX5_bid_15 (by decide) ?_
  refine zw_iload dX5_bid_17 rfl ?_
  refine zw_if_lt (tgt := 34) dX5_bid_19 (by decide) (fun c19 => ?_) (fun c19 => absurd (by decide) c19)
  refine zw_iload dX5_bid_34 rfl ?_
  exact zw_iretE dX5_bid_36 rfl (rfl) rfl (rfl)
set_option maxRecDepth 100000 in
set_option maxHeartbeats 4000000 in
theorem d_bid_ok {sh : Sh} {D : Mem} {m P : Nat} (hm : IsMo sh m) (hw : Wm D m P) {p : Nat} (hp : p < P) {st h : Nat} (hst : st < 4) (hh : h < 24) {z : Nat} (hz : D m 2 = nI z) (hz5 : z ≤ 5) (sd am : Int32) (hsd : (nI 0 ≤ sd ∧ sd ≤ nI 1)) (ha : (nI 0 ≤ am ∧ am ≤ nI 999)) (hc : bdOk (asM D m) m p (24 * st + h) am) : Calls mX5_bid 4 0 0 [.inr (some (m)), .inl (nI (p)), .inl (nI (st)), .inl (nI (h)), .inl (sd), .inl (am)] sh (D) (some (.inl (blF (asM D m) m p (24 * st + h) am))) sh (bgM D m z p (24 * st + h) sd am) := by
  refine Calls.of plX5 (Nat.le_of_ble_eq_true rfl) ?_
  have hP12 := hw.2.1
  show WP mX5_bid 4 0 0 0 [some (.inr (some (m))), some (.inl (nI (p))), some (.inl (nI (st))), some (.inl (nI (h))), some (.inl (sd)), some (.inl (am)), none] [] sh (D) (some (.inl (blF (asM D m) m p (24 * st + h) am))) sh (bgM D m z p (24 * st + h) sd am)
  refine zw_aload_n dX5_bid_0 rfl ?_
  refine zw_cVv dX5_bid_1 (c_X5_asides hm) rfl okX5_asides ml_X5_79 hm.i hm.k (by decide) rfl (Nat.le_of_ble_eq_true rfl) (Nat.le_of_ble_eq_true rfl) ?_
  refine zw_aload_n dX5_bid_4 rfl ?_
  refine zw_iload_n dX5_bid_5 rfl ?_
  refine zw_iload_n dX5_bid_6 rfl ?_
  refine zw_iload_n dX5_bid_7 rfl ?_
  refine zw_iload dX5_bid_8 rfl ?_
  refine zw_iload dX5_bid_10 rfl ?_
  refine zw_cVi dX5_bid_12 (d_bids_ok hm hw.as hp hst hh _ _ hsd ha hc) rfl okX5_bids ml_X5_82 hm.i hm.k (by decide) rfl (Nat.le_of_ble_eq_true rfl) (Nat.le_of_ble_eq_true rfl) ?_
  refine zw_istore dX5_bid_15 (by decide) ?_
  refine zw_iload dX5_bid_17 rfl ?_
  refine zw_if_lt (tgt := 34) dX5_bid_19 (by decide) (fun c19 => absurd c19 hc.2) (fun c19 => ?_)
  refine zw_aload_n dX5_bid_22 rfl ?_
  refine zw_cVv dX5_bid_23 (c_X5_swaps hm) rfl okX5_swaps ml_X5_86 hm.i hm.k (by decide) rfl (Nat.le_of_ble_eq_true rfl) (Nat.le_of_ble_eq_true rfl) ?_
  refine zw_aload_n dX5_bid_26 rfl ?_
  refine zw_cVv dX5_bid_27 (c_X5_notes hm (by rw [swM_a (by omega) (by omega)]; unfold bdM; rw [up_ne (by omega), asM_a (by omega)]; exact hz) hz5) rfl okX5_notes ml_X5_58 hm.i hm.k (by decide) rfl (Nat.le_of_ble_eq_true rfl) (Nat.le_of_ble_eq_true rfl) ?_
  refine zw_aload_n dX5_bid_30 rfl ?_
  refine zw_cVv dX5_bid_31 (c_X5_backs hm) rfl okX5_backs ml_X5_89 hm.i hm.k (by decide) rfl (Nat.le_of_ble_eq_true rfl) (Nat.le_of_ble_eq_true rfl) ?_
  refine zw_iload dX5_bid_34 rfl ?_
  exact zw_iretE dX5_bid_36 rfl (rfl) rfl (rfl)
set_option maxRecDepth 100000 in
set_option maxHeartbeats 4000000 in
theorem d_setFine_bad {sh : Sh} {D : Mem} {m P : Nat} (hm : IsMo sh m) (hw : Wm D m P) (x : Int32) (hx : ¬ (nI 0 ≤ x ∧ x ≤ nI 1000)) : Calls mX5_setFine 1 0 0 [.inr (some (m)), .inl (x)] sh (D) (some (.inl (-1))) sh (D) := by
  refine Calls.of plX5 (Nat.le_of_ble_eq_true rfl) ?_
  have hP12 := hw.2.1
  show WP mX5_setFine 1 0 0 0 [some (.inr (some (m))), some (.inl (x)), none] [] sh (D) (some (.inl (-1))) sh (D)
  refine zw_iload_n dX5_setFine_0 rfl ?_
  refine zw_iconst (v := nI 0) dX5_setFine_1 (by decide) ?_
  refine zw_sipush (v := nI 1000) dX5_setFine_2 (by decide) ?_
  refine zw_cSi dX5_setFine_5 (c_X5_in _ _ _) rfl okX5_in ml_X5_31 (Nat.le_of_ble_eq_true rfl) (Nat.le_of_ble_eq_true rfl) ?_
  refine zw_if_ne_b (tgt := 13) dX5_setFine_8 (by decide) (fun c8 => absurd c8 hx) (fun c8 => ?_)
  refine zw_iconst (v := (-1)) dX5_setFine_11 (by decide) ?_
  exact zw_iretE dX5_setFine_12 rfl (rfl) rfl (rfl)
set_option maxRecDepth 100000 in
set_option maxHeartbeats 4000000 in
theorem d_setFine_ok {sh : Sh} {D : Mem} {m P : Nat} (hm : IsMo sh m) (hw : Wm D m P) {z : Nat} (hz : D m 2 = nI z) (hz5 : z ≤ 5) (x : Int32) (hx : nI 0 ≤ x ∧ x ≤ nI 1000) : Calls mX5_setFine 1 0 0 [.inr (some (m)), .inl (x)] sh (D) (some (.inl ((ntM D m z) (m + 1) 2))) sh (up (ntM D m z) (m + 1) 2 x) := by
  refine Calls.of plX5 (Nat.le_of_ble_eq_true rfl) ?_
  have hP12 := hw.2.1
  show WP mX5_setFine 1 0 0 0 [some (.inr (some (m))), some (.inl (x)), none] [] sh (D) (some (.inl ((ntM D m z) (m + 1) 2))) sh (up (ntM D m z) (m + 1) 2 x)
  refine zw_iload_n dX5_setFine_0 rfl ?_
  refine zw_iconst (v := nI 0) dX5_setFine_1 (by decide) ?_
  refine zw_sipush (v := nI 1000) dX5_setFine_2 (by decide) ?_
  refine zw_cSi dX5_setFine_5 (c_X5_in _ _ _) rfl okX5_in ml_X5_31 (Nat.le_of_ble_eq_true rfl) (Nat.le_of_ble_eq_true rfl) ?_
  refine zw_if_ne_b (tgt := 13) dX5_setFine_8 (by decide) (fun c8 => ?_) (fun c8 => absurd hx c8)
  refine zw_aload_n dX5_setFine_13 rfl ?_
  refine zw_cVv dX5_setFine_14 (c_X5_notes hm hz hz5) rfl okX5_notes ml_X5_58 hm.i hm.k (by decide) rfl (Nat.le_of_ble_eq_true rfl) (Nat.le_of_ble_eq_true rfl) ?_
  refine zw_aload_n dX5_setFine_17 rfl ?_
  refine zw_getR (j := 0) (kd := 5) dX5_setFine_18 hm.i hm.k (by decide) (by decide) fl_X5_7 rfl hm.r0 ?_
  refine zw_iconst (v := nI 2) dX5_setFine_21 (by decide) ?_
  refine zw_iald dX5_setFine_22 hm.i0 hm.k0 hm.L0 rfl (by rw [hm.n0]; omega) ?_
  refine zw_istore_n dX5_setFine_23 (by decide) ?_
  refine zw_aload_n dX5_setFine_24 rfl ?_
  refine zw_getR (j := 0) (kd := 5) dX5_setFine_25 hm.i hm.k (by decide) (by decide) fl_X5_7 rfl hm.r0 ?_
  refine zw_iconst (v := nI 2) dX5_setFine_28 (by decide) ?_
  refine zw_iload_n dX5_setFine_29 rfl ?_
  refine zw_iast dX5_setFine_30 hm.i0 hm.k0 hm.L0 rfl (by rw [hm.n0]; omega) ?_
  refine zw_iload_n dX5_setFine_31 rfl ?_
  exact zw_iretE dX5_setFine_32 rfl (rfl) rfl (rfl)
theorem Wm.bs {D : Mem} {m P p j : Nat} (h : Wm D m P) (hj : j < 4) : Wm (up D (m + 1) (8 + 7 * p + 6) (nI j)) m P := by
  refine ⟨by rw [up_ne2 (by omega)]; exact h.1, h.2.1, fun i hi => ?_⟩
  by_cases hip : i = p
  · subst hip
    rw [up_eq]
    exact vp_in_nI hj (by decide)
  · rw [up_ne2 (by omega)]
    exact h.2.2 i hi
def brP (D : Mem) (m p : Nat) : Int32 := if D (m + 1) 2 < frL D m p 96 then D (m + 1) 2 else frL D m p 96
def br5 (D : Mem) (m p st : Nat) : Mem :=
  let pays := brP D m p
  let D1 := adM D m p 0 (-pays)
  let D2 := adM D1 m p 1 (D1 (m + 1) 2 - pays)
  let D3 := adM D2 m p 5 (nI 1)
  let D4 := up D3 (m + 1) (8 + 7 * p + 6) (nI st)
  up D4 (m + 1) 3 (D4 (m + 1) 3 + nI 1)
theorem Wm.br {D : Mem} {m P p st : Nat} (hw : Wm D m P) (hst : st < 4) : Wm (br5 D m p st) m P := Wm.wj (Wm.bs (((hw.ad (by decide) (by decide)).ad (by decide) (by decide)).ad (by decide) (by decide)) hst) (by omega) (fun _ _ => by omega)
abbrev bit (D : Mem) (m s k : Nat) : Int32 := (D (m + 1) (92 + 5 * s + 3) >>> (nI k &&& 31)) &&& nI 1
abbrev brN (D : Mem) (m s : Nat) : Int32 := sm (fun k => bit D m s k) 12
def bsM (D : Mem) (m s : Nat) (x : Int32) : Nat → Mem
  | 0 => D
  | k + 1 => if bit (bsM D m s x k) m s k = nI 1 then rcD (bsM D m s x k) m k x else bsM D m s x k
def bsL (D : Mem) (m s : Nat) (x l : Int32) : Nat → Int32
  | 0 => l
  | k + 1 => if bit (bsM D m s x k) m s k = nI 1 then bsL D m s x l k - x else bsL D m s x l k
theorem Wm.b2 {D : Mem} {m P s : Nat} {x : Int32} (hw : Wm D m P) : ∀ k, k ≤ 12 → Wm (bsM D m s x k) m P
  | 0, _ => hw
  | k + 1, h => by
    unfold bsM
    split
    · exact (hw.b2 k (by omega)).rc (by omega)
    · exact hw.b2 k (by omega)
theorem bsM_j {D : Mem} {m P s j : Nat} {x : Int32} (hw : Wm D m P) (hj : 92 ≤ j) : ∀ k, k ≤ 12 → bsM D m s x k (m + 1) j = D (m + 1) j
  | 0, _ => rfl
  | k + 1, h => by
    unfold bsM
    split
    · exact (rcD_j (hw.b2 k (by omega)) (by omega) (by omega) (by omega) (by omega)).trans (bsM_j hw hj k (by omega))
    · exact bsM_j hw hj k (by omega)
theorem brN_ne0 {D : Mem} {m s k : Nat} (hk : k < 12) (h : bit D m s k = nI 1) : ¬ brN D m s = 0 := by
  have hf : ∀ p, p < 12 → ∃ j : Nat, j ≤ 1 ∧ (fun k => bit D m s k) p = nI j := fun p _ => by
    obtain ⟨j, hj, e⟩ := pk_andE (D (m + 1) (92 + 5 * s + 3) >>> (nI p &&& 31)) (m := nI 1) 1 (by decide)
    exact ⟨j, by omega, e⟩
  obtain ⟨J, h1, h2, h3⟩ := sm_n hf 12 (Nat.le_refl 12)
  have h4 := h3 k hk 1 (Nat.le_refl 1) h (by decide)
  intro h9
  have h10 : sm (fun k => bit D m s k) 12 = 0 := h9
  rw [h2, ← nI_0] at h10
  have := (nI_eq (by omega) (by decide)).mp h10
  omega
def brM (D : Mem) (m p st s : Nat) : Mem :=
  let pays := brP D m p
  let D5 := br5 D m p st
  let D6 := bsM D5 m s (pays / brN D5 m s) 12
  up D6 (m + 1) (4 + st) (D6 (m + 1) (4 + st) + bsL D5 m s (pays / brN D5 m s) pays 12)
set_option maxRecDepth 100000 in
set_option maxHeartbeats 4000000 in
theorem d_breach_bad {sh : Sh} {D : Mem} {m P : Nat} (hm : IsMo sh m) (hw : Wm D m P) (x a h : Int32) (hx : ¬ (isP P x ∧ inS a h)) : Calls mX5_breach 3 0 0 [.inr (some (m)), .inl (x), .inl (a), .inl (h)] sh (D) (some (.inl (-1))) sh (D) := by
  refine Calls.of plX5 (Nat.le_of_ble_eq_true rfl) ?_
  have hP12 := hw.2.1
  show WP mX5_breach 3 0 0 0 [some (.inr (some (m))), some (.inl (x)), some (.inl (a)), some (.inl (h)), none, none, none, none, none, none] [] sh (D) (some (.inl (-1))) sh (D)
  refine zw_aload_n dX5_breach_0 rfl ?_
  refine zw_iload_n dX5_breach_1 rfl ?_
  refine zw_cVi dX5_breach_2 (c_X5_isPerson hm hw _) rfl okX5_isPerson ml_X5_61 hm.i hm.k (by decide) rfl (Nat.le_of_ble_eq_true rfl) (Nat.le_of_ble_eq_true rfl) ?_
  refine zw_if_eq_c (tgt := 16) dX5_breach_5 (by decide) (fun c5 => ?_) (fun c5 => ?_)
  · refine zw_iconst (v := (-1)) dX5_breach_16 (by decide) ?_
    exact zw_iretE dX5_breach_17 rfl (rfl) rfl (rfl)
  · refine zw_iload_n dX5_breach_8 rfl ?_
    refine zw_iload_n dX5_breach_9 rfl ?_
    refine zw_cSi dX5_breach_10 (c_X5_isSlot _ _) rfl okX5_isSlot ml_X5_75 (Nat.le_of_ble_eq_true rfl) (Nat.le_of_ble_eq_true rfl) ?_
    refine zw_if_ne_c (tgt := 18) dX5_breach_13 (by decide) (fun c13 => absurd (And.intro c5 c13) hx) (fun c13 => ?_)
    refine zw_iconst (v := (-1)) dX5_breach_16 (by decide) ?_
    exact zw_iretE dX5_breach_17 rfl (rfl) rfl (rfl)
set_option maxRecDepth 100000 in
set_option maxHeartbeats 4000000 in
theorem d_breach_ill {sh : Sh} {D : Mem} {m P : Nat} (hm : IsMo sh m) (hw : Wm D m P) {p : Nat} (hp : p < P) {st h : Nat} (hst : st < 4) (hh : h < 24) (hown : D (m + 1) (92 + 5 * (24 * st + h) + 0) = nI 1) : Calls mX5_breach 3 0 0 [.inr (some (m)), .inl (nI (p)), .inl (nI (st)), .inl (nI (h))] sh (D) (some (.inl (-2))) sh (D) := by
  refine Calls.of plX5 (Nat.le_of_ble_eq_true rfl) ?_
  have hP12 := hw.2.1
  show WP mX5_breach 3 0 0 0 [some (.inr (some (m))), some (.inl (nI (p))), some (.inl (nI (st))), some (.inl (nI (h))), none, none, none, none, none, none] [] sh (D) (some (.inl (-2))) sh (D)
  refine zw_aload_n dX5_breach_0 rfl ?_
  refine zw_iload_n dX5_breach_1 rfl ?_
  refine zw_cVi dX5_breach_2 (c_X5_isPerson hm hw _) rfl okX5_isPerson ml_X5_61 hm.i hm.k (by decide) rfl (Nat.le_of_ble_eq_true rfl) (Nat.le_of_ble_eq_true rfl) ?_
  refine zw_if_eq_c (tgt := 16) dX5_breach_5 (by decide) (fun c5 => absurd (isP_n hp) c5) (fun c5 => ?_)
  refine zw_iload_n dX5_breach_8 rfl ?_
  refine zw_iload_n dX5_breach_9 rfl ?_
  refine zw_cSi dX5_breach_10 (c_X5_isSlot _ _) rfl okX5_isSlot ml_X5_75 (Nat.le_of_ble_eq_true rfl) (Nat.le_of_ble_eq_true rfl) ?_
  refine zw_if_ne_c (tgt := 18) dX5_breach_13 (by decide) (fun c13 => ?_) (fun c13 => absurd (inS_n hst hh) c13)
  refine zw_bipush (v := nI 24) dX5_breach_18 (by decide) ?_
  refine zw_iload_n dX5_breach_20 rfl ?_
  refine zw_imuln dX5_breach_21 ?_
  refine zw_iload_n dX5_breach_22 rfl ?_
  refine zw_iaddn dX5_breach_23 ?_
  refine zw_istore dX5_breach_24 (by decide) ?_
  refine zw_aload_n dX5_breach_26 rfl ?_
  refine zw_iload dX5_breach_27 rfl ?_
  refine zw_iconst (v := nI 0) dX5_breach_29 (by decide) ?_
  refine zw_cVi dX5_breach_30 (c_X5_slotOf hm (by omega) (by omega)) rfl okX5_slotOf ml_X5_46 hm.i hm.k (by decide) rfl (Nat.le_of_ble_eq_true rfl) (Nat.le_of_ble_eq_true rfl) ?_
  refine zw_iconst (v := nI 1) dX5_breach_33 (by decide) ?_
  refine zw_icmp_ne (tgt := 40) dX5_breach_34 (by decide) (fun c34 => absurd hown c34) (fun c34 => ?_)
  refine zw_bipush (v := (-2)) dX5_breach_37 (by decide) ?_
  exact zw_iretE dX5_breach_39 rfl (rfl) rfl (rfl)
set_option maxRecDepth 100000 in
set_option maxHeartbeats 4000000 in
theorem d_breach_ok {sh : Sh} {D : Mem} {m P : Nat} (hm : IsMo sh m) (hw : Wm D m P) {p : Nat} (hp : p < P) {st h : Nat} (hst : st < 4) (hh : h < 24) {z : Nat} (hz : D m 2 = nI z) (hz5 : z ≤ 5) (hown : ¬ D (m + 1) (92 + 5 * (24 * st + h) + 0) = nI 1) : Calls mX5_breach 3 0 0 [.inr (some (m)), .inl (nI (p)), .inl (nI (st)), .inl (nI (h))] sh (D) (some (.inl (brP (ntM D m z) m p))) sh (brM (ntM D m z) m p st (24 * st + h)) := by
  refine Calls.of plX5 (Nat.le_of_ble_eq_true rfl) ?_
  have hP12 := hw.2.1
  show WP mX5_breach 3 0 0 0 [some (.inr (some (m))), some (.inl (nI (p))), some (.inl (nI (st))), some (.inl (nI (h))), none, none, none, none, none, none] [] sh (D) (some (.inl (brP (ntM D m z) m p))) sh (brM (ntM D m z) m p st (24 * st + h))
  refine zw_aload_n dX5_breach_0 rfl ?_
  refine zw_iload_n dX5_breach_1 rfl ?_
  refine zw_cVi dX5_breach_2 (c_X5_isPerson hm hw _) rfl okX5_isPerson ml_X5_61 hm.i hm.k (by decide) rfl (Nat.le_of_ble_eq_true rfl) (Nat.le_of_ble_eq_true rfl) ?_
  refine zw_if_eq_c (tgt := 16) dX5_breach_5 (by decide) (fun c5 => absurd (isP_n hp) c5) (fun c5 => ?_)
  refine zw_iload_n dX5_breach_8 rfl ?_
  refine zw_iload_n dX5_breach_9 rfl ?_
  refine zw_cSi dX5_breach_10 (c_X5_isSlot _ _) rfl okX5_isSlot ml_X5_75 (Nat.le_of_ble_eq_true rfl) (Nat.le_of_ble_eq_true rfl) ?_
  refine zw_if_ne_c (tgt := 18) dX5_breach_13 (by decide) (fun c13 => ?_) (fun c13 => absurd (inS_n hst hh) c13)
  refine zw_bipush (v := nI 24) dX5_breach_18 (by decide) ?_
  refine zw_iload_n dX5_breach_20 rfl ?_
  refine zw_imuln dX5_breach_21 ?_
  refine zw_iload_n dX5_breach_22 rfl ?_
  refine zw_iaddn dX5_breach_23 ?_
  refine zw_istore dX5_breach_24 (by decide) ?_
  refine zw_aload_n dX5_breach_26 rfl ?_
  refine zw_iload dX5_breach_27 rfl ?_
  refine zw_iconst (v := nI 0) dX5_breach_29 (by decide) ?_
  refine zw_cVi dX5_breach_30 (c_X5_slotOf hm (by omega) (by omega)) rfl okX5_slotOf ml_X5_46 hm.i hm.k (by decide) rfl (Nat.le_of_ble_eq_true rfl) (Nat.le_of_ble_eq_true rfl) ?_
  refine zw_iconst (v := nI 1) dX5_breach_33 (by decide) ?_
  refine zw_icmp_ne (tgt := 40) dX5_breach_34 (by decide) (fun c34 => ?_) (fun c34 => absurd c34 hown)
  refine zw_aload_n dX5_breach_40 rfl ?_
  refine zw_cVv dX5_breach_41 (c_X5_notes hm hz hz5) rfl okX5_notes ml_X5_58 hm.i hm.k (by decide) rfl (Nat.le_of_ble_eq_true rfl) (Nat.le_of_ble_eq_true rfl) ?_
  refine zw_aload_n dX5_breach_44 rfl ?_
  refine zw_iload_n dX5_breach_45 rfl ?_
  refine zw_cVi dX5_breach_46 (c_X5_free hm (by omega)) rfl okX5_free ml_X5_66 hm.i hm.k (by decide) rfl (Nat.le_of_ble_eq_true rfl) (Nat.le_of_ble_eq_true rfl) ?_
  refine zw_istore dX5_breach_49 (by decide) ?_
  refine zw_aload_n dX5_breach_51 rfl ?_
  refine zw_getR (j := 0) (kd := 5) dX5_breach_52 hm.i hm.k (by decide) (by decide) fl_X5_7 rfl hm.r0 ?_
  refine zw_iconst (v := nI 2) dX5_breach_55 (by decide) ?_
  refine zw_iald dX5_breach_56 hm.i0 hm.k0 hm.L0 rfl (by rw [hm.n0]; omega) ?_
  refine zw_iload dX5_breach_57 rfl ?_
  have J73 : ∀ (t : Int32), (brP (ntM D m z) m p) = t → WP mX5_breach 3 0 0 73 [some (.inr (some (m))), some (.inl (nI (p))), some (.inl (nI (st))), some (.inl (nI (h))), some (.inl (nI ((24 * st) + (h)))), none, none, none, none, none] [.inl (t)] sh ((ntM D m z)) (some (.inl (brP (ntM D m z) m p))) sh (brM (ntM D m z) m p st (24 * st + h)) := by
    intro t ht
    refine zw_istore dX5_breach_73 (by decide) ?_
    subst ht
    refine zw_aload_n dX5_breach_75 rfl ?_
    refine zw_iload_n dX5_breach_76 rfl ?_
    refine zw_iconst (v := nI 0) dX5_breach_77 (by decide) ?_
    refine zw_iload dX5_breach_78 rfl ?_
    refine zw_ineg dX5_breach_80 ?_
    refine zw_cVv dX5_breach_81 (c_X5_adds hm (by omega) (by omega) _) rfl okX5_adds ml_X5_53 hm.i hm.k (by decide) rfl (Nat.le_of_ble_eq_true rfl) (Nat.le_of_ble_eq_true rfl) ?_
    refine zw_aload_n dX5_breach_84 rfl ?_
    refine zw_iload_n dX5_breach_85 rfl ?_
    refine zw_iconst (v := nI 1) dX5_breach_86 (by decide) ?_
    refine zw_aload_n dX5_breach_87 rfl ?_
    refine zw_getR (j := 0) (kd := 5) dX5_breach_88 hm.i hm.k (by decide) (by decide) fl_X5_7 rfl hm.r0 ?_
    refine zw_iconst (v := nI 2) dX5_breach_91 (by decide) ?_
    refine zw_iald dX5_breach_92 hm.i0 hm.k0 hm.L0 rfl (by rw [hm.n0]; omega) ?_
    refine zw_iload dX5_breach_93 rfl ?_
    refine zw_isub dX5_breach_95 ?_
    refine zw_cVv dX5_breach_96 (c_X5_adds hm (by omega) (by omega) _) rfl okX5_adds ml_X5_53 hm.i hm.k (by decide) rfl (Nat.le_of_ble_eq_true rfl) (Nat.le_of_ble_eq_true rfl) ?_
    refine zw_aload_n dX5_breach_99 rfl ?_
    refine zw_iload_n dX5_breach_100 rfl ?_
    refine zw_iconst (v := nI 5) dX5_breach_101 (by decide) ?_
    refine zw_iconst (v := nI 1) dX5_breach_102 (by decide) ?_
    refine zw_cVv dX5_breach_103 (c_X5_adds hm (by omega) (by omega) _) rfl okX5_adds ml_X5_53 hm.i hm.k (by decide) rfl (Nat.le_of_ble_eq_true rfl) (Nat.le_of_ble_eq_true rfl) ?_
    refine zw_aload_n dX5_breach_106 rfl ?_
    refine zw_getR (j := 0) (kd := 5) dX5_breach_107 hm.i hm.k (by decide) (by decide) fl_X5_7 rfl hm.r0 ?_
    refine zw_bipush (v := nI 8) dX5_breach_110 (by decide) ?_
    refine zw_bipush (v := nI 7) dX5_breach_112 (by decide) ?_
    refine zw_iload_n dX5_breach_114 rfl ?_
    refine zw_imuln dX5_breach_115 ?_
    refine zw_iaddn dX5_breach_116 ?_
    refine zw_bipush (v := nI 6) dX5_breach_117 (by decide) ?_
    refine zw_iaddn dX5_breach_119 ?_
    refine zw_iload_n dX5_breach_120 rfl ?_
    refine zw_iast dX5_breach_121 hm.i0 hm.k0 hm.L0 rfl (by rw [hm.n0]; omega) ?_
    refine zw_aload_n dX5_breach_122 rfl ?_
    refine zw_getR (j := 0) (kd := 5) dX5_breach_123 hm.i hm.k (by decide) (by decide) fl_X5_7 rfl hm.r0 ?_
    refine zw_iconst (v := nI 3) dX5_breach_126 (by decide) ?_
    refine zw_dup2 dX5_breach_127 ?_
    refine zw_iald dX5_breach_128 hm.i0 hm.k0 hm.L0 rfl (by rw [hm.n0]; omega) ?_
    refine zw_iconst (v := nI 1) dX5_breach_129 (by decide) ?_
    refine zw_iadd dX5_breach_130 ?_
    refine zw_iast dX5_breach_131 hm.i0 hm.k0 hm.L0 rfl (by rw [hm.n0]; omega) ?_
    refine zw_iconst (v := nI 0) dX5_breach_132 (by decide) ?_
    refine zw_istore dX5_breach_133 (by decide) ?_
    refine zw_iconst (v := nI 0) dX5_breach_135 (by decide) ?_
    refine zw_istore dX5_breach_136 (by decide) ?_
    have L138 : ∀ (n_138 k : Nat), k + n_138 = 12 → WP mX5_breach 3 0 0 138 [some (.inr (some (m))), some (.inl (nI (p))), some (.inl (nI (st))), some (.inl (nI (h))), some (.inl (nI ((24 * st) + (h)))), none, some (.inl ((brP (ntM D m z) m p))), some (.inl (sm (fun k => bit (br5 (ntM D m z) m p st) m (24 * st + h) k) (k))), some (.inl (nI (k))), none] [] sh ((br5 (ntM D m z) m p st)) (some (.inl (brP (ntM D m z) m p))) sh (brM (ntM D m z) m p st (24 * st + h)) := by
      intro n_138
      induction n_138 with
      | zero =>
        intro k hk138
        have ek138 : 12 = k := by omega
        subst ek138
        refine zw_iload dX5_breach_138 rfl ?_
        refine zw_bipush (v := nI 12) dX5_breach_140 (by decide) ?_
        refine zw_icmp_ge_n (tgt := 168) dX5_breach_142 (by decide) (by omega) (by omega) (fun c142 => ?_) (fun c142 => by omega)
        refine zw_iload dX5_breach_168 rfl ?_
        refine zw_istore dX5_breach_170 (by decide) ?_
        refine zw_iconst (v := nI 0) dX5_breach_172 (by decide) ?_
        refine zw_istore dX5_breach_173 (by decide) ?_
        have L175 : ∀ (n_175 k : Nat), k + n_175 = 12 → WP mX5_breach 3 0 0 175 [some (.inr (some (m))), some (.inl (nI (p))), some (.inl (nI (st))), some (.inl (nI (h))), some (.inl (nI ((24 * st) + (h)))), none, some (.inl ((brP (ntM D m z) m p))), some (.inl ((brN (br5 (ntM D m z) m p st) m (24 * st + h)))), some (.inl (bsL (br5 (ntM D m z) m p st) m (24 * st + h) ((brP (ntM D m z) m p) / (brN (br5 (ntM D m z) m p st) m (24 * st + h))) (brP (ntM D m z) m p) (k))), some (.inl (nI (k)))] [] sh (bsM (br5 (ntM D m z) m p st) m (24 * st + h) ((brP (ntM D m z) m p) / (brN (br5 (ntM D m z) m p st) m (24 * st + h))) (k)) (some (.inl (brP (ntM D m z) m p))) sh (brM (ntM D m z) m p st (24 * st + h)) := by
          intro n_175
          induction n_175 with
          | zero =>
            intro k hk175
            have ek175 : 12 = k := by omega
            subst ek175
            refine zw_iload dX5_breach_175 rfl ?_
            refine zw_bipush (v := nI 12) dX5_breach_177 (by decide) ?_
            refine zw_icmp_ge_n (tgt := 225) dX5_breach_179 (by decide) (by omega) (by omega) (fun c179 => ?_) (fun c179 => by omega)
            refine zw_aload_n dX5_breach_225 rfl ?_
            refine zw_getR (j := 0) (kd := 5) dX5_breach_226 hm.i hm.k (by decide) (by decide) fl_X5_7 rfl hm.r0 ?_
            refine zw_iconst (v := nI 4) dX5_breach_229 (by decide) ?_
            refine zw_iload_n dX5_breach_230 rfl ?_
            refine zw_iaddn dX5_breach_231 ?_
            refine zw_dup2 dX5_breach_232 ?_
            refine zw_iald dX5_breach_233 hm.i0 hm.k0 hm.L0 rfl (by rw [hm.n0]; omega) ?_
            refine zw_iload dX5_breach_234 rfl ?_
            refine zw_iadd dX5_breach_236 ?_
            refine zw_iast dX5_breach_237 hm.i0 hm.k0 hm.L0 rfl (by rw [hm.n0]; omega) ?_
            refine zw_iload dX5_breach_238 rfl ?_
            exact zw_iretE dX5_breach_240 rfl (rfl) rfl (rfl)
          | succ n_175 ih175 =>
            intro k hk175
            have hlt175 : k < 12 := by omega
            refine zw_iload dX5_breach_175 rfl ?_
            refine zw_bipush (v := nI 12) dX5_breach_177 (by decide) ?_
            refine zw_icmp_ge_n (tgt := 225) dX5_breach_179 (by decide) (by omega) (by omega) (fun c179 => by omega) (fun c179 => ?_)
            refine zw_aload_n dX5_breach_182 rfl ?_
            refine zw_iload dX5_breach_183 rfl ?_
            refine zw_iconst (v := nI 3) dX5_breach_185 (by decide) ?_
            refine zw_cVi dX5_breach_186 (c_X5_slotOf hm (by omega) (by omega)) rfl okX5_slotOf ml_X5_46 hm.i hm.k (by decide) rfl (Nat.le_of_ble_eq_true rfl) (Nat.le_of_ble_eq_true rfl) ?_
            refine zw_iload dX5_breach_189 rfl ?_
            refine zw_ishr dX5_breach_191 ?_
            refine zw_iconst (v := nI 1) dX5_breach_192 (by decide) ?_
            refine zw_iand dX5_breach_193 ?_
            refine zw_iconst (v := nI 1) dX5_breach_194 (by decide) ?_
            refine zw_icmp_ne (tgt := 219) dX5_breach_195 (by decide) (fun c195 => ?_) (fun c195 => ?_)
            · refine zw_iincn dX5_breach_219 rfl (by decide) ?_
              refine zw_goto (tgt := 175) dX5_breach_222 (by decide) ?_
              refine zw_mem (C2 := bsM (br5 (ntM D m z) m p st) m (24 * st + h) ((brP (ntM D m z) m p) / (brN (br5 (ntM D m z) m p st) m (24 * st + h))) (k + 1)) (by simp only [bsM]; first | rw [if_pos c195] | rw [if_neg c195]) ?_
              exact WP.sub (ih175 (k + 1) (by omega)) ⟨rfl, rfl, rfl, rfl, rfl, rfl, rfl, (hd_eq (by simp only [bsL]; first | rw [if_pos c195] | rw [if_neg c195])), rfl, trivial⟩
            · refine zw_iload dX5_breach_198 rfl ?_
              refine zw_iload dX5_breach_200 rfl ?_
              refine zw_iload dX5_breach_202 rfl ?_
              refine zw_idiv dX5_breach_204 (brN_ne0 hlt175 (by have h := c195; unfold bit at h ⊢; rw [bsM_j (Wm.br (p := p) hw.nt hst) (by omega) k (by omega)] at h; exact h)) ?_
              refine zw_isub dX5_breach_205 ?_
              refine zw_istore dX5_breach_206 (by decide) ?_
              refine zw_aload_n dX5_breach_208 rfl ?_
              refine zw_iload dX5_breach_209 rfl ?_
              refine zw_iload dX5_breach_211 rfl ?_
              refine zw_iload dX5_breach_213 rfl ?_
              refine zw_idiv dX5_breach_215 (brN_ne0 hlt175 (by have h := c195; unfold bit at h ⊢; rw [bsM_j (Wm.br (p := p) hw.nt hst) (by omega) k (by omega)] at h; exact h)) ?_
              refine zw_cVv dX5_breach_216 (c_X5_receives hm ((Wm.br (p := p) hw.nt hst).b2 (k) (by omega)) (by omega) _) rfl okX5_receives ml_X5_71 hm.i hm.k (by decide) rfl (Nat.le_of_ble_eq_true rfl) (Nat.le_of_ble_eq_true rfl) ?_
              refine zw_iincn dX5_breach_219 rfl (by decide) ?_
              refine zw_goto (tgt := 175) dX5_breach_222 (by decide) ?_
              refine zw_mem (C2 := bsM (br5 (ntM D m z) m p st) m (24 * st + h) ((brP (ntM D m z) m p) / (brN (br5 (ntM D m z) m p st) m (24 * st + h))) (k + 1)) (by simp only [bsM]; first | rw [if_pos c195] | rw [if_neg c195]) ?_
              exact WP.sub (ih175 (k + 1) (by omega)) ⟨rfl, rfl, rfl, rfl, rfl, rfl, rfl, (hd_eq (by simp only [bsL]; first | rw [if_pos c195] | rw [if_neg c195])), rfl, trivial⟩
        exact WP.sub (L175 (12) 0 (by omega)) ⟨rfl, rfl, rfl, rfl, rfl, rfl, rfl, rfl, rfl, trivial⟩
      | succ n_138 ih138 =>
        intro k hk138
        have hlt138 : k < 12 := by omega
        refine zw_iload dX5_breach_138 rfl ?_
        refine zw_bipush (v := nI 12) dX5_breach_140 (by decide) ?_
        refine zw_icmp_ge_n (tgt := 168) dX5_breach_142 (by decide) (by omega) (by omega) (fun c142 => by omega) (fun c142 => ?_)
        refine zw_iload dX5_breach_145 rfl ?_
        refine zw_aload_n dX5_breach_147 rfl ?_
        refine zw_iload dX5_breach_148 rfl ?_
        refine zw_iconst (v := nI 3) dX5_breach_150 (by decide) ?_
        refine zw_cVi dX5_breach_151 (c_X5_slotOf hm (by omega) (by omega)) rfl okX5_slotOf ml_X5_46 hm.i hm.k (by decide) rfl (Nat.le_of_ble_eq_true rfl) (Nat.le_of_ble_eq_true rfl) ?_
        refine zw_iload dX5_breach_154 rfl ?_
        refine zw_ishr dX5_breach_156 ?_
        refine zw_iconst (v := nI 1) dX5_breach_157 (by decide) ?_
        refine zw_iand dX5_breach_158 ?_
        refine zw_iadd dX5_breach_159 ?_
        refine zw_istore dX5_breach_160 (by decide) ?_
        refine zw_iincn dX5_breach_162 rfl (by decide) ?_
        refine zw_goto (tgt := 138) dX5_breach_165 (by decide) ?_
        exact WP.sub (ih138 (k + 1) (by omega)) ⟨rfl, rfl, rfl, rfl, rfl, rfl, rfl, rfl, trivial⟩
    exact WP.sub (L138 (12) 0 (by omega)) ⟨rfl, rfl, rfl, rfl, rfl, rfl, rfl, rfl, trivial⟩
  refine zw_icmp_ge (tgt := 71) dX5_breach_59 (by decide) (fun c59 => ?_) (fun c59 => ?_)
  · refine zw_iload dX5_breach_71 rfl ?_
    exact WP.sub (J73 _ (by unfold brP; rw [if_neg c59])) ⟨rfl, rfl, rfl, rfl, rfl, trivial⟩
  · refine zw_aload_n dX5_breach_62 rfl ?_
    refine zw_getR (j := 0) (kd := 5) dX5_breach_63 hm.i hm.k (by decide) (by decide) fl_X5_7 rfl hm.r0 ?_
    refine zw_iconst (v := nI 2) dX5_breach_66 (by decide) ?_
    refine zw_iald dX5_breach_67 hm.i0 hm.k0 hm.L0 rfl (by rw [hm.n0]; omega) ?_
    refine zw_goto (tgt := 73) dX5_breach_68 (by decide) ?_
    exact WP.sub (J73 _ (by unfold brP; rw [if_pos c59])) ⟨rfl, rfl, rfl, rfl, rfl, trivial⟩
def unD (D : Mem) (m z : Nat) : Mem := fcO (up D m 2 (nI (z - 1))) (m + 1) 0 (fun k => D (m + 2) (1724 * (z - 1) + k)) 1724
set_option maxRecDepth 100000 in
set_option maxHeartbeats 4000000 in
theorem d_undo_ill {sh : Sh} {D : Mem} {m : Nat} (hm : IsMo sh m) {z : Nat} (hz : D m 2 = nI z) (hz5 : z ≤ 5) (hz0 : z = 0) : Calls mX5_undo 0 0 0 [.inr (some (m))] sh (D) (some (.inl (-2))) sh (D) := by
  refine Calls.of plX5 (Nat.le_of_ble_eq_true rfl) ?_
  show WP mX5_undo 0 0 0 0 [some (.inr (some (m))), none] [] sh (D) (some (.inl (-2))) sh (D)
  refine zw_aload_n dX5_undo_0 rfl ?_
  refine zw_getIv (j := 2) (kd := 5) (v := (nI (z))) dX5_undo_1 hm.i hm.k (by decide) (by decide) fl_X5_49 rfl hz ?_
  refine zw_if_ne_n (tgt := 10) dX5_undo_4 (by decide) (by omega) (fun c4 => by omega) (fun c4 => ?_)
  refine zw_bipush (v := (-2)) dX5_undo_7 (by decide) ?_
  exact zw_iretE dX5_undo_9 rfl (rfl) rfl (rfl)
set_option maxRecDepth 100000 in
set_option maxHeartbeats 4000000 in
theorem d_undo_ok {sh : Sh} {D : Mem} {m : Nat} (hm : IsMo sh m) {z : Nat} (hz : D m 2 = nI z) (hz5 : z ≤ 5) (hz0 : 0 < z) : Calls mX5_undo 0 0 0 [.inr (some (m))] sh (D) (some (.inl (nI (z - 1)))) sh (unD D m z) := by
  refine Calls.of plX5 (Nat.le_of_ble_eq_true rfl) ?_
  show WP mX5_undo 0 0 0 0 [some (.inr (some (m))), none] [] sh (D) (some (.inl (nI (z - 1)))) sh (unD D m z)
  refine zw_aload_n dX5_undo_0 rfl ?_
  refine zw_getIv (j := 2) (kd := 5) (v := (nI (z))) dX5_undo_1 hm.i hm.k (by decide) (by decide) fl_X5_49 rfl hz ?_
  refine zw_if_ne_n (tgt := 10) dX5_undo_4 (by decide) (by omega) (fun c4 => ?_) (fun c4 => by omega)
  refine zw_aload_n dX5_undo_10 rfl ?_
  refine zw_dup dX5_undo_11 ?_
  refine zw_getIv (j := 2) (kd := 5) (v := (nI (z))) dX5_undo_12 hm.i hm.k (by decide) (by decide) fl_X5_49 rfl hz ?_
  refine zw_iconst (v := nI 1) dX5_undo_15 (by decide) ?_
  refine zw_isubn dX5_undo_16 (by omega) ?_
  refine zw_putI (j := 2) (kd := 5) dX5_undo_17 hm.i hm.k (by decide) (by decide) fl_X5_49 rfl rfl rfl ?_
  refine zw_iconst (v := nI 0) dX5_undo_20 (by decide) ?_
  refine zw_istore_n dX5_undo_21 (by decide) ?_
  refine zw_mem (C2 := fcO (up D m 2 (nI (z - 1))) (m + 1) 0 (fun k => D (m + 2) (1724 * (z - 1) + k)) 0) fcO_0.symm ?_
  have L22 : ∀ (n_22 k : Nat), k + n_22 = 1724 → WP mX5_undo 0 0 0 22 [some (.inr (some (m))), some (.inl (nI (k)))] [] sh (fcO (up D m 2 (nI (z - 1))) (m + 1) 0 (fun k => D (m + 2) (1724 * (z - 1) + k)) (k)) (some (.inl (nI (z - 1)))) sh (unD D m z) := by
    intro n_22
    induction n_22 with
    | zero =>
      intro k hk22
      have ek22 : 1724 = k := by omega
      subst ek22
      refine zw_iload_n dX5_undo_22 rfl ?_
      refine zw_sipush (v := nI 1724) dX5_undo_23 (by decide) ?_
      refine zw_icmp_ge_n (tgt := 56) dX5_undo_26 (by decide) (by omega) (by omega) (fun c26 => ?_) (fun c26 => by omega)
      refine zw_aload_n dX5_undo_56 rfl ?_
      refine zw_getIv (j := 2) (kd := 5) (v := (nI (z - 1))) dX5_undo_57 hm.i hm.k (by decide) (by decide) fl_X5_49 rfl (by rw [fcO_ne (by omega)]; exact up_eq) ?_
      exact zw_iretE dX5_undo_60 rfl (rfl) rfl (rfl)
    | succ n_22 ih22 =>
      intro k hk22
      have hlt22 : k < 1724 := by omega
      refine zw_iload_n dX5_undo_22 rfl ?_
      refine zw_sipush (v := nI 1724) dX5_undo_23 (by decide) ?_
      refine zw_icmp_ge_n (tgt := 56) dX5_undo_26 (by decide) (by omega) (by omega) (fun c26 => by omega) (fun c26 => ?_)
      refine zw_aload_n dX5_undo_29 rfl ?_
      refine zw_getR (j := 0) (kd := 5) dX5_undo_30 hm.i hm.k (by decide) (by decide) fl_X5_7 rfl hm.r0 ?_
      refine zw_iload_n dX5_undo_33 rfl ?_
      refine zw_aload_n dX5_undo_34 rfl ?_
      refine zw_getR (j := 1) (kd := 5) dX5_undo_35 hm.i hm.k (by decide) (by decide) fl_X5_13 rfl hm.r1 ?_
      refine zw_sipush (v := nI 1724) dX5_undo_38 (by decide) ?_
      refine zw_aload_n dX5_undo_41 rfl ?_
      refine zw_getIv (j := 2) (kd := 5) (v := (nI (z - 1))) dX5_undo_42 hm.i hm.k (by decide) (by decide) fl_X5_49 rfl (by rw [fcO_ne (by omega)]; exact up_eq) ?_
      refine zw_imuln dX5_undo_45 ?_
      refine zw_iload_n dX5_undo_46 rfl ?_
      refine zw_iaddn dX5_undo_47 ?_
      refine zw_iald dX5_undo_48 hm.i1 hm.k1 hm.L1 rfl (by rw [hm.n1]; omega) ?_
      refine zw_iast dX5_undo_49 hm.i0 hm.k0 hm.L0 rfl (by rw [hm.n0]; omega) ?_
      refine zw_iincn dX5_undo_50 rfl (by decide) ?_
      refine zw_goto (tgt := 22) dX5_undo_53 (by decide) ?_
      refine zw_mem (C2 := fcO (up D m 2 (nI (z - 1))) (m + 1) 0 (fun k => D (m + 2) (1724 * (z - 1) + k)) (k + 1)) (fcO_s0 (by rw [fcO_ne (by omega), up_ne (by omega)])) ?_
      exact WP.sub (ih22 (k + 1) (by omega)) ⟨rfl, rfl, trivial⟩
  exact WP.sub (L22 (1724) 0 (by omega)) ⟨rfl, rfl, trivial⟩
set_option maxRecDepth 100000 in
set_option maxHeartbeats 4000000 in
theorem d_append_bad {sh : Sh} {D : Mem} {m : Nat} (hm : IsMo sh m) (x : Int32) (hx : ¬ (nI 1 ≤ x ∧ x ≤ nI 255)) : Calls mX5_append 1 0 0 [.inr (some (m)), .inl (x)] sh (D) (some (.inl (-1))) sh (D) := by
  refine Calls.of plX5 (Nat.le_of_ble_eq_true rfl) ?_
  show WP mX5_append 1 0 0 0 [some (.inr (some (m))), some (.inl (x))] [] sh (D) (some (.inl (-1))) sh (D)
  refine zw_iload_n dX5_append_0 rfl ?_
  refine zw_iconst (v := nI 1) dX5_append_1 (by decide) ?_
  refine zw_sipush (v := nI 255) dX5_append_2 (by decide) ?_
  refine zw_cSi dX5_append_5 (c_X5_in _ _ _) rfl okX5_in ml_X5_31 (Nat.le_of_ble_eq_true rfl) (Nat.le_of_ble_eq_true rfl) ?_
  refine zw_if_ne_b (tgt := 13) dX5_append_8 (by decide) (fun c8 => absurd c8 hx) (fun c8 => ?_)
  refine zw_iconst (v := (-1)) dX5_append_11 (by decide) ?_
  exact zw_iretE dX5_append_12 rfl (rfl) rfl (rfl)
set_option maxRecDepth 100000 in
set_option maxHeartbeats 4000000 in
theorem d_append_full {sh : Sh} {D : Mem} {m : Nat} (hm : IsMo sh m) {len : Nat} (hlen : D m 5 = nI len) (h100 : len ≤ 100) (x : Int32) (hx : nI 1 ≤ x ∧ x ≤ nI 255) (hf : len = 100) : Calls mX5_append 1 0 0 [.inr (some (m)), .inl (x)] sh (D) (some (.inl (-3))) sh (D) := by
  refine Calls.of plX5 (Nat.le_of_ble_eq_true rfl) ?_
  show WP mX5_append 1 0 0 0 [some (.inr (some (m))), some (.inl (x))] [] sh (D) (some (.inl (-3))) sh (D)
  refine zw_iload_n dX5_append_0 rfl ?_
  refine zw_iconst (v := nI 1) dX5_append_1 (by decide) ?_
  refine zw_sipush (v := nI 255) dX5_append_2 (by decide) ?_
  refine zw_cSi dX5_append_5 (c_X5_in _ _ _) rfl okX5_in ml_X5_31 (Nat.le_of_ble_eq_true rfl) (Nat.le_of_ble_eq_true rfl) ?_
  refine zw_if_ne_b (tgt := 13) dX5_append_8 (by decide) (fun c8 => ?_) (fun c8 => absurd hx c8)
  refine zw_aload_n dX5_append_13 rfl ?_
  refine zw_getIv (j := 5) (kd := 5) (v := (nI (len))) dX5_append_14 hm.i hm.k (by decide) (by decide) fl_X5_135 rfl hlen ?_
  refine zw_bipush (v := nI 100) dX5_append_17 (by decide) ?_
  refine zw_icmp_ne_n (tgt := 25) dX5_append_19 (by decide) (by omega) (by omega) (fun c19 => by omega) (fun c19 => ?_)
  refine zw_bipush (v := (-3)) dX5_append_22 (by decide) ?_
  exact zw_iretE dX5_append_24 rfl (rfl) rfl (rfl)
set_option maxRecDepth 100000 in
set_option maxHeartbeats 4000000 in
theorem d_append_ok {sh : Sh} {D : Mem} {m : Nat} (hm : IsMo sh m) {len : Nat} (hlen : D m 5 = nI len) (h100 : len ≤ 100) (x : Int32) (hx : nI 1 ≤ x ∧ x ≤ nI 255) (hf : len < 100) : Calls mX5_append 1 0 0 [.inr (some (m)), .inl (x)] sh (D) (some (.inl (nI (len + 1)))) sh (up (up D (m + 4) len x) m 5 (nI (len + 1))) := by
  refine Calls.of plX5 (Nat.le_of_ble_eq_true rfl) ?_
  show WP mX5_append 1 0 0 0 [some (.inr (some (m))), some (.inl (x))] [] sh (D) (some (.inl (nI (len + 1)))) sh (up (up D (m + 4) len x) m 5 (nI (len + 1)))
  refine zw_iload_n dX5_append_0 rfl ?_
  refine zw_iconst (v := nI 1) dX5_append_1 (by decide) ?_
  refine zw_sipush (v := nI 255) dX5_append_2 (by decide) ?_
  refine zw_cSi dX5_append_5 (c_X5_in _ _ _) rfl okX5_in ml_X5_31 (Nat.le_of_ble_eq_true rfl) (Nat.le_of_ble_eq_true rfl) ?_
  refine zw_if_ne_b (tgt := 13) dX5_append_8 (by decide) (fun c8 => ?_) (fun c8 => absurd hx c8)
  refine zw_aload_n dX5_append_13 rfl ?_
  refine zw_getIv (j := 5) (kd := 5) (v := (nI (len))) dX5_append_14 hm.i hm.k (by decide) (by decide) fl_X5_135 rfl hlen ?_
  refine zw_bipush (v := nI 100) dX5_append_17 (by decide) ?_
  refine zw_icmp_ne_n (tgt := 25) dX5_append_19 (by decide) (by omega) (by omega) (fun c19 => ?_) (fun c19 => by omega)
  refine zw_aload_n dX5_append_25 rfl ?_
  refine zw_getR (j := 4) (kd := 5) dX5_append_26 hm.i hm.k (by decide) (by decide) fl_X5_19 rfl hm.r4 ?_
  refine zw_aload_n dX5_append_29 rfl ?_
  refine zw_getIv (j := 5) (kd := 5) (v := (nI (len))) dX5_append_30 hm.i hm.k (by decide) (by decide) fl_X5_135 rfl hlen ?_
  refine zw_iload_n dX5_append_33 rfl ?_
  refine zw_iast dX5_append_34 hm.i4 hm.k4 hm.L4 rfl (by rw [hm.n4]; omega) ?_
  refine zw_aload_n dX5_append_35 rfl ?_
  refine zw_dup dX5_append_36 ?_
  refine zw_getIv (j := 5) (kd := 5) (v := (nI (len))) dX5_append_37 hm.i hm.k (by decide) (by decide) fl_X5_135 rfl (by rw [up_ne (by omega)]; exact hlen) ?_
  refine zw_iconst (v := nI 1) dX5_append_40 (by decide) ?_
  refine zw_iaddn dX5_append_41 ?_
  refine zw_putI (j := 5) (kd := 5) dX5_append_42 hm.i hm.k (by decide) (by decide) fl_X5_135 rfl rfl rfl ?_
  refine zw_aload_n dX5_append_45 rfl ?_
  refine zw_getIv (j := 5) (kd := 5) (v := (nI (len + 1))) dX5_append_46 hm.i hm.k (by decide) (by decide) fl_X5_135 rfl up_eq ?_
  exact zw_iretE dX5_append_49 rfl (rfl) rfl (rfl)
set_option maxRecDepth 100000 in
set_option maxHeartbeats 4000000 in
theorem d_clearText {sh : Sh} {D : Mem} {m : Nat} (hm : IsMo sh m) {len : Nat} (hlen : D m 5 = nI len) (h100 : len ≤ 100)  : Calls mX5_clearText 0 0 0 [.inr (some (m))] sh (D) (some (.inl (nI len))) sh (up D m 5 (nI 0)) := by
  refine Calls.of plX5 (Nat.le_of_ble_eq_true rfl) ?_
  show WP mX5_clearText 0 0 0 0 [some (.inr (some (m))), none] [] sh (D) (some (.inl (nI len))) sh (up D m 5 (nI 0))
  refine zw_aload_n dX5_clearText_0 rfl ?_
  refine zw_getIv (j := 5) (kd := 5) (v := (nI (len))) dX5_clearText_1 hm.i hm.k (by decide) (by decide) fl_X5_135 rfl hlen ?_
  refine zw_istore_n dX5_clearText_4 (by decide) ?_
  refine zw_aload_n dX5_clearText_5 rfl ?_
  refine zw_iconst (v := nI 0) dX5_clearText_6 (by decide) ?_
  refine zw_putI (j := 5) (kd := 5) dX5_clearText_7 hm.i hm.k (by decide) (by decide) fl_X5_135 rfl rfl rfl ?_
  refine zw_iload_n dX5_clearText_10 rfl ?_
  exact zw_iretE dX5_clearText_11 rfl (rfl) rfl (rfl)
def fbD (D : Mem) (m : Nat) (x0 x1 x2 x3 x4 : Int32) : Mem := up (up (up (up (up (up D m 10 (nI 1)) (m + 6) 0 x0) (m + 6) 1 x1) (m + 6) 2 x2) (m + 6) 3 x3) (m + 6) 4 x4
set_option maxRecDepth 100000 in
set_option maxHeartbeats 4000000 in
theorem c_X5_failedBy {sh : Sh} {D : Mem} {m : Nat} (hm : IsMo sh m) (x0 x1 x2 x3 x4 : Int32) : Calls mX5_failedBy 0 0 0 [.inr (some (m)), .inl (x0), .inl (x1), .inl (x2), .inl (x3), .inl (x4)] sh (D) (none) sh (fbD D m x0 x1 x2 x3 x4) := by
  refine Calls.of plX5 (Nat.le_of_ble_eq_true rfl) ?_
  show WP mX5_failedBy 0 0 0 0 [some (.inr (some (m))), some (.inl (x0)), some (.inl (x1)), some (.inl (x2)), some (.inl (x3)), some (.inl (x4))] [] sh (D) (none) sh (fbD D m x0 x1 x2 x3 x4)
  refine zw_aload_n dX5_failedBy_0 rfl ?_
  refine zw_iconst (v := nI 1) dX5_failedBy_1 (by decide) ?_
  refine zw_putZ (j := 10) (kd := 5) dX5_failedBy_2 hm.i hm.k (by decide) (by decide) fl_X5_129 rfl rfl rfl (Or.inr rfl) ?_
  refine zw_aload_n dX5_failedBy_5 rfl ?_
  refine zw_getR (j := 11) (kd := 5) dX5_failedBy_6 hm.i hm.k (by decide) (by decide) fl_X5_25 rfl hm.r11 ?_
  refine zw_iconst (v := nI 0) dX5_failedBy_9 (by decide) ?_
  refine zw_iload_n dX5_failedBy_10 rfl ?_
  refine zw_iast dX5_failedBy_11 hm.i11 hm.k11 hm.L11 rfl (by rw [hm.n11]; omega) ?_
  refine zw_aload_n dX5_failedBy_12 rfl ?_
  refine zw_getR (j := 11) (kd := 5) dX5_failedBy_13 hm.i hm.k (by decide) (by decide) fl_X5_25 rfl hm.r11 ?_
  refine zw_iconst (v := nI 1) dX5_failedBy_16 (by decide) ?_
  refine zw_iload_n dX5_failedBy_17 rfl ?_
  refine zw_iast dX5_failedBy_18 hm.i11 hm.k11 hm.L11 rfl (by rw [hm.n11]; omega) ?_
  refine zw_aload_n dX5_failedBy_19 rfl ?_
  refine zw_getR (j := 11) (kd := 5) dX5_failedBy_20 hm.i hm.k (by decide) (by decide) fl_X5_25 rfl hm.r11 ?_
  refine zw_iconst (v := nI 2) dX5_failedBy_23 (by decide) ?_
  refine zw_iload_n dX5_failedBy_24 rfl ?_
  refine zw_iast dX5_failedBy_25 hm.i11 hm.k11 hm.L11 rfl (by rw [hm.n11]; omega) ?_
  refine zw_aload_n dX5_failedBy_26 rfl ?_
  refine zw_getR (j := 11) (kd := 5) dX5_failedBy_27 hm.i hm.k (by decide) (by decide) fl_X5_25 rfl hm.r11 ?_
  refine zw_iconst (v := nI 3) dX5_failedBy_30 (by decide) ?_
  refine zw_iload dX5_failedBy_31 rfl ?_
  refine zw_iast dX5_failedBy_33 hm.i11 hm.k11 hm.L11 rfl (by rw [hm.n11]; omega) ?_
  refine zw_aload_n dX5_failedBy_34 rfl ?_
  refine zw_getR (j := 11) (kd := 5) dX5_failedBy_35 hm.i hm.k (by decide) (by decide) fl_X5_25 rfl hm.r11 ?_
  refine zw_iconst (v := nI 4) dX5_failedBy_38 (by decide) ?_
  refine zw_iload dX5_failedBy_39 rfl ?_
  refine zw_iast dX5_failedBy_41 hm.i11 hm.k11 hm.L11 rfl (by rw [hm.n11]; omega) ?_
  exact zw_vretE dX5_failedBy_42 rfl rfl rfl (rfl)
set_option maxRecDepth 100000 in
set_option maxHeartbeats 4000000 in
theorem d_failure_bad {sh : Sh} {D : Mem} {m : Nat} (hm : IsMo sh m) (x : Int32) (hx : ¬ (nI 0 ≤ x ∧ x ≤ nI 4)) : Calls mX5_failure 1 0 0 [.inr (some (m)), .inl (x)] sh (D) (some (.inl (-1))) sh (D) := by
  refine Calls.of plX5 (Nat.le_of_ble_eq_true rfl) ?_
  show WP mX5_failure 1 0 0 0 [some (.inr (some (m))), some (.inl (x))] [] sh (D) (some (.inl (-1))) sh (D)
  refine zw_iload_n dX5_failure_0 rfl ?_
  refine zw_iconst (v := nI 0) dX5_failure_1 (by decide) ?_
  refine zw_iconst (v := nI 4) dX5_failure_2 (by decide) ?_
  refine zw_cSi dX5_failure_3 (c_X5_in _ _ _) rfl okX5_in ml_X5_31 (Nat.le_of_ble_eq_true rfl) (Nat.le_of_ble_eq_true rfl) ?_
  refine zw_if_ne_b (tgt := 11) dX5_failure_6 (by decide) (fun c6 => absurd c6 hx) (fun c6 => ?_)
  refine zw_iconst (v := (-1)) dX5_failure_9 (by decide) ?_
  exact zw_iretE dX5_failure_10 rfl (rfl) rfl (rfl)
set_option maxRecDepth 100000 in
set_option maxHeartbeats 4000000 in
theorem d_failure_none {sh : Sh} {D : Mem} {m : Nat} (hm : IsMo sh m) {i : Nat} (hi : i < 5) (hf : D m 10 = 0) : Calls mX5_failure 1 0 0 [.inr (some (m)), .inl (nI (i))] sh (D) (some (.inl (-9))) sh (D) := by
  refine Calls.of plX5 (Nat.le_of_ble_eq_true rfl) ?_
  show WP mX5_failure 1 0 0 0 [some (.inr (some (m))), some (.inl (nI (i)))] [] sh (D) (some (.inl (-9))) sh (D)
  refine zw_iload_n dX5_failure_0 rfl ?_
  refine zw_iconst (v := nI 0) dX5_failure_1 (by decide) ?_
  refine zw_iconst (v := nI 4) dX5_failure_2 (by decide) ?_
  refine zw_cSi dX5_failure_3 (c_X5_in _ _ _) rfl okX5_in ml_X5_31 (Nat.le_of_ble_eq_true rfl) (Nat.le_of_ble_eq_true rfl) ?_
  refine zw_if_ne_b (tgt := 11) dX5_failure_6 (by decide) (fun c6 => ?_) (fun c6 => absurd (And.intro (nI_le (Nat.zero_le _) (by omega)) (nI_le (by omega) (by decide))) c6)
  refine zw_aload_n dX5_failure_11 rfl ?_
  refine zw_getI (j := 10) (kd := 5) dX5_failure_12 hm.i hm.k (by decide) (by decide) fl_X5_129 rfl ?_
  refine zw_if_eq (tgt := 27) dX5_failure_15 (by decide) (fun c15 => ?_) (fun c15 => absurd hf c15)
  refine zw_bipush (v := (-9)) dX5_failure_27 (by decide) ?_
  exact zw_iretE dX5_failure_29 rfl (rfl) rfl (rfl)
set_option maxRecDepth 100000 in
set_option maxHeartbeats 4000000 in
theorem d_failure_ok {sh : Sh} {D : Mem} {m : Nat} (hm : IsMo sh m) {i : Nat} (hi : i < 5) (hf : ¬ D m 10 = 0) : Calls mX5_failure 1 0 0 [.inr (some (m)), .inl (nI (i))] sh (D) (some (.inl (D (m + 6) i))) sh (D) := by
  refine Calls.of plX5 (Nat.le_of_ble_eq_true rfl) ?_
  show WP mX5_failure 1 0 0 0 [some (.inr (some (m))), some (.inl (nI (i)))] [] sh (D) (some (.inl (D (m + 6) i))) sh (D)
  refine zw_iload_n dX5_failure_0 rfl ?_
  refine zw_iconst (v := nI 0) dX5_failure_1 (by decide) ?_
  refine zw_iconst (v := nI 4) dX5_failure_2 (by decide) ?_
  refine zw_cSi dX5_failure_3 (c_X5_in _ _ _) rfl okX5_in ml_X5_31 (Nat.le_of_ble_eq_true rfl) (Nat.le_of_ble_eq_true rfl) ?_
  refine zw_if_ne_b (tgt := 11) dX5_failure_6 (by decide) (fun c6 => ?_) (fun c6 => absurd (And.intro (nI_le (Nat.zero_le _) (by omega)) (nI_le (by omega) (by decide))) c6)
  refine zw_aload_n dX5_failure_11 rfl ?_
  refine zw_getI (j := 10) (kd := 5) dX5_failure_12 hm.i hm.k (by decide) (by decide) fl_X5_129 rfl ?_
  refine zw_if_eq (tgt := 27) dX5_failure_15 (by decide) (fun c15 => absurd c15 hf) (fun c15 => ?_)
  refine zw_aload_n dX5_failure_18 rfl ?_
  refine zw_getR (j := 11) (kd := 5) dX5_failure_19 hm.i hm.k (by decide) (by decide) fl_X5_25 rfl hm.r11 ?_
  refine zw_iload_n dX5_failure_22 rfl ?_
  refine zw_iald dX5_failure_23 hm.i11 hm.k11 hm.L11 rfl (by rw [hm.n11]; omega) ?_
  refine zw_goto (tgt := 29) dX5_failure_24 (by decide) ?_
  exact zw_iretE dX5_failure_29 rfl (rfl) rfl (rfl)
set_option maxRecDepth 100000 in
set_option maxHeartbeats 4000000 in
theorem c_X5_money {sh : Sh} {D : Mem} {m P : Nat} (hm : IsMo sh m) (hw : Wm D m P)  : Calls mX5_money 1 0 0 [.inr (some (m))] sh (D) (some (.inl (sm2 (D (m + 1) 4 + D (m + 1) 5 + D (m + 1) 6 + D (m + 1) 7) (fun p => D (m + 1) (8 + 7 * p + 0)) P))) sh (D) := by
  refine Calls.of plX5 (Nat.le_of_ble_eq_true rfl) ?_
  have hP12 := hw.2.1
  show WP mX5_money 1 0 0 0 [some (.inr (some (m))), none, none] [] sh (D) (some (.inl (sm2 (D (m + 1) 4 + D (m + 1) 5 + D (m + 1) 6 + D (m + 1) 7) (fun p => D (m + 1) (8 + 7 * p + 0)) P))) sh (D)
  refine zw_aload_n dX5_money_0 rfl ?_
  refine zw_getR (j := 0) (kd := 5) dX5_money_1 hm.i hm.k (by decide) (by decide) fl_X5_7 rfl hm.r0 ?_
  refine zw_iconst (v := nI 4) dX5_money_4 (by decide) ?_
  refine zw_iald dX5_money_5 hm.i0 hm.k0 hm.L0 rfl (by rw [hm.n0]; omega) ?_
  refine zw_aload_n dX5_money_6 rfl ?_
  refine zw_getR (j := 0) (kd := 5) dX5_money_7 hm.i hm.k (by decide) (by decide) fl_X5_7 rfl hm.r0 ?_
  refine zw_iconst (v := nI 5) dX5_money_10 (by decide) ?_
  refine zw_iald dX5_money_11 hm.i0 hm.k0 hm.L0 rfl (by rw [hm.n0]; omega) ?_
  refine zw_iadd dX5_money_12 ?_
  refine zw_aload_n dX5_money_13 rfl ?_
  refine zw_getR (j := 0) (kd := 5) dX5_money_14 hm.i hm.k (by decide) (by decide) fl_X5_7 rfl hm.r0 ?_
  refine zw_bipush (v := nI 6) dX5_money_17 (by decide) ?_
  refine zw_iald dX5_money_19 hm.i0 hm.k0 hm.L0 rfl (by rw [hm.n0]; omega) ?_
  refine zw_iadd dX5_money_20 ?_
  refine zw_aload_n dX5_money_21 rfl ?_
  refine zw_getR (j := 0) (kd := 5) dX5_money_22 hm.i hm.k (by decide) (by decide) fl_X5_7 rfl hm.r0 ?_
  refine zw_bipush (v := nI 7) dX5_money_25 (by decide) ?_
  refine zw_iald dX5_money_27 hm.i0 hm.k0 hm.L0 rfl (by rw [hm.n0]; omega) ?_
  refine zw_iadd dX5_money_28 ?_
  refine zw_istore_n dX5_money_29 (by decide) ?_
  refine zw_iconst (v := nI 0) dX5_money_30 (by decide) ?_
  refine zw_istore_n dX5_money_31 (by decide) ?_
  have L32 : ∀ (n_32 k : Nat), k + n_32 = P → WP mX5_money 1 0 0 32 [some (.inr (some (m))), some (.inl (sm2 (D (m + 1) 4 + D (m + 1) 5 + D (m + 1) 6 + D (m + 1) 7) (fun p => D (m + 1) (8 + 7 * p + 0)) (k))), some (.inl (nI (k)))] [] sh (D) (some (.inl (sm2 (D (m + 1) 4 + D (m + 1) 5 + D (m + 1) 6 + D (m + 1) 7) (fun p => D (m + 1) (8 + 7 * p + 0)) P))) sh (D) := by
    intro n_32
    induction n_32 with
    | zero =>
      intro k hk32
      have ek32 : P = k := by omega
      subst ek32
      refine zw_iload_n dX5_money_32 rfl ?_
      refine zw_aload_n dX5_money_33 rfl ?_
      refine zw_getR (j := 0) (kd := 5) dX5_money_34 hm.i hm.k (by decide) (by decide) fl_X5_7 rfl hm.r0 ?_
      refine zw_iconst (v := nI 1) dX5_money_37 (by decide) ?_
      refine zw_ialdv (v := (nI (P))) dX5_money_38 hm.i0 hm.k0 hm.L0 rfl (by rw [hm.n0]; omega) hw.1 ?_
      refine zw_icmp_ge_n (tgt := 57) dX5_money_39 (by decide) (by omega) (by omega) (fun c39 => ?_) (fun c39 => by omega)
      refine zw_iload_n dX5_money_57 rfl ?_
      exact zw_iretE dX5_money_58 rfl (rfl) rfl (rfl)
    | succ n_32 ih32 =>
      intro k hk32
      have hlt32 : k < P := by omega
      refine zw_iload_n dX5_money_32 rfl ?_
      refine zw_aload_n dX5_money_33 rfl ?_
      refine zw_getR (j := 0) (kd := 5) dX5_money_34 hm.i hm.k (by decide) (by decide) fl_X5_7 rfl hm.r0 ?_
      refine zw_iconst (v := nI 1) dX5_money_37 (by decide) ?_
      refine zw_ialdv (v := (nI (P))) dX5_money_38 hm.i0 hm.k0 hm.L0 rfl (by rw [hm.n0]; omega) hw.1 ?_
      refine zw_icmp_ge_n (tgt := 57) dX5_money_39 (by decide) (by omega) (by omega) (fun c39 => by omega) (fun c39 => ?_)
      refine zw_iload_n dX5_money_42 rfl ?_
      refine zw_aload_n dX5_money_43 rfl ?_
      refine zw_iload_n dX5_money_44 rfl ?_
      refine zw_iconst (v := nI 0) dX5_money_45 (by decide) ?_
      refine zw_cVi dX5_money_46 (c_X5_of hm (by omega) (by omega)) rfl okX5_of ml_X5_43 hm.i hm.k (by decide) rfl (Nat.le_of_ble_eq_true rfl) (Nat.le_of_ble_eq_true rfl) ?_
      refine zw_iadd dX5_money_49 ?_
      refine zw_istore_n dX5_money_50 (by decide) ?_
      refine zw_iincn dX5_money_51 rfl (by decide) ?_
      refine zw_goto (tgt := 32) dX5_money_54 (by decide) ?_
      exact WP.sub (ih32 (k + 1) (by omega)) ⟨rfl, rfl, rfl, trivial⟩
  exact WP.sub (L32 (P) 0 (by omega)) ⟨rfl, rfl, rfl, trivial⟩
set_option maxRecDepth 100000 in
set_option maxHeartbeats 4000000 in
theorem c_X5_debts {sh : Sh} {D : Mem} {m P : Nat} (hm : IsMo sh m) (hw : Wm D m P)  : Calls mX5_debts 1 0 0 [.inr (some (m))] sh (D) (some (.inl (sm (fun p => D (m + 1) (8 + 7 * p + 1)) P))) sh (D) := by
  refine Calls.of plX5 (Nat.le_of_ble_eq_true rfl) ?_
  have hP12 := hw.2.1
  show WP mX5_debts 1 0 0 0 [some (.inr (some (m))), none, none] [] sh (D) (some (.inl (sm (fun p => D (m + 1) (8 + 7 * p + 1)) P))) sh (D)
  refine zw_iconst (v := nI 0) dX5_debts_0 (by decide) ?_
  refine zw_istore_n dX5_debts_1 (by decide) ?_
  refine zw_iconst (v := nI 0) dX5_debts_2 (by decide) ?_
  refine zw_istore_n dX5_debts_3 (by decide) ?_
  have L4 : ∀ (n_4 k : Nat), k + n_4 = P → WP mX5_debts 1 0 0 4 [some (.inr (some (m))), some (.inl (sm (fun p => D (m + 1) (8 + 7 * p + 1)) (k))), some (.inl (nI (k)))] [] sh (D) (some (.inl (sm (fun p => D (m + 1) (8 + 7 * p + 1)) P))) sh (D) := by
    intro n_4
    induction n_4 with
    | zero =>
      intro k hk4
      have ek4 : P = k := by omega
      subst ek4
      refine zw_iload_n dX5_debts_4 rfl ?_
      refine zw_aload_n dX5_debts_5 rfl ?_
      refine zw_getR (j := 0) (kd := 5) dX5_debts_6 hm.i hm.k (by decide) (by decide) fl_X5_7 rfl hm.r0 ?_
      refine zw_iconst (v := nI 1) dX5_debts_9 (by decide) ?_
      refine zw_ialdv (v := (nI (P))) dX5_debts_10 hm.i0 hm.k0 hm.L0 rfl (by rw [hm.n0]; omega) hw.1 ?_
      refine zw_icmp_ge_n (tgt := 29) dX5_debts_11 (by decide) (by omega) (by omega) (fun c11 => ?_) (fun c11 => by omega)
      refine zw_iload_n dX5_debts_29 rfl ?_
      exact zw_iretE dX5_debts_30 rfl (rfl) rfl (rfl)
    | succ n_4 ih4 =>
      intro k hk4
      have hlt4 : k < P := by omega
      refine zw_iload_n dX5_debts_4 rfl ?_
      refine zw_aload_n dX5_debts_5 rfl ?_
      refine zw_getR (j := 0) (kd := 5) dX5_debts_6 hm.i hm.k (by decide) (by decide) fl_X5_7 rfl hm.r0 ?_
      refine zw_iconst (v := nI 1) dX5_debts_9 (by decide) ?_
      refine zw_ialdv (v := (nI (P))) dX5_debts_10 hm.i0 hm.k0 hm.L0 rfl (by rw [hm.n0]; omega) hw.1 ?_
      refine zw_icmp_ge_n (tgt := 29) dX5_debts_11 (by decide) (by omega) (by omega) (fun c11 => by omega) (fun c11 => ?_)
      refine zw_iload_n dX5_debts_14 rfl ?_
      refine zw_aload_n dX5_debts_15 rfl ?_
      refine zw_iload_n dX5_debts_16 rfl ?_
      refine zw_iconst (v := nI 1) dX5_debts_17 (by decide) ?_
      refine zw_cVi dX5_debts_18 (c_X5_of hm (by omega) (by omega)) rfl okX5_of ml_X5_43 hm.i hm.k (by decide) rfl (Nat.le_of_ble_eq_true rfl) (Nat.le_of_ble_eq_true rfl) ?_
      refine zw_iadd dX5_debts_21 ?_
      refine zw_istore_n dX5_debts_22 (by decide) ?_
      refine zw_iincn dX5_debts_23 rfl (by decide) ?_
      refine zw_goto (tgt := 4) dX5_debts_26 (by decide) ?_
      exact WP.sub (ih4 (k + 1) (by omega)) ⟨rfl, rfl, rfl, trivial⟩
  exact WP.sub (L4 (P) 0 (by omega)) ⟨rfl, rfl, rfl, trivial⟩
set_option maxRecDepth 100000 in
set_option maxHeartbeats 4000000 in
theorem c_X5_allBids {sh : Sh} {D : Mem} {m P : Nat} (hm : IsMo sh m) (hw : Wm D m P)  : Calls mX5_allBids 2 0 0 [.inr (some (m))] sh (D) (some (.inl (sm (fun p => sm (fun s => p01 (dm D m p s)) 96) P))) sh (D) := by
  refine Calls.of plX5 (Nat.le_of_ble_eq_true rfl) ?_
  have hP12 := hw.2.1
  show WP mX5_allBids 2 0 0 0 [some (.inr (some (m))), none, none] [] sh (D) (some (.inl (sm (fun p => sm (fun s => p01 (dm D m p s)) 96) P))) sh (D)
  refine zw_iconst (v := nI 0) dX5_allBids_0 (by decide) ?_
  refine zw_istore_n dX5_allBids_1 (by decide) ?_
  refine zw_iconst (v := nI 0) dX5_allBids_2 (by decide) ?_
  refine zw_istore_n dX5_allBids_3 (by decide) ?_
  have L4 : ∀ (n_4 k : Nat), k + n_4 = P → WP mX5_allBids 2 0 0 4 [some (.inr (some (m))), some (.inl (sm (fun p => sm (fun s => p01 (dm D m p s)) 96) (k))), some (.inl (nI (k)))] [] sh (D) (some (.inl (sm (fun p => sm (fun s => p01 (dm D m p s)) 96) P))) sh (D) := by
    intro n_4
    induction n_4 with
    | zero =>
      intro k hk4
      have ek4 : P = k := by omega
      subst ek4
      refine zw_iload_n dX5_allBids_4 rfl ?_
      refine zw_aload_n dX5_allBids_5 rfl ?_
      refine zw_getR (j := 0) (kd := 5) dX5_allBids_6 hm.i hm.k (by decide) (by decide) fl_X5_7 rfl hm.r0 ?_
      refine zw_iconst (v := nI 1) dX5_allBids_9 (by decide) ?_
      refine zw_ialdv (v := (nI (P))) dX5_allBids_10 hm.i0 hm.k0 hm.L0 rfl (by rw [hm.n0]; omega) hw.1 ?_
      refine zw_icmp_ge_n (tgt := 28) dX5_allBids_11 (by decide) (by omega) (by omega) (fun c11 => ?_) (fun c11 => by omega)
      refine zw_iload_n dX5_allBids_28 rfl ?_
      exact zw_iretE dX5_allBids_29 rfl (rfl) rfl (rfl)
    | succ n_4 ih4 =>
      intro k hk4
      have hlt4 : k < P := by omega
      refine zw_iload_n dX5_allBids_4 rfl ?_
      refine zw_aload_n dX5_allBids_5 rfl ?_
      refine zw_getR (j := 0) (kd := 5) dX5_allBids_6 hm.i hm.k (by decide) (by decide) fl_X5_7 rfl hm.r0 ?_
      refine zw_iconst (v := nI 1) dX5_allBids_9 (by decide) ?_
      refine zw_ialdv (v := (nI (P))) dX5_allBids_10 hm.i0 hm.k0 hm.L0 rfl (by rw [hm.n0]; omega) hw.1 ?_
      refine zw_icmp_ge_n (tgt := 28) dX5_allBids_11 (by decide) (by omega) (by omega) (fun c11 => by omega) (fun c11 => ?_)
      refine zw_iload_n dX5_allBids_14 rfl ?_
      refine zw_aload_n dX5_allBids_15 rfl ?_
      refine zw_iload_n dX5_allBids_16 rfl ?_
      refine zw_cVi dX5_allBids_17 (c_X5_bidsBy hm (by omega)) rfl okX5_bidsBy ml_X5_162 hm.i hm.k (by decide) rfl (Nat.le_of_ble_eq_true rfl) (Nat.le_of_ble_eq_true rfl) ?_
      refine zw_iadd dX5_allBids_20 ?_
      refine zw_istore_n dX5_allBids_21 (by decide) ?_
      refine zw_iincn dX5_allBids_22 rfl (by decide) ?_
      refine zw_goto (tgt := 4) dX5_allBids_25 (by decide) ?_
      exact WP.sub (ih4 (k + 1) (by omega)) ⟨rfl, rfl, rfl, trivial⟩
  exact WP.sub (L4 (P) 0 (by omega)) ⟨rfl, rfl, rfl, trivial⟩
set_option maxRecDepth 100000 in
set_option maxHeartbeats 4000000 in
theorem d_count_0 {sh : Sh} {D : Mem} {m P : Nat} (hm : IsMo sh m) (hw : Wm D m P)  : Calls mX5_count 3 0 0 [.inr (some (m)), .inl (nI (0))] sh (D) (some (.inl (D (m + 1) 0))) sh (D) := by
  refine Calls.of plX5 (Nat.le_of_ble_eq_true rfl) ?_
  have hP12 := hw.2.1
  show WP mX5_count 3 0 0 0 [some (.inr (some (m))), some (.inl (nI (0)))] [] sh (D) (some (.inl (D (m + 1) 0))) sh (D)
  refine zw_iload_n dX5_count_0 rfl ?_
  refine zw_tswIn (tgt := 56) (off := 55) dX5_count_1 (by decide) (by decide) (by decide) (by decide) ?_
  refine zw_aload_n dX5_count_56 rfl ?_
  refine zw_getR (j := 0) (kd := 5) dX5_count_57 hm.i hm.k (by decide) (by decide) fl_X5_7 rfl hm.r0 ?_
  refine zw_iconst (v := nI 0) dX5_count_60 (by decide) ?_
  refine zw_iald dX5_count_61 hm.i0 hm.k0 hm.L0 rfl (by rw [hm.n0]; omega) ?_
  exact zw_iretE dX5_count_62 rfl (rfl) rfl (rfl)
set_option maxRecDepth 100000 in
set_option maxHeartbeats 4000000 in
theorem d_count_1 {sh : Sh} {D : Mem} {m P : Nat} (hm : IsMo sh m) (hw : Wm D m P)  : Calls mX5_count 3 0 0 [.inr (some (m)), .inl (nI (1))] sh (D) (some (.inl (nI P))) sh (D) := by
  refine Calls.of plX5 (Nat.le_of_ble_eq_true rfl) ?_
  have hP12 := hw.2.1
  show WP mX5_count 3 0 0 0 [some (.inr (some (m))), some (.inl (nI (1)))] [] sh (D) (some (.inl (nI P))) sh (D)
  refine zw_iload_n dX5_count_0 rfl ?_
  refine zw_tswIn (tgt := 63) (off := 62) dX5_count_1 (by decide) (by decide) (by decide) (by decide) ?_
  refine zw_aload_n dX5_count_63 rfl ?_
  refine zw_getR (j := 0) (kd := 5) dX5_count_64 hm.i hm.k (by decide) (by decide) fl_X5_7 rfl hm.r0 ?_
  refine zw_iconst (v := nI 1) dX5_count_67 (by decide) ?_
  refine zw_ialdv (v := (nI (P))) dX5_count_68 hm.i0 hm.k0 hm.L0 rfl (by rw [hm.n0]; omega) hw.1 ?_
  exact zw_iretE dX5_count_69 rfl (rfl) rfl (rfl)
set_option maxRecDepth 100000 in
set_option maxHeartbeats 4000000 in
theorem d_count_2 {sh : Sh} {D : Mem} {m P : Nat} (hm : IsMo sh m) (hw : Wm D m P)  : Calls mX5_count 3 0 0 [.inr (some (m)), .inl (nI (2))] sh (D) (some (.inl (sm (fun p => sm (fun s => p01 (dm D m p s)) 96) P))) sh (D) := by
  refine Calls.of plX5 (Nat.le_of_ble_eq_true rfl) ?_
  have hP12 := hw.2.1
  show WP mX5_count 3 0 0 0 [some (.inr (some (m))), some (.inl (nI (2)))] [] sh (D) (some (.inl (sm (fun p => sm (fun s => p01 (dm D m p s)) 96) P))) sh (D)
  refine zw_iload_n dX5_count_0 rfl ?_
  refine zw_tswIn (tgt := 70) (off := 69) dX5_count_1 (by decide) (by decide) (by decide) (by decide) ?_
  refine zw_aload_n dX5_count_70 rfl ?_
  refine zw_cVi dX5_count_71 (c_X5_allBids hm hw) rfl okX5_allBids ml_X5_165 hm.i hm.k (by decide) rfl (Nat.le_of_ble_eq_true rfl) (Nat.le_of_ble_eq_true rfl) ?_
  exact zw_iretE dX5_count_74 rfl (rfl) rfl (rfl)
set_option maxRecDepth 100000 in
set_option maxHeartbeats 4000000 in
theorem d_count_3 {sh : Sh} {D : Mem} {m P : Nat} (hm : IsMo sh m) (hw : Wm D m P)  : Calls mX5_count 3 0 0 [.inr (some (m)), .inl (nI (3))] sh (D) (some (.inl (sm (fun s => D (m + 1) (92 + 5 * s + 0)) 96))) sh (D) := by
  refine Calls.of plX5 (Nat.le_of_ble_eq_true rfl) ?_
  have hP12 := hw.2.1
  show WP mX5_count 3 0 0 0 [some (.inr (some (m))), some (.inl (nI (3)))] [] sh (D) (some (.inl (sm (fun s => D (m + 1) (92 + 5 * s + 0)) 96))) sh (D)
  refine zw_iload_n dX5_count_0 rfl ?_
  refine zw_tswIn (tgt := 75) (off := 74) dX5_count_1 (by decide) (by decide) (by decide) (by decide) ?_
  refine zw_aload_n dX5_count_75 rfl ?_
  refine zw_cVi dX5_count_76 (c_X5_noisy hm) rfl okX5_noisy ml_X5_114 hm.i hm.k (by decide) rfl (Nat.le_of_ble_eq_true rfl) (Nat.le_of_ble_eq_true rfl) ?_
  exact zw_iretE dX5_count_79 rfl (rfl) rfl (rfl)
set_option maxRecDepth 100000 in
set_option maxHeartbeats 4000000 in
theorem d_count_4 {sh : Sh} {D : Mem} {m P : Nat} (hm : IsMo sh m) (hw : Wm D m P)  : Calls mX5_count 3 0 0 [.inr (some (m)), .inl (nI (4))] sh (D) (some (.inl (D (m + 1) 2))) sh (D) := by
  refine Calls.of plX5 (Nat.le_of_ble_eq_true rfl) ?_
  have hP12 := hw.2.1
  show WP mX5_count 3 0 0 0 [some (.inr (some (m))), some (.inl (nI (4)))] [] sh (D) (some (.inl (D (m + 1) 2))) sh (D)
  refine zw_iload_n dX5_count_0 rfl ?_
  refine zw_tswIn (tgt := 80) (off := 79) dX5_count_1 (by decide) (by decide) (by decide) (by decide) ?_
  refine zw_aload_n dX5_count_80 rfl ?_
  refine zw_getR (j := 0) (kd := 5) dX5_count_81 hm.i hm.k (by decide) (by decide) fl_X5_7 rfl hm.r0 ?_
  refine zw_iconst (v := nI 2) dX5_count_84 (by decide) ?_
  refine zw_iald dX5_count_85 hm.i0 hm.k0 hm.L0 rfl (by rw [hm.n0]; omega) ?_
  exact zw_iretE dX5_count_86 rfl (rfl) rfl (rfl)
set_option maxRecDepth 100000 in
set_option maxHeartbeats 4000000 in
theorem d_count_5 {sh : Sh} {D : Mem} {m P : Nat} (hm : IsMo sh m) (hw : Wm D m P)  : Calls mX5_count 3 0 0 [.inr (some (m)), .inl (nI (5))] sh (D) (some (.inl (sm2 (D (m + 1) 4 + D (m + 1) 5 + D (m + 1) 6 + D (m + 1) 7) (fun p => D (m + 1) (8 + 7 * p + 0)) P))) sh (D) := by
  refine Calls.of plX5 (Nat.le_of_ble_eq_true rfl) ?_
  have hP12 := hw.2.1
  show WP mX5_count 3 0 0 0 [some (.inr (some (m))), some (.inl (nI (5)))] [] sh (D) (some (.inl (sm2 (D (m + 1) 4 + D (m + 1) 5 + D (m + 1) 6 + D (m + 1) 7) (fun p => D (m + 1) (8 + 7 * p + 0)) P))) sh (D)
  refine zw_iload_n dX5_count_0 rfl ?_
  refine zw_tswIn (tgt := 87) (off := 86) dX5_count_1 (by decide) (by decide) (by decide) (by decide) ?_
  refine zw_aload_n dX5_count_87 rfl ?_
  refine zw_cVi dX5_count_88 (c_X5_money hm hw) rfl okX5_money ml_X5_168 hm.i hm.k (by decide) rfl (Nat.le_of_ble_eq_true rfl) (Nat.le_of_ble_eq_true rfl) ?_
  exact zw_iretE dX5_count_91 rfl (rfl) rfl (rfl)
set_option maxRecDepth 100000 in
set_option maxHeartbeats 4000000 in
theorem d_count_6 {sh : Sh} {D : Mem} {m P : Nat} (hm : IsMo sh m) (hw : Wm D m P)  : Calls mX5_count 3 0 0 [.inr (some (m)), .inl (nI (6))] sh (D) (some (.inl (sm (fun p => D (m + 1) (8 + 7 * p + 1)) P))) sh (D) := by
  refine Calls.of plX5 (Nat.le_of_ble_eq_true rfl) ?_
  have hP12 := hw.2.1
  show WP mX5_count 3 0 0 0 [some (.inr (some (m))), some (.inl (nI (6)))] [] sh (D) (some (.inl (sm (fun p => D (m + 1) (8 + 7 * p + 1)) P))) sh (D)
  refine zw_iload_n dX5_count_0 rfl ?_
  refine zw_tswIn (tgt := 92) (off := 91) dX5_count_1 (by decide) (by decide) (by decide) (by decide) ?_
  refine zw_aload_n dX5_count_92 rfl ?_
  refine zw_cVi dX5_count_93 (c_X5_debts hm hw) rfl okX5_debts ml_X5_171 hm.i hm.k (by decide) rfl (Nat.le_of_ble_eq_true rfl) (Nat.le_of_ble_eq_true rfl) ?_
  exact zw_iretE dX5_count_96 rfl (rfl) rfl (rfl)
set_option maxRecDepth 100000 in
set_option maxHeartbeats 4000000 in
theorem d_count_7 {sh : Sh} {D : Mem} {m P : Nat} (hm : IsMo sh m) (hw : Wm D m P)  : Calls mX5_count 3 0 0 [.inr (some (m)), .inl (nI (7))] sh (D) (some (.inl (D (m + 1) 3))) sh (D) := by
  refine Calls.of plX5 (Nat.le_of_ble_eq_true rfl) ?_
  have hP12 := hw.2.1
  show WP mX5_count 3 0 0 0 [some (.inr (some (m))), some (.inl (nI (7)))] [] sh (D) (some (.inl (D (m + 1) 3))) sh (D)
  refine zw_iload_n dX5_count_0 rfl ?_
  refine zw_tswIn (tgt := 97) (off := 96) dX5_count_1 (by decide) (by decide) (by decide) (by decide) ?_
  refine zw_aload_n dX5_count_97 rfl ?_
  refine zw_getR (j := 0) (kd := 5) dX5_count_98 hm.i hm.k (by decide) (by decide) fl_X5_7 rfl hm.r0 ?_
  refine zw_iconst (v := nI 3) dX5_count_101 (by decide) ?_
  refine zw_iald dX5_count_102 hm.i0 hm.k0 hm.L0 rfl (by rw [hm.n0]; omega) ?_
  exact zw_iretE dX5_count_103 rfl (rfl) rfl (rfl)
set_option maxRecDepth 100000 in
set_option maxHeartbeats 4000000 in
theorem d_count_8 {sh : Sh} {D : Mem} {m P : Nat} (hm : IsMo sh m) (hw : Wm D m P)  : Calls mX5_count 3 0 0 [.inr (some (m)), .inl (nI (8))] sh (D) (some (.inl (D m 2))) sh (D) := by
  refine Calls.of plX5 (Nat.le_of_ble_eq_true rfl) ?_
  have hP12 := hw.2.1
  show WP mX5_count 3 0 0 0 [some (.inr (some (m))), some (.inl (nI (8)))] [] sh (D) (some (.inl (D m 2))) sh (D)
  refine zw_iload_n dX5_count_0 rfl ?_
  refine zw_tswIn (tgt := 104) (off := 103) dX5_count_1 (by decide) (by decide) (by decide) (by decide) ?_
  refine zw_aload_n dX5_count_104 rfl ?_
  refine zw_getI (j := 2) (kd := 5) dX5_count_105 hm.i hm.k (by decide) (by decide) fl_X5_49 rfl ?_
  exact zw_iretE dX5_count_108 rfl (rfl) rfl (rfl)
set_option maxRecDepth 100000 in
set_option maxHeartbeats 4000000 in
theorem d_count_9 {sh : Sh} {D : Mem} {m P : Nat} (hm : IsMo sh m) (hw : Wm D m P)  : Calls mX5_count 3 0 0 [.inr (some (m)), .inl (nI (9))] sh (D) (some (.inl (D m 5))) sh (D) := by
  refine Calls.of plX5 (Nat.le_of_ble_eq_true rfl) ?_
  have hP12 := hw.2.1
  show WP mX5_count 3 0 0 0 [some (.inr (some (m))), some (.inl (nI (9)))] [] sh (D) (some (.inl (D m 5))) sh (D)
  refine zw_iload_n dX5_count_0 rfl ?_
  refine zw_tswIn (tgt := 109) (off := 108) dX5_count_1 (by decide) (by decide) (by decide) (by decide) ?_
  refine zw_aload_n dX5_count_109 rfl ?_
  refine zw_getI (j := 5) (kd := 5) dX5_count_110 hm.i hm.k (by decide) (by decide) fl_X5_135 rfl ?_
  exact zw_iretE dX5_count_113 rfl (rfl) rfl (rfl)
set_option maxRecDepth 100000 in
set_option maxHeartbeats 4000000 in
theorem d_count_bad {sh : Sh} {D : Mem} {m : Nat} (hm : IsMo sh m) (x : Int32) (hx : x.toInt < 0 ∨ 9 < x.toInt) : Calls mX5_count 3 0 0 [.inr (some (m)), .inl (x)] sh (D) (some (.inl (-1))) sh (D) := by
  refine Calls.of plX5 (Nat.le_of_ble_eq_true rfl) ?_
  show WP mX5_count 3 0 0 0 [some (.inr (some (m))), some (.inl (x))] [] sh (D) (some (.inl (-1))) sh (D)
  refine zw_iload_n dX5_count_0 rfl ?_
  refine zw_tswOut (tgt := 114) dX5_count_1 hx (by decide) ?_
  refine zw_iconst (v := (-1)) dX5_count_114 (by decide) ?_
  exact zw_iretE dX5_count_115 rfl (rfl) rfl (rfl)
set_option maxRecDepth 100000 in
set_option maxHeartbeats 4000000 in
theorem d_person_0 {sh : Sh} {D : Mem} {m P : Nat} (hm : IsMo sh m) (hw : Wm D m P) {p : Nat} (hp : p < P)  : Calls mX5_person 3 0 0 [.inr (some (m)), .inl (nI (p)), .inl (nI (0))] sh (D) (some (.inl (D (m + 1) (8 + 7 * p + 0)))) sh (D) := by
  refine Calls.of plX5 (Nat.le_of_ble_eq_true rfl) ?_
  have hP12 := hw.2.1
  show WP mX5_person 3 0 0 0 [some (.inr (some (m))), some (.inl (nI (p))), some (.inl (nI (0)))] [] sh (D) (some (.inl (D (m + 1) (8 + 7 * p + 0)))) sh (D)
  refine zw_aload_n dX5_person_0 rfl ?_
  refine zw_iload_n dX5_person_1 rfl ?_
  refine zw_cVi dX5_person_2 (c_X5_isPerson hm hw _) rfl okX5_isPerson ml_X5_61 hm.i hm.k (by decide) rfl (Nat.le_of_ble_eq_true rfl) (Nat.le_of_ble_eq_true rfl) ?_
  refine zw_if_ne_c (tgt := 10) dX5_person_5 (by decide) (fun c5 => ?_) (fun c5 => absurd (isP_n hp) c5)
  refine zw_iload_n dX5_person_10 rfl ?_
  refine zw_tswIn (tgt := 56) (off := 45) dX5_person_11 (by decide) (by decide) (by decide) (by decide) ?_
  refine zw_aload_n dX5_person_56 rfl ?_
  refine zw_iload_n dX5_person_57 rfl ?_
  refine zw_iconst (v := nI 0) dX5_person_58 (by decide) ?_
  refine zw_cVi dX5_person_59 (c_X5_of hm (by omega) (by omega)) rfl okX5_of ml_X5_43 hm.i hm.k (by decide) rfl (Nat.le_of_ble_eq_true rfl) (Nat.le_of_ble_eq_true rfl) ?_
  exact zw_iretE dX5_person_62 rfl (rfl) rfl (rfl)
set_option maxRecDepth 100000 in
set_option maxHeartbeats 4000000 in
theorem d_person_1 {sh : Sh} {D : Mem} {m P : Nat} (hm : IsMo sh m) (hw : Wm D m P) {p : Nat} (hp : p < P)  : Calls mX5_person 3 0 0 [.inr (some (m)), .inl (nI (p)), .inl (nI (1))] sh (D) (some (.inl (frL D m p 96))) sh (D) := by
  refine Calls.of plX5 (Nat.le_of_ble_eq_true rfl) ?_
  have hP12 := hw.2.1
  show WP mX5_person 3 0 0 0 [some (.inr (some (m))), some (.inl (nI (p))), some (.inl (nI (1)))] [] sh (D) (some (.inl (frL D m p 96))) sh (D)
  refine zw_aload_n dX5_person_0 rfl ?_
  refine zw_iload_n dX5_person_1 rfl ?_
  refine zw_cVi dX5_person_2 (c_X5_isPerson hm hw _) rfl okX5_isPerson ml_X5_61 hm.i hm.k (by decide) rfl (Nat.le_of_ble_eq_true rfl) (Nat.le_of_ble_eq_true rfl) ?_
  refine zw_if_ne_c (tgt := 10) dX5_person_5 (by decide) (fun c5 => ?_) (fun c5 => absurd (isP_n hp) c5)
  refine zw_iload_n dX5_person_10 rfl ?_
  refine zw_tswIn (tgt := 63) (off := 52) dX5_person_11 (by decide) (by decide) (by decide) (by decide) ?_
  refine zw_aload_n dX5_person_63 rfl ?_
  refine zw_iload_n dX5_person_64 rfl ?_
  refine zw_cVi dX5_person_65 (c_X5_free hm (by omega)) rfl okX5_free ml_X5_66 hm.i hm.k (by decide) rfl (Nat.le_of_ble_eq_true rfl) (Nat.le_of_ble_eq_true rfl) ?_
  exact zw_iretE dX5_person_68 rfl (rfl) rfl (rfl)
set_option maxRecDepth 100000 in
set_option maxHeartbeats 4000000 in
theorem d_person_2 {sh : Sh} {D : Mem} {m P : Nat} (hm : IsMo sh m) (hw : Wm D m P) {p : Nat} (hp : p < P)  : Calls mX5_person 3 0 0 [.inr (some (m)), .inl (nI (p)), .inl (nI (2))] sh (D) (some (.inl (D (m + 1) (8 + 7 * p + 1)))) sh (D) := by
  refine Calls.of plX5 (Nat.le_of_ble_eq_true rfl) ?_
  have hP12 := hw.2.1
  show WP mX5_person 3 0 0 0 [some (.inr (some (m))), some (.inl (nI (p))), some (.inl (nI (2)))] [] sh (D) (some (.inl (D (m + 1) (8 + 7 * p + 1)))) sh (D)
  refine zw_aload_n dX5_person_0 rfl ?_
  refine zw_iload_n dX5_person_1 rfl ?_
  refine zw_cVi dX5_person_2 (c_X5_isPerson hm hw _) rfl okX5_isPerson ml_X5_61 hm.i hm.k (by decide) rfl (Nat.le_of_ble_eq_true rfl) (Nat.le_of_ble_eq_true rfl) ?_
  refine zw_if_ne_c (tgt := 10) dX5_person_5 (by decide) (fun c5 => ?_) (fun c5 => absurd (isP_n hp) c5)
  refine zw_iload_n dX5_person_10 rfl ?_
  refine zw_tswIn (tgt := 69) (off := 58) dX5_person_11 (by decide) (by decide) (by decide) (by decide) ?_
  refine zw_aload_n dX5_person_69 rfl ?_
  refine zw_iload_n dX5_person_70 rfl ?_
  refine zw_iconst (v := nI 1) dX5_person_71 (by decide) ?_
  refine zw_cVi dX5_person_72 (c_X5_of hm (by omega) (by omega)) rfl okX5_of ml_X5_43 hm.i hm.k (by decide) rfl (Nat.le_of_ble_eq_true rfl) (Nat.le_of_ble_eq_true rfl) ?_
  exact zw_iretE dX5_person_75 rfl (rfl) rfl (rfl)
set_option maxRecDepth 100000 in
set_option maxHeartbeats 4000000 in
theorem d_person_3 {sh : Sh} {D : Mem} {m P : Nat} (hm : IsMo sh m) (hw : Wm D m P) {p : Nat} (hp : p < P)  : Calls mX5_person 3 0 0 [.inr (some (m)), .inl (nI (p)), .inl (nI (3))] sh (D) (some (.inl (sm (fun s => p01 (dm D m p s)) 96))) sh (D) := by
  refine Calls.of plX5 (Nat.le_of_ble_eq_true rfl) ?_
  have hP12 := hw.2.1
  show WP mX5_person 3 0 0 0 [some (.inr (some (m))), some (.inl (nI (p))), some (.inl (nI (3)))] [] sh (D) (some (.inl (sm (fun s => p01 (dm D m p s)) 96))) sh (D)
  refine zw_aload_n dX5_person_0 rfl ?_
  refine zw_iload_n dX5_person_1 rfl ?_
  refine zw_cVi dX5_person_2 (c_X5_isPerson hm hw _) rfl okX5_isPerson ml_X5_61 hm.i hm.k (by decide) rfl (Nat.le_of_ble_eq_true rfl) (Nat.le_of_ble_eq_true rfl) ?_
  refine zw_if_ne_c (tgt := 10) dX5_person_5 (by decide) (fun c5 => ?_) (fun c5 => absurd (isP_n hp) c5)
  refine zw_iload_n dX5_person_10 rfl ?_
  refine zw_tswIn (tgt := 76) (off := 65) dX5_person_11 (by decide) (by decide) (by decide) (by decide) ?_
  refine zw_aload_n dX5_person_76 rfl ?_
  refine zw_iload_n dX5_person_77 rfl ?_
  refine zw_cVi dX5_person_78 (c_X5_bidsBy hm (by omega)) rfl okX5_bidsBy ml_X5_162 hm.i hm.k (by decide) rfl (Nat.le_of_ble_eq_true rfl) (Nat.le_of_ble_eq_true rfl) ?_
  exact zw_iretE dX5_person_81 rfl (rfl) rfl (rfl)
set_option maxRecDepth 100000 in
set_option maxHeartbeats 4000000 in
theorem d_person_4 {sh : Sh} {D : Mem} {m P : Nat} (hm : IsMo sh m) (hw : Wm D m P) {p : Nat} (hp : p < P)  : Calls mX5_person 3 0 0 [.inr (some (m)), .inl (nI (p)), .inl (nI (4))] sh (D) (some (.inl (D (m + 1) (8 + 7 * p + 2)))) sh (D) := by
  refine Calls.of plX5 (Nat.le_of_ble_eq_true rfl) ?_
  have hP12 := hw.2.1
  show WP mX5_person 3 0 0 0 [some (.inr (some (m))), some (.inl (nI (p))), some (.inl (nI (4)))] [] sh (D) (some (.inl (D (m + 1) (8 + 7 * p + 2)))) sh (D)
  refine zw_aload_n dX5_person_0 rfl ?_
  refine zw_iload_n dX5_person_1 rfl ?_
  refine zw_cVi dX5_person_2 (c_X5_isPerson hm hw _) rfl okX5_isPerson ml_X5_61 hm.i hm.k (by decide) rfl (Nat.le_of_ble_eq_true rfl) (Nat.le_of_ble_eq_true rfl) ?_
  refine zw_if_ne_c (tgt := 10) dX5_person_5 (by decide) (fun c5 => ?_) (fun c5 => absurd (isP_n hp) c5)
  refine zw_iload_n dX5_person_10 rfl ?_
  refine zw_tswIn (tgt := 82) (off := 71) dX5_person_11 (by decide) (by decide) (by decide) (by decide) ?_
  refine zw_aload_n dX5_person_82 rfl ?_
  refine zw_iload_n dX5_person_83 rfl ?_
  refine zw_iconst (v := nI 2) dX5_person_84 (by decide) ?_
  refine zw_cVi dX5_person_85 (c_X5_of hm (by omega) (by omega)) rfl okX5_of ml_X5_43 hm.i hm.k (by decide) rfl (Nat.le_of_ble_eq_true rfl) (Nat.le_of_ble_eq_true rfl) ?_
  exact zw_iretE dX5_person_88 rfl (rfl) rfl (rfl)
set_option maxRecDepth 100000 in
set_option maxHeartbeats 4000000 in
theorem d_person_5 {sh : Sh} {D : Mem} {m P : Nat} (hm : IsMo sh m) (hw : Wm D m P) {p : Nat} (hp : p < P)  : Calls mX5_person 3 0 0 [.inr (some (m)), .inl (nI (p)), .inl (nI (5))] sh (D) (some (.inl (D (m + 1) (8 + 7 * p + 3)))) sh (D) := by
  refine Calls.of plX5 (Nat.le_of_ble_eq_true rfl) ?_
  have hP12 := hw.2.1
  show WP mX5_person 3 0 0 0 [some (.inr (some (m))), some (.inl (nI (p))), some (.inl (nI (5)))] [] sh (D) (some (.inl (D (m + 1) (8 + 7 * p + 3)))) sh (D)
  refine zw_aload_n dX5_person_0 rfl ?_
  refine zw_iload_n dX5_person_1 rfl ?_
  refine zw_cVi dX5_person_2 (c_X5_isPerson hm hw _) rfl okX5_isPerson ml_X5_61 hm.i hm.k (by decide) rfl (Nat.le_of_ble_eq_true rfl) (Nat.le_of_ble_eq_true rfl) ?_
  refine zw_if_ne_c (tgt := 10) dX5_person_5 (by decide) (fun c5 => ?_) (fun c5 => absurd (isP_n hp) c5)
  refine zw_iload_n dX5_person_10 rfl ?_
  refine zw_tswIn (tgt := 89) (off := 78) dX5_person_11 (by decide) (by decide) (by decide) (by decide) ?_
  refine zw_aload_n dX5_person_89 rfl ?_
  refine zw_iload_n dX5_person_90 rfl ?_
  refine zw_iconst (v := nI 3) dX5_person_91 (by decide) ?_
  refine zw_cVi dX5_person_92 (c_X5_of hm (by omega) (by omega)) rfl okX5_of ml_X5_43 hm.i hm.k (by decide) rfl (Nat.le_of_ble_eq_true rfl) (Nat.le_of_ble_eq_true rfl) ?_
  exact zw_iretE dX5_person_95 rfl (rfl) rfl (rfl)
set_option maxRecDepth 100000 in
set_option maxHeartbeats 4000000 in
theorem d_person_6 {sh : Sh} {D : Mem} {m P : Nat} (hm : IsMo sh m) (hw : Wm D m P) {p : Nat} (hp : p < P)  : Calls mX5_person 3 0 0 [.inr (some (m)), .inl (nI (p)), .inl (nI (6))] sh (D) (some (.inl (D (m + 1) (8 + 7 * p + 4)))) sh (D) := by
  refine Calls.of plX5 (Nat.le_of_ble_eq_true rfl) ?_
  have hP12 := hw.2.1
  show WP mX5_person 3 0 0 0 [some (.inr (some (m))), some (.inl (nI (p))), some (.inl (nI (6)))] [] sh (D) (some (.inl (D (m + 1) (8 + 7 * p + 4)))) sh (D)
  refine zw_aload_n dX5_person_0 rfl ?_
  refine zw_iload_n dX5_person_1 rfl ?_
  refine zw_cVi dX5_person_2 (c_X5_isPerson hm hw _) rfl okX5_isPerson ml_X5_61 hm.i hm.k (by decide) rfl (Nat.le_of_ble_eq_true rfl) (Nat.le_of_ble_eq_true rfl) ?_
  refine zw_if_ne_c (tgt := 10) dX5_person_5 (by decide) (fun c5 => ?_) (fun c5 => absurd (isP_n hp) c5)
  refine zw_iload_n dX5_person_10 rfl ?_
  refine zw_tswIn (tgt := 96) (off := 85) dX5_person_11 (by decide) (by decide) (by decide) (by decide) ?_
  refine zw_aload_n dX5_person_96 rfl ?_
  refine zw_iload_n dX5_person_97 rfl ?_
  refine zw_iconst (v := nI 4) dX5_person_98 (by decide) ?_
  refine zw_cVi dX5_person_99 (c_X5_of hm (by omega) (by omega)) rfl okX5_of ml_X5_43 hm.i hm.k (by decide) rfl (Nat.le_of_ble_eq_true rfl) (Nat.le_of_ble_eq_true rfl) ?_
  exact zw_iretE dX5_person_102 rfl (rfl) rfl (rfl)
set_option maxRecDepth 100000 in
set_option maxHeartbeats 4000000 in
theorem d_person_7 {sh : Sh} {D : Mem} {m P : Nat} (hm : IsMo sh m) (hw : Wm D m P) {p : Nat} (hp : p < P)  : Calls mX5_person 3 0 0 [.inr (some (m)), .inl (nI (p)), .inl (nI (7))] sh (D) (some (.inl (D (m + 1) (8 + 7 * p + 5)))) sh (D) := by
  refine Calls.of plX5 (Nat.le_of_ble_eq_true rfl) ?_
  have hP12 := hw.2.1
  show WP mX5_person 3 0 0 0 [some (.inr (some (m))), some (.inl (nI (p))), some (.inl (nI (7)))] [] sh (D) (some (.inl (D (m + 1) (8 + 7 * p + 5)))) sh (D)
  refine zw_aload_n dX5_person_0 rfl ?_
  refine zw_iload_n dX5_person_1 rfl ?_
  refine zw_cVi dX5_person_2 (c_X5_isPerson hm hw _) rfl okX5_isPerson ml_X5_61 hm.i hm.k (by decide) rfl (Nat.le_of_ble_eq_true rfl) (Nat.le_of_ble_eq_true rfl) ?_
  refine zw_if_ne_c (tgt := 10) dX5_person_5 (by decide) (fun c5 => ?_) (fun c5 => absurd (isP_n hp) c5)
  refine zw_iload_n dX5_person_10 rfl ?_
  refine zw_tswIn (tgt := 103) (off := 92) dX5_person_11 (by decide) (by decide) (by decide) (by decide) ?_
  refine zw_aload_n dX5_person_103 rfl ?_
  refine zw_iload_n dX5_person_104 rfl ?_
  refine zw_iconst (v := nI 5) dX5_person_105 (by decide) ?_
  refine zw_cVi dX5_person_106 (c_X5_of hm (by omega) (by omega)) rfl okX5_of ml_X5_43 hm.i hm.k (by decide) rfl (Nat.le_of_ble_eq_true rfl) (Nat.le_of_ble_eq_true rfl) ?_
  exact zw_iretE dX5_person_109 rfl (rfl) rfl (rfl)
set_option maxRecDepth 100000 in
set_option maxHeartbeats 4000000 in
theorem d_person_bad {sh : Sh} {D : Mem} {m P : Nat} (hm : IsMo sh m) (hw : Wm D m P) (x y : Int32) (hx : ¬ isP P x) : Calls mX5_person 3 0 0 [.inr (some (m)), .inl (x), .inl (y)] sh (D) (some (.inl (-1))) sh (D) := by
  refine Calls.of plX5 (Nat.le_of_ble_eq_true rfl) ?_
  have hP12 := hw.2.1
  show WP mX5_person 3 0 0 0 [some (.inr (some (m))), some (.inl (x)), some (.inl (y))] [] sh (D) (some (.inl (-1))) sh (D)
  refine zw_aload_n dX5_person_0 rfl ?_
  refine zw_iload_n dX5_person_1 rfl ?_
  refine zw_cVi dX5_person_2 (c_X5_isPerson hm hw _) rfl okX5_isPerson ml_X5_61 hm.i hm.k (by decide) rfl (Nat.le_of_ble_eq_true rfl) (Nat.le_of_ble_eq_true rfl) ?_
  refine zw_if_ne_c (tgt := 10) dX5_person_5 (by decide) (fun c5 => absurd c5 hx) (fun c5 => ?_)
  refine zw_iconst (v := (-1)) dX5_person_8 (by decide) ?_
  exact zw_iretE dX5_person_9 rfl (rfl) rfl (rfl)
set_option maxRecDepth 100000 in
set_option maxHeartbeats 4000000 in
theorem d_person_bad2 {sh : Sh} {D : Mem} {m P : Nat} (hm : IsMo sh m) (hw : Wm D m P) {p : Nat} (hp : p < P) (y : Int32) (hy : y.toInt < 0 ∨ 7 < y.toInt) : Calls mX5_person 3 0 0 [.inr (some (m)), .inl (nI (p)), .inl (y)] sh (D) (some (.inl (-1))) sh (D) := by
  refine Calls.of plX5 (Nat.le_of_ble_eq_true rfl) ?_
  have hP12 := hw.2.1
  show WP mX5_person 3 0 0 0 [some (.inr (some (m))), some (.inl (nI (p))), some (.inl (y))] [] sh (D) (some (.inl (-1))) sh (D)
  refine zw_aload_n dX5_person_0 rfl ?_
  refine zw_iload_n dX5_person_1 rfl ?_
  refine zw_cVi dX5_person_2 (c_X5_isPerson hm hw _) rfl okX5_isPerson ml_X5_61 hm.i hm.k (by decide) rfl (Nat.le_of_ble_eq_true rfl) (Nat.le_of_ble_eq_true rfl) ?_
  refine zw_if_ne_c (tgt := 10) dX5_person_5 (by decide) (fun c5 => ?_) (fun c5 => absurd (isP_n hp) c5)
  refine zw_iload_n dX5_person_10 rfl ?_
  refine zw_tswOut (tgt := 110) dX5_person_11 hy (by decide) ?_
  refine zw_iconst (v := (-1)) dX5_person_110 (by decide) ?_
  exact zw_iretE dX5_person_111 rfl (rfl) rfl (rfl)
set_option maxRecDepth 100000 in
set_option maxHeartbeats 4000000 in
theorem d_slot_0 {sh : Sh} {D : Mem} {m P : Nat} (hm : IsMo sh m) (hw : Wm D m P) {st h : Nat} (hst : st < 4) (hh : h < 24)  : Calls mX5_slot 3 0 0 [.inr (some (m)), .inl (nI (st)), .inl (nI (h)), .inl (nI (0))] sh (D) (some (.inl (D (m + 1) (92 + 5 * (24 * st + h) + 0)))) sh (D) := by
  refine Calls.of plX5 (Nat.le_of_ble_eq_true rfl) ?_
  have hP12 := hw.2.1
  show WP mX5_slot 3 0 0 0 [some (.inr (some (m))), some (.inl (nI (st))), some (.inl (nI (h))), some (.inl (nI (0))), none] [] sh (D) (some (.inl (D (m + 1) (92 + 5 * (24 * st + h) + 0)))) sh (D)
  refine zw_iload_n dX5_slot_0 rfl ?_
  refine zw_iload_n dX5_slot_1 rfl ?_
  refine zw_cSi dX5_slot_2 (c_X5_isSlot _ _) rfl okX5_isSlot ml_X5_75 (Nat.le_of_ble_eq_true rfl) (Nat.le_of_ble_eq_true rfl) ?_
  refine zw_if_ne_c (tgt := 10) dX5_slot_5 (by decide) (fun c5 => ?_) (fun c5 => absurd (inS_n hst hh) c5)
  refine zw_bipush (v := nI 24) dX5_slot_10 (by decide) ?_
  refine zw_iload_n dX5_slot_12 rfl ?_
  refine zw_imuln dX5_slot_13 ?_
  refine zw_iload_n dX5_slot_14 rfl ?_
  refine zw_iaddn dX5_slot_15 ?_
  refine zw_istore dX5_slot_16 (by decide) ?_
  refine zw_iload_n dX5_slot_18 rfl ?_
  refine zw_tswIn (tgt := 56) (off := 37) dX5_slot_19 (by decide) (by decide) (by decide) (by decide) ?_
  refine zw_aload_n dX5_slot_56 rfl ?_
  refine zw_iload dX5_slot_57 rfl ?_
  refine zw_iconst (v := nI 0) dX5_slot_59 (by decide) ?_
  refine zw_cVi dX5_slot_60 (c_X5_slotOf hm (by omega) (by omega)) rfl okX5_slotOf ml_X5_46 hm.i hm.k (by decide) rfl (Nat.le_of_ble_eq_true rfl) (Nat.le_of_ble_eq_true rfl) ?_
  exact zw_iretE dX5_slot_63 rfl (rfl) rfl (rfl)
set_option maxRecDepth 100000 in
set_option maxHeartbeats 4000000 in
theorem d_slot_1 {sh : Sh} {D : Mem} {m P : Nat} (hm : IsMo sh m) (hw : Wm D m P) {st h : Nat} (hst : st < 4) (hh : h < 24)  : Calls mX5_slot 3 0 0 [.inr (some (m)), .inl (nI (st)), .inl (nI (h)), .inl (nI (1))] sh (D) (some (.inl (sD D m P (24 * st + h) (nI 0)))) sh (D) := by
  refine Calls.of plX5 (Nat.le_of_ble_eq_true rfl) ?_
  have hP12 := hw.2.1
  show WP mX5_slot 3 0 0 0 [some (.inr (some (m))), some (.inl (nI (st))), some (.inl (nI (h))), some (.inl (nI (1))), none] [] sh (D) (some (.inl (sD D m P (24 * st + h) (nI 0)))) sh (D)
  refine zw_iload_n dX5_slot_0 rfl ?_
  refine zw_iload_n dX5_slot_1 rfl ?_
  refine zw_cSi dX5_slot_2 (c_X5_isSlot _ _) rfl okX5_isSlot ml_X5_75 (Nat.le_of_ble_eq_true rfl) (Nat.le_of_ble_eq_true rfl) ?_
  refine zw_if_ne_c (tgt := 10) dX5_slot_5 (by decide) (fun c5 => ?_) (fun c5 => absurd (inS_n hst hh) c5)
  refine zw_bipush (v := nI 24) dX5_slot_10 (by decide) ?_
  refine zw_iload_n dX5_slot_12 rfl ?_
  refine zw_imuln dX5_slot_13 ?_
  refine zw_iload_n dX5_slot_14 rfl ?_
  refine zw_iaddn dX5_slot_15 ?_
  refine zw_istore dX5_slot_16 (by decide) ?_
  refine zw_iload_n dX5_slot_18 rfl ?_
  refine zw_tswIn (tgt := 64) (off := 45) dX5_slot_19 (by decide) (by decide) (by decide) (by decide) ?_
  refine zw_aload_n dX5_slot_64 rfl ?_
  refine zw_iload dX5_slot_65 rfl ?_
  refine zw_iconst (v := nI 0) dX5_slot_67 (by decide) ?_
  refine zw_cVi dX5_slot_68 (c_X5_sumOf hm hw (by omega) _) rfl okX5_sumOf ml_X5_95 hm.i hm.k (by decide) rfl (Nat.le_of_ble_eq_true rfl) (Nat.le_of_ble_eq_true rfl) ?_
  exact zw_iretE dX5_slot_71 rfl (rfl) rfl (rfl)
set_option maxRecDepth 100000 in
set_option maxHeartbeats 4000000 in
theorem d_slot_2 {sh : Sh} {D : Mem} {m P : Nat} (hm : IsMo sh m) (hw : Wm D m P) {st h : Nat} (hst : st < 4) (hh : h < 24)  : Calls mX5_slot 3 0 0 [.inr (some (m)), .inl (nI (st)), .inl (nI (h)), .inl (nI (2))] sh (D) (some (.inl (sD D m P (24 * st + h) (nI 1)))) sh (D) := by
  refine Calls.of plX5 (Nat.le_of_ble_eq_true rfl) ?_
  have hP12 := hw.2.1
  show WP mX5_slot 3 0 0 0 [some (.inr (some (m))), some (.inl (nI (st))), some (.inl (nI (h))), some (.inl (nI (2))), none] [] sh (D) (some (.inl (sD D m P (24 * st + h) (nI 1)))) sh (D)
  refine zw_iload_n dX5_slot_0 rfl ?_
  refine zw_iload_n dX5_slot_1 rfl ?_
  refine zw_cSi dX5_slot_2 (c_X5_isSlot _ _) rfl okX5_isSlot ml_X5_75 (Nat.le_of_ble_eq_true rfl) (Nat.le_of_ble_eq_true rfl) ?_
  refine zw_if_ne_c (tgt := 10) dX5_slot_5 (by decide) (fun c5 => ?_) (fun c5 => absurd (inS_n hst hh) c5)
  refine zw_bipush (v := nI 24) dX5_slot_10 (by decide) ?_
  refine zw_iload_n dX5_slot_12 rfl ?_
  refine zw_imuln dX5_slot_13 ?_
  refine zw_iload_n dX5_slot_14 rfl ?_
  refine zw_iaddn dX5_slot_15 ?_
  refine zw_istore dX5_slot_16 (by decide) ?_
  refine zw_iload_n dX5_slot_18 rfl ?_
  refine zw_tswIn (tgt := 72) (off := 53) dX5_slot_19 (by decide) (by decide) (by decide) (by decide) ?_
  refine zw_aload_n dX5_slot_72 rfl ?_
  refine zw_iload dX5_slot_73 rfl ?_
  refine zw_iconst (v := nI 1) dX5_slot_75 (by decide) ?_
  refine zw_cVi dX5_slot_76 (c_X5_sumOf hm hw (by omega) _) rfl okX5_sumOf ml_X5_95 hm.i hm.k (by decide) rfl (Nat.le_of_ble_eq_true rfl) (Nat.le_of_ble_eq_true rfl) ?_
  exact zw_iretE dX5_slot_79 rfl (rfl) rfl (rfl)
set_option maxRecDepth 100000 in
set_option maxHeartbeats 4000000 in
theorem d_slot_3 {sh : Sh} {D : Mem} {m P : Nat} (hm : IsMo sh m) (hw : Wm D m P) {st h : Nat} (hst : st < 4) (hh : h < 24)  : Calls mX5_slot 3 0 0 [.inr (some (m)), .inl (nI (st)), .inl (nI (h)), .inl (nI (3))] sh (D) (some (.inl (D (m + 1) (92 + 5 * (24 * st + h) + 1)))) sh (D) := by
  refine Calls.of plX5 (Nat.le_of_ble_eq_true rfl) ?_
  have hP12 := hw.2.1
  show WP mX5_slot 3 0 0 0 [some (.inr (some (m))), some (.inl (nI (st))), some (.inl (nI (h))), some (.inl (nI (3))), none] [] sh (D) (some (.inl (D (m + 1) (92 + 5 * (24 * st + h) + 1)))) sh (D)
  refine zw_iload_n dX5_slot_0 rfl ?_
  refine zw_iload_n dX5_slot_1 rfl ?_
  refine zw_cSi dX5_slot_2 (c_X5_isSlot _ _) rfl okX5_isSlot ml_X5_75 (Nat.le_of_ble_eq_true rfl) (Nat.le_of_ble_eq_true rfl) ?_
  refine zw_if_ne_c (tgt := 10) dX5_slot_5 (by decide) (fun c5 => ?_) (fun c5 => absurd (inS_n hst hh) c5)
  refine zw_bipush (v := nI 24) dX5_slot_10 (by decide) ?_
  refine zw_iload_n dX5_slot_12 rfl ?_
  refine zw_imuln dX5_slot_13 ?_
  refine zw_iload_n dX5_slot_14 rfl ?_
  refine zw_iaddn dX5_slot_15 ?_
  refine zw_istore dX5_slot_16 (by decide) ?_
  refine zw_iload_n dX5_slot_18 rfl ?_
  refine zw_tswIn (tgt := 80) (off := 61) dX5_slot_19 (by decide) (by decide) (by decide) (by decide) ?_
  refine zw_aload_n dX5_slot_80 rfl ?_
  refine zw_iload dX5_slot_81 rfl ?_
  refine zw_iconst (v := nI 1) dX5_slot_83 (by decide) ?_
  refine zw_cVi dX5_slot_84 (c_X5_slotOf hm (by omega) (by omega)) rfl okX5_slotOf ml_X5_46 hm.i hm.k (by decide) rfl (Nat.le_of_ble_eq_true rfl) (Nat.le_of_ble_eq_true rfl) ?_
  exact zw_iretE dX5_slot_87 rfl (rfl) rfl (rfl)
set_option maxRecDepth 100000 in
set_option maxHeartbeats 4000000 in
theorem d_slot_4 {sh : Sh} {D : Mem} {m P : Nat} (hm : IsMo sh m) (hw : Wm D m P) {st h : Nat} (hst : st < 4) (hh : h < 24)  : Calls mX5_slot 3 0 0 [.inr (some (m)), .inl (nI (st)), .inl (nI (h)), .inl (nI (4))] sh (D) (some (.inl (nD D m P (24 * st + h)))) sh (D) := by
  refine Calls.of plX5 (Nat.le_of_ble_eq_true rfl) ?_
  have hP12 := hw.2.1
  show WP mX5_slot 3 0 0 0 [some (.inr (some (m))), some (.inl (nI (st))), some (.inl (nI (h))), some (.inl (nI (4))), none] [] sh (D) (some (.inl (nD D m P (24 * st + h)))) sh (D)
  refine zw_iload_n dX5_slot_0 rfl ?_
  refine zw_iload_n dX5_slot_1 rfl ?_
  refine zw_cSi dX5_slot_2 (c_X5_isSlot _ _) rfl okX5_isSlot ml_X5_75 (Nat.le_of_ble_eq_true rfl) (Nat.le_of_ble_eq_true rfl) ?_
  refine zw_if_ne_c (tgt := 10) dX5_slot_5 (by decide) (fun c5 => ?_) (fun c5 => absurd (inS_n hst hh) c5)
  refine zw_bipush (v := nI 24) dX5_slot_10 (by decide) ?_
  refine zw_iload_n dX5_slot_12 rfl ?_
  refine zw_imuln dX5_slot_13 ?_
  refine zw_iload_n dX5_slot_14 rfl ?_
  refine zw_iaddn dX5_slot_15 ?_
  refine zw_istore dX5_slot_16 (by decide) ?_
  refine zw_iload_n dX5_slot_18 rfl ?_
  refine zw_tswIn (tgt := 88) (off := 69) dX5_slot_19 (by decide) (by decide) (by decide) (by decide) ?_
  refine zw_aload_n dX5_slot_88 rfl ?_
  refine zw_iload dX5_slot_89 rfl ?_
  refine zw_cVi dX5_slot_91 (c_X5_bidsFor hm hw (by omega)) rfl okX5_bidsFor ml_X5_92 hm.i hm.k (by decide) rfl (Nat.le_of_ble_eq_true rfl) (Nat.le_of_ble_eq_true rfl) ?_
  exact zw_iretE dX5_slot_94 rfl (rfl) rfl (rfl)
set_option maxRecDepth 100000 in
set_option maxHeartbeats 4000000 in
theorem d_slot_5 {sh : Sh} {D : Mem} {m P : Nat} (hm : IsMo sh m) (hw : Wm D m P) {st h : Nat} (hst : st < 4) (hh : h < 24)  : Calls mX5_slot 3 0 0 [.inr (some (m)), .inl (nI (st)), .inl (nI (h)), .inl (nI (5))] sh (D) (some (.inl (D (m + 1) (92 + 5 * (24 * st + h) + 4)))) sh (D) := by
  refine Calls.of plX5 (Nat.le_of_ble_eq_true rfl) ?_
  have hP12 := hw.2.1
  show WP mX5_slot 3 0 0 0 [some (.inr (some (m))), some (.inl (nI (st))), some (.inl (nI (h))), some (.inl (nI (5))), none] [] sh (D) (some (.inl (D (m + 1) (92 + 5 * (24 * st + h) + 4)))) sh (D)
  refine zw_iload_n dX5_slot_0 rfl ?_
  refine zw_iload_n dX5_slot_1 rfl ?_
  refine zw_cSi dX5_slot_2 (c_X5_isSlot _ _) rfl okX5_isSlot ml_X5_75 (Nat.le_of_ble_eq_true rfl) (Nat.le_of_ble_eq_true rfl) ?_
  refine zw_if_ne_c (tgt := 10) dX5_slot_5 (by decide) (fun c5 => ?_) (fun c5 => absurd (inS_n hst hh) c5)
  refine zw_bipush (v := nI 24) dX5_slot_10 (by decide) ?_
  refine zw_iload_n dX5_slot_12 rfl ?_
  refine zw_imuln dX5_slot_13 ?_
  refine zw_iload_n dX5_slot_14 rfl ?_
  refine zw_iaddn dX5_slot_15 ?_
  refine zw_istore dX5_slot_16 (by decide) ?_
  refine zw_iload_n dX5_slot_18 rfl ?_
  refine zw_tswIn (tgt := 95) (off := 76) dX5_slot_19 (by decide) (by decide) (by decide) (by decide) ?_
  refine zw_aload_n dX5_slot_95 rfl ?_
  refine zw_iload dX5_slot_96 rfl ?_
  refine zw_iconst (v := nI 4) dX5_slot_98 (by decide) ?_
  refine zw_cVi dX5_slot_99 (c_X5_slotOf hm (by omega) (by omega)) rfl okX5_slotOf ml_X5_46 hm.i hm.k (by decide) rfl (Nat.le_of_ble_eq_true rfl) (Nat.le_of_ble_eq_true rfl) ?_
  exact zw_iretE dX5_slot_102 rfl (rfl) rfl (rfl)
set_option maxRecDepth 100000 in
set_option maxHeartbeats 4000000 in
theorem d_slot_bad {sh : Sh} {D : Mem} {m : Nat} (hm : IsMo sh m) (x y w : Int32) (hx : ¬ inS x y) : Calls mX5_slot 3 0 0 [.inr (some (m)), .inl (x), .inl (y), .inl (w)] sh (D) (some (.inl (-1))) sh (D) := by
  refine Calls.of plX5 (Nat.le_of_ble_eq_true rfl) ?_
  show WP mX5_slot 3 0 0 0 [some (.inr (some (m))), some (.inl (x)), some (.inl (y)), some (.inl (w)), none] [] sh (D) (some (.inl (-1))) sh (D)
  refine zw_iload_n dX5_slot_0 rfl ?_
  refine zw_iload_n dX5_slot_1 rfl ?_
  refine zw_cSi dX5_slot_2 (c_X5_isSlot _ _) rfl okX5_isSlot ml_X5_75 (Nat.le_of_ble_eq_true rfl) (Nat.le_of_ble_eq_true rfl) ?_
  refine zw_if_ne_c (tgt := 10) dX5_slot_5 (by decide) (fun c5 => absurd c5 hx) (fun c5 => ?_)
  refine zw_iconst (v := (-1)) dX5_slot_8 (by decide) ?_
  exact zw_iretE dX5_slot_9 rfl (rfl) rfl (rfl)
set_option maxRecDepth 100000 in
set_option maxHeartbeats 4000000 in
theorem d_slot_bad2 {sh : Sh} {D : Mem} {m P : Nat} (hm : IsMo sh m) (hw : Wm D m P) {st h : Nat} (hst : st < 4) (hh : h < 24) (w : Int32) (hy : w.toInt < 0 ∨ 5 < w.toInt) : Calls mX5_slot 3 0 0 [.inr (some (m)), .inl (nI (st)), .inl (nI (h)), .inl (w)] sh (D) (some (.inl (-1))) sh (D) := by
  refine Calls.of plX5 (Nat.le_of_ble_eq_true rfl) ?_
  have hP12 := hw.2.1
  show WP mX5_slot 3 0 0 0 [some (.inr (some (m))), some (.inl (nI (st))), some (.inl (nI (h))), some (.inl (w)), none] [] sh (D) (some (.inl (-1))) sh (D)
  refine zw_iload_n dX5_slot_0 rfl ?_
  refine zw_iload_n dX5_slot_1 rfl ?_
  refine zw_cSi dX5_slot_2 (c_X5_isSlot _ _) rfl okX5_isSlot ml_X5_75 (Nat.le_of_ble_eq_true rfl) (Nat.le_of_ble_eq_true rfl) ?_
  refine zw_if_ne_c (tgt := 10) dX5_slot_5 (by decide) (fun c5 => ?_) (fun c5 => absurd (inS_n hst hh) c5)
  refine zw_bipush (v := nI 24) dX5_slot_10 (by decide) ?_
  refine zw_iload_n dX5_slot_12 rfl ?_
  refine zw_imuln dX5_slot_13 ?_
  refine zw_iload_n dX5_slot_14 rfl ?_
  refine zw_iaddn dX5_slot_15 ?_
  refine zw_istore dX5_slot_16 (by decide) ?_
  refine zw_iload_n dX5_slot_18 rfl ?_
  refine zw_tswOut (tgt := 103) dX5_slot_19 hy (by decide) ?_
  refine zw_iconst (v := (-1)) dX5_slot_103 (by decide) ?_
  exact zw_iretE dX5_slot_104 rfl (rfl) rfl (rfl)
set_option maxRecDepth 100000 in
set_option maxHeartbeats 4000000 in
theorem d_bidOf_bad {sh : Sh} {D : Mem} {m P : Nat} (hm : IsMo sh m) (hw : Wm D m P) (x a h : Int32) (hx : ¬ (isP P x ∧ inS a h)) : Calls mX5_bidOf 3 0 0 [.inr (some (m)), .inl (x), .inl (a), .inl (h)] sh (D) (some (.inl (-1))) sh (D) := by
  refine Calls.of plX5 (Nat.le_of_ble_eq_true rfl) ?_
  have hP12 := hw.2.1
  show WP mX5_bidOf 3 0 0 0 [some (.inr (some (m))), some (.inl (x)), some (.inl (a)), some (.inl (h)), none] [] sh (D) (some (.inl (-1))) sh (D)
  refine zw_aload_n dX5_bidOf_0 rfl ?_
  refine zw_iload_n dX5_bidOf_1 rfl ?_
  refine zw_cVi dX5_bidOf_2 (c_X5_isPerson hm hw _) rfl okX5_isPerson ml_X5_61 hm.i hm.k (by decide) rfl (Nat.le_of_ble_eq_true rfl) (Nat.le_of_ble_eq_true rfl) ?_
  refine zw_if_eq_c (tgt := 16) dX5_bidOf_5 (by decide) (fun c5 => ?_) (fun c5 => ?_)
  · refine zw_iconst (v := (-1)) dX5_bidOf_16 (by decide) ?_
    exact zw_iretE dX5_bidOf_17 rfl (rfl) rfl (rfl)
  · refine zw_iload_n dX5_bidOf_8 rfl ?_
    refine zw_iload_n dX5_bidOf_9 rfl ?_
    refine zw_cSi dX5_bidOf_10 (c_X5_isSlot _ _) rfl okX5_isSlot ml_X5_75 (Nat.le_of_ble_eq_true rfl) (Nat.le_of_ble_eq_true rfl) ?_
    refine zw_if_ne_c (tgt := 18) dX5_bidOf_13 (by decide) (fun c13 => absurd (And.intro c5 c13) hx) (fun c13 => ?_)
    refine zw_iconst (v := (-1)) dX5_bidOf_16 (by decide) ?_
    exact zw_iretE dX5_bidOf_17 rfl (rfl) rfl (rfl)
set_option maxRecDepth 100000 in
set_option maxHeartbeats 4000000 in
theorem d_bidOf_ok {sh : Sh} {D : Mem} {m P : Nat} (hm : IsMo sh m) (hw : Wm D m P) {p : Nat} (hp : p < P) {st h : Nat} (hst : st < 4) (hh : h < 24)  : Calls mX5_bidOf 3 0 0 [.inr (some (m)), .inl (nI (p)), .inl (nI (st)), .inl (nI (h))] sh (D) (some (.inl (if dm D m p (24 * st + h) = 0 then (-9) else dm D m p (24 * st + h)))) sh (D) := by
  refine Calls.of plX5 (Nat.le_of_ble_eq_true rfl) ?_
  have hP12 := hw.2.1
  show WP mX5_bidOf 3 0 0 0 [some (.inr (some (m))), some (.inl (nI (p))), some (.inl (nI (st))), some (.inl (nI (h))), none] [] sh (D) (some (.inl (if dm D m p (24 * st + h) = 0 then (-9) else dm D m p (24 * st + h)))) sh (D)
  refine zw_aload_n dX5_bidOf_0 rfl ?_
  refine zw_iload_n dX5_bidOf_1 rfl ?_
  refine zw_cVi dX5_bidOf_2 (c_X5_isPerson hm hw _) rfl okX5_isPerson ml_X5_61 hm.i hm.k (by decide) rfl (Nat.le_of_ble_eq_true rfl) (Nat.le_of_ble_eq_true rfl) ?_
  refine zw_if_eq_c (tgt := 16) dX5_bidOf_5 (by decide) (fun c5 => absurd (isP_n hp) c5) (fun c5 => ?_)
  refine zw_iload_n dX5_bidOf_8 rfl ?_
  refine zw_iload_n dX5_bidOf_9 rfl ?_
  refine zw_cSi dX5_bidOf_10 (c_X5_isSlot _ _) rfl okX5_isSlot ml_X5_75 (Nat.le_of_ble_eq_true rfl) (Nat.le_of_ble_eq_true rfl) ?_
  refine zw_if_ne_c (tgt := 18) dX5_bidOf_13 (by decide) (fun c13 => ?_) (fun c13 => absurd (inS_n hst hh) c13)
  refine zw_aload_n dX5_bidOf_18 rfl ?_
  refine zw_iload_n dX5_bidOf_19 rfl ?_
  refine zw_bipush (v := nI 24) dX5_bidOf_20 (by decide) ?_
  refine zw_iload_n dX5_bidOf_22 rfl ?_
  refine zw_imuln dX5_bidOf_23 ?_
  refine zw_iload_n dX5_bidOf_24 rfl ?_
  refine zw_iaddn dX5_bidOf_25 ?_
  refine zw_cVi dX5_bidOf_26 (c_X5_bidAt hm (by omega) (by omega)) rfl okX5_bidAt ml_X5_35 hm.i hm.k (by decide) rfl (Nat.le_of_ble_eq_true rfl) (Nat.le_of_ble_eq_true rfl) ?_
  refine zw_istore dX5_bidOf_29 (by decide) ?_
  refine zw_iload dX5_bidOf_31 rfl ?_
  refine zw_if_ne (tgt := 41) dX5_bidOf_33 (by decide) (fun c33 => ?_) (fun c33 => ?_)
  · refine zw_iload dX5_bidOf_41 rfl ?_
    exact zw_iretE dX5_bidOf_43 rfl (by rw [if_neg c33]) rfl (rfl)
  · refine zw_bipush (v := (-9)) dX5_bidOf_36 (by decide) ?_
    refine zw_goto (tgt := 43) dX5_bidOf_38 (by decide) ?_
    exact zw_iretE dX5_bidOf_43 rfl (by rw [if_pos c33]) rfl (rfl)
set_option maxRecDepth 100000 in
set_option maxHeartbeats 4000000 in
theorem d_fund_bad {sh : Sh} {D : Mem} {m : Nat} (hm : IsMo sh m) (x : Int32) (hx : ¬ (nI 0 ≤ x ∧ x ≤ nI 3)) : Calls mX5_fund 1 0 0 [.inr (some (m)), .inl (x)] sh (D) (some (.inl (-1))) sh (D) := by
  refine Calls.of plX5 (Nat.le_of_ble_eq_true rfl) ?_
  show WP mX5_fund 1 0 0 0 [some (.inr (some (m))), some (.inl (x))] [] sh (D) (some (.inl (-1))) sh (D)
  refine zw_iload_n dX5_fund_0 rfl ?_
  refine zw_iconst (v := nI 0) dX5_fund_1 (by decide) ?_
  refine zw_iconst (v := nI 3) dX5_fund_2 (by decide) ?_
  refine zw_cSi dX5_fund_3 (c_X5_in _ _ _) rfl okX5_in ml_X5_31 (Nat.le_of_ble_eq_true rfl) (Nat.le_of_ble_eq_true rfl) ?_
  refine zw_if_eq_b (tgt := 20) dX5_fund_6 (by decide) (fun c6 => ?_) (fun c6 => absurd c6 hx)
  refine zw_iconst (v := (-1)) dX5_fund_20 (by decide) ?_
  exact zw_iretE dX5_fund_21 rfl (rfl) rfl (rfl)
set_option maxRecDepth 100000 in
set_option maxHeartbeats 4000000 in
theorem d_fund_ok {sh : Sh} {D : Mem} {m : Nat} (hm : IsMo sh m) {st : Nat} (hst : st < 4) : Calls mX5_fund 1 0 0 [.inr (some (m)), .inl (nI (st))] sh (D) (some (.inl (D (m + 1) (4 + st)))) sh (D) := by
  refine Calls.of plX5 (Nat.le_of_ble_eq_true rfl) ?_
  show WP mX5_fund 1 0 0 0 [some (.inr (some (m))), some (.inl (nI (st)))] [] sh (D) (some (.inl (D (m + 1) (4 + st)))) sh (D)
  refine zw_iload_n dX5_fund_0 rfl ?_
  refine zw_iconst (v := nI 0) dX5_fund_1 (by decide) ?_
  refine zw_iconst (v := nI 3) dX5_fund_2 (by decide) ?_
  refine zw_cSi dX5_fund_3 (c_X5_in _ _ _) rfl okX5_in ml_X5_31 (Nat.le_of_ble_eq_true rfl) (Nat.le_of_ble_eq_true rfl) ?_
  refine zw_if_eq_b (tgt := 20) dX5_fund_6 (by decide) (fun c6 => absurd (isSt_n hst) c6) (fun c6 => ?_)
  refine zw_aload_n dX5_fund_9 rfl ?_
  refine zw_getR (j := 0) (kd := 5) dX5_fund_10 hm.i hm.k (by decide) (by decide) fl_X5_7 rfl hm.r0 ?_
  refine zw_iconst (v := nI 4) dX5_fund_13 (by decide) ?_
  refine zw_iload_n dX5_fund_14 rfl ?_
  refine zw_iaddn dX5_fund_15 ?_
  refine zw_iald dX5_fund_16 hm.i0 hm.k0 hm.L0 rfl (by rw [hm.n0]; omega) ?_
  refine zw_goto (tgt := 21) dX5_fund_17 (by decide) ?_
  exact zw_iretE dX5_fund_21 rfl (rfl) rfl (rfl)
set_option maxRecDepth 100000 in
set_option maxHeartbeats 4000000 in
theorem d_winner_bad {sh : Sh} {D : Mem} {m : Nat} (hm : IsMo sh m) (x y : Int32) (hx : ¬ inS x y) : Calls mX5_winner 4 0 0 [.inr (some (m)), .inl (x), .inl (y)] sh (D) (some (.inl (-1))) sh (D) := by
  refine Calls.of plX5 (Nat.le_of_ble_eq_true rfl) ?_
  show WP mX5_winner 4 0 0 0 [some (.inr (some (m))), some (.inl (x)), some (.inl (y))] [] sh (D) (some (.inl (-1))) sh (D)
  refine zw_iload_n dX5_winner_0 rfl ?_
  refine zw_iload_n dX5_winner_1 rfl ?_
  refine zw_cSi dX5_winner_2 (c_X5_isSlot _ _) rfl okX5_isSlot ml_X5_75 (Nat.le_of_ble_eq_true rfl) (Nat.le_of_ble_eq_true rfl) ?_
  refine zw_if_eq_c (tgt := 21) dX5_winner_5 (by decide) (fun c5 => ?_) (fun c5 => absurd c5 hx)
  refine zw_iconst (v := (-1)) dX5_winner_21 (by decide) ?_
  exact zw_iretE dX5_winner_22 rfl (rfl) rfl (rfl)
set_option maxRecDepth 100000 in
set_option maxHeartbeats 4000000 in
theorem d_winner_ok {sh : Sh} {D : Mem} {m P : Nat} (hm : IsMo sh m) (hw : Wm D m P) {st h : Nat} (hst : st < 4) (hh : h < 24)  : Calls mX5_winner 4 0 0 [.inr (some (m)), .inl (nI (st)), .inl (nI (h))] sh (D) (some (.inl (wnF D m P (24 * st + h)))) sh (D) := by
  refine Calls.of plX5 (Nat.le_of_ble_eq_true rfl) ?_
  have hP12 := hw.2.1
  show WP mX5_winner 4 0 0 0 [some (.inr (some (m))), some (.inl (nI (st))), some (.inl (nI (h)))] [] sh (D) (some (.inl (wnF D m P (24 * st + h)))) sh (D)
  refine zw_iload_n dX5_winner_0 rfl ?_
  refine zw_iload_n dX5_winner_1 rfl ?_
  refine zw_cSi dX5_winner_2 (c_X5_isSlot _ _) rfl okX5_isSlot ml_X5_75 (Nat.le_of_ble_eq_true rfl) (Nat.le_of_ble_eq_true rfl) ?_
  refine zw_if_eq_c (tgt := 21) dX5_winner_5 (by decide) (fun c5 => absurd (inS_n hst hh) c5) (fun c5 => ?_)
  refine zw_aload_n dX5_winner_8 rfl ?_
  refine zw_bipush (v := nI 24) dX5_winner_9 (by decide) ?_
  refine zw_iload_n dX5_winner_11 rfl ?_
  refine zw_imuln dX5_winner_12 ?_
  refine zw_iload_n dX5_winner_13 rfl ?_
  refine zw_iaddn dX5_winner_14 ?_
  refine zw_cVi dX5_winner_15 (c_X5_winnerOf hm hw (by omega)) rfl okX5_winnerOf ml_X5_104 hm.i hm.k (by decide) rfl (Nat.le_of_ble_eq_true rfl) (Nat.le_of_ble_eq_true rfl) ?_
  refine zw_goto (tgt := 22) dX5_winner_18 (by decide) ?_
  exact zw_iretE dX5_winner_22 rfl (rfl) rfl (rfl)
def lkF (D : Mem) (m P s : Nat) (sd : Int32) : Int32 := (if sd = 0 then sD D m P s (nI 1) - qD D m P s else qD D m P s - sD D m P s (nI 1)) + (if tdF D m s = sd then nI 0 else nI 1)
def ndF (D : Mem) (m P s : Nat) (sd : Int32) : Int32 := if wnF D m P s = sd then nI 0 else if lkF D m P s sd < nI 1 then nI 1 else lkF D m P s sd
set_option maxRecDepth 100000 in
set_option maxHeartbeats 4000000 in
theorem d_needed_bad {sh : Sh} {D : Mem} {m : Nat} (hm : IsMo sh m) (x y sd : Int32) (hx : ¬ (inS x y ∧ (nI 0 ≤ sd ∧ sd ≤ nI 1))) : Calls mX5_needed 4 0 0 [.inr (some (m)), .inl (x), .inl (y), .inl (sd)] sh (D) (some (.inl (-1))) sh (D) := by
  refine Calls.of plX5 (Nat.le_of_ble_eq_true rfl) ?_
  show WP mX5_needed 4 0 0 0 [some (.inr (some (m))), some (.inl (x)), some (.inl (y)), some (.inl (sd)), none, none, none, none] [] sh (D) (some (.inl (-1))) sh (D)
  refine zw_iload_n dX5_needed_0 rfl ?_
  refine zw_iload_n dX5_needed_1 rfl ?_
  refine zw_cSi dX5_needed_2 (c_X5_isSlot _ _) rfl okX5_isSlot ml_X5_75 (Nat.le_of_ble_eq_true rfl) (Nat.le_of_ble_eq_true rfl) ?_
  refine zw_if_eq_c (tgt := 17) dX5_needed_5 (by decide) (fun c5 => ?_) (fun c5 => ?_)
  · refine zw_iconst (v := (-1)) dX5_needed_17 (by decide) ?_
    exact zw_iretE dX5_needed_18 rfl (rfl) rfl (rfl)
  · refine zw_iload_n dX5_needed_8 rfl ?_
    refine zw_iconst (v := nI 0) dX5_needed_9 (by decide) ?_
    refine zw_iconst (v := nI 1) dX5_needed_10 (by decide) ?_
    refine zw_cSi dX5_needed_11 (c_X5_in _ _ _) rfl okX5_in ml_X5_31 (Nat.le_of_ble_eq_true rfl) (Nat.le_of_ble_eq_true rfl) ?_
    refine zw_if_ne_b (tgt := 19) dX5_needed_14 (by decide) (fun c14 => absurd (And.intro c5 c14) hx) (fun c14 => ?_)
    refine zw_iconst (v := (-1)) dX5_needed_17 (by decide) ?_
    exact zw_iretE dX5_needed_18 rfl (rfl) rfl (rfl)
set_option maxRecDepth 100000 in
set_option maxHeartbeats 4000000 in
theorem d_needed_ok {sh : Sh} {D : Mem} {m P : Nat} (hm : IsMo sh m) (hw : Wm D m P) {st h : Nat} (hst : st < 4) (hh : h < 24) (sd : Int32) (hsd : (nI 0 ≤ sd ∧ sd ≤ nI 1)) : Calls mX5_needed 4 0 0 [.inr (some (m)), .inl (nI (st)), .inl (nI (h)), .inl (sd)] sh (D) (some (.inl (ndF D m P (24 * st + h) sd))) sh (D) := by
  refine Calls.of plX5 (Nat.le_of_ble_eq_true rfl) ?_
  have hP12 := hw.2.1
  show WP mX5_needed 4 0 0 0 [some (.inr (some (m))), some (.inl (nI (st))), some (.inl (nI (h))), some (.inl (sd)), none, none, none, none] [] sh (D) (some (.inl (ndF D m P (24 * st + h) sd))) sh (D)
  refine zw_iload_n dX5_needed_0 rfl ?_
  refine zw_iload_n dX5_needed_1 rfl ?_
  refine zw_cSi dX5_needed_2 (c_X5_isSlot _ _) rfl okX5_isSlot ml_X5_75 (Nat.le_of_ble_eq_true rfl) (Nat.le_of_ble_eq_true rfl) ?_
  refine zw_if_eq_c (tgt := 17) dX5_needed_5 (by decide) (fun c5 => absurd (inS_n hst hh) c5) (fun c5 => ?_)
  refine zw_iload_n dX5_needed_8 rfl ?_
  refine zw_iconst (v := nI 0) dX5_needed_9 (by decide) ?_
  refine zw_iconst (v := nI 1) dX5_needed_10 (by decide) ?_
  refine zw_cSi dX5_needed_11 (c_X5_in _ _ _) rfl okX5_in ml_X5_31 (Nat.le_of_ble_eq_true rfl) (Nat.le_of_ble_eq_true rfl) ?_
  refine zw_if_ne_b (tgt := 19) dX5_needed_14 (by decide) (fun c14 => ?_) (fun c14 => absurd hsd c14)
  refine zw_bipush (v := nI 24) dX5_needed_19 (by decide) ?_
  refine zw_iload_n dX5_needed_21 rfl ?_
  refine zw_imuln dX5_needed_22 ?_
  refine zw_iload_n dX5_needed_23 rfl ?_
  refine zw_iaddn dX5_needed_24 ?_
  refine zw_istore dX5_needed_25 (by decide) ?_
  refine zw_aload_n dX5_needed_27 rfl ?_
  refine zw_iload dX5_needed_28 rfl ?_
  refine zw_cVi dX5_needed_30 (c_X5_winnerOf hm hw (by omega)) rfl okX5_winnerOf ml_X5_104 hm.i hm.k (by decide) rfl (Nat.le_of_ble_eq_true rfl) (Nat.le_of_ble_eq_true rfl) ?_
  refine zw_iload_n dX5_needed_33 rfl ?_
  refine zw_icmp_ne (tgt := 39) dX5_needed_34 (by decide) (fun c34 => ?_) (fun c34 => ?_)
  · refine zw_aload_n dX5_needed_39 rfl ?_
    refine zw_iload dX5_needed_40 rfl ?_
    refine zw_iconst (v := nI 0) dX5_needed_42 (by decide) ?_
    refine zw_cVi dX5_needed_43 (c_X5_sumOf hm hw (by omega) _) rfl okX5_sumOf ml_X5_95 hm.i hm.k (by decide) rfl (Nat.le_of_ble_eq_true rfl) (Nat.le_of_ble_eq_true rfl) ?_
    refine zw_aload_n dX5_needed_46 rfl ?_
    refine zw_iload dX5_needed_47 rfl ?_
    refine zw_iconst (v := nI 1) dX5_needed_49 (by decide) ?_
    refine zw_cVi dX5_needed_50 (c_X5_slotOf hm (by omega) (by omega)) rfl okX5_slotOf ml_X5_46 hm.i hm.k (by decide) rfl (Nat.le_of_ble_eq_true rfl) (Nat.le_of_ble_eq_true rfl) ?_
    refine zw_iadd dX5_needed_53 ?_
    refine zw_istore dX5_needed_54 (by decide) ?_
    refine zw_aload_n dX5_needed_56 rfl ?_
    refine zw_iload dX5_needed_57 rfl ?_
    refine zw_iconst (v := nI 1) dX5_needed_59 (by decide) ?_
    refine zw_cVi dX5_needed_60 (c_X5_sumOf hm hw (by omega) _) rfl okX5_sumOf ml_X5_95 hm.i hm.k (by decide) rfl (Nat.le_of_ble_eq_true rfl) (Nat.le_of_ble_eq_true rfl) ?_
    refine zw_istore dX5_needed_63 (by decide) ?_
    refine zw_iload_n dX5_needed_65 rfl ?_
    refine zw_if_ne (tgt := 77) dX5_needed_66 (by decide) (fun c66 => ?_) (fun c66 => ?_)
    · refine zw_iload dX5_needed_77 rfl ?_
      refine zw_iload dX5_needed_79 rfl ?_
      refine zw_isub dX5_needed_81 ?_
      refine zw_aload_n dX5_needed_82 rfl ?_
      refine zw_iload dX5_needed_83 rfl ?_
      refine zw_cVi dX5_needed_85 (c_X5_tied hm (by omega)) rfl okX5_tied ml_X5_98 hm.i hm.k (by decide) rfl (Nat.le_of_ble_eq_true rfl) (Nat.le_of_ble_eq_true rfl) ?_
      refine zw_iload_n dX5_needed_88 rfl ?_
      refine zw_icmp_ne (tgt := 96) dX5_needed_89 (by decide) (fun c89 => ?_) (fun c89 => ?_)
      · refine zw_iconst (v := nI 1) dX5_needed_96 (by decide) ?_
        refine zw_iadd dX5_needed_97 ?_
        refine zw_istore dX5_needed_98 (by decide) ?_
        refine zw_iload dX5_needed_100 rfl ?_
        refine zw_iconst (v := nI 1) dX5_needed_102 (by decide) ?_
        refine zw_icmp_ge (tgt := 110) dX5_needed_103 (by decide) (fun c103 => ?_) (fun c103 => ?_)
        · refine zw_iload dX5_needed_110 rfl ?_
          exact zw_iretE dX5_needed_112 rfl (by unfold ndF; rw [if_neg c34, show lkF D m P (24 * st + h) sd = _ by unfold lkF qD; rw [if_neg c66, if_neg c89], if_neg c103] <;> rfl) rfl (rfl)
        · refine zw_iconst (v := nI 1) dX5_needed_106 (by decide) ?_
          refine zw_goto (tgt := 112) dX5_needed_107 (by decide) ?_
          exact zw_iretE dX5_needed_112 rfl (by unfold ndF; rw [if_neg c34, show lkF D m P (24 * st + h) sd = _ by unfold lkF qD; rw [if_neg c66, if_neg c89], if_pos c103] <;> rfl) rfl (rfl)
      · refine zw_iconst (v := nI 0) dX5_needed_92 (by decide) ?_
        refine zw_goto (tgt := 97) dX5_needed_93 (by decide) ?_
        refine zw_iadd dX5_needed_97 ?_
        refine zw_istore dX5_needed_98 (by decide) ?_
        refine zw_iload dX5_needed_100 rfl ?_
        refine zw_iconst (v := nI 1) dX5_needed_102 (by decide) ?_
        refine zw_icmp_ge (tgt := 110) dX5_needed_103 (by decide) (fun c103 => ?_) (fun c103 => ?_)
        · refine zw_iload dX5_needed_110 rfl ?_
          exact zw_iretE dX5_needed_112 rfl (by unfold ndF; rw [if_neg c34, show lkF D m P (24 * st + h) sd = _ by unfold lkF qD; rw [if_neg c66, if_pos c89], if_neg c103] <;> rfl) rfl (rfl)
        · refine zw_iconst (v := nI 1) dX5_needed_106 (by decide) ?_
          refine zw_goto (tgt := 112) dX5_needed_107 (by decide) ?_
          exact zw_iretE dX5_needed_112 rfl (by unfold ndF; rw [if_neg c34, show lkF D m P (24 * st + h) sd = _ by unfold lkF qD; rw [if_neg c66, if_pos c89], if_pos c103] <;> rfl) rfl (rfl)
    · refine zw_iload dX5_needed_69 rfl ?_
      refine zw_iload dX5_needed_71 rfl ?_
      refine zw_isub dX5_needed_73 ?_
      refine zw_goto (tgt := 82) dX5_needed_74 (by decide) ?_
      refine zw_aload_n dX5_needed_82 rfl ?_
      refine zw_iload dX5_needed_83 rfl ?_
      refine zw_cVi dX5_needed_85 (c_X5_tied hm (by omega)) rfl okX5_tied ml_X5_98 hm.i hm.k (by decide) rfl (Nat.le_of_ble_eq_true rfl) (Nat.le_of_ble_eq_true rfl) ?_
      refine zw_iload_n dX5_needed_88 rfl ?_
      refine zw_icmp_ne (tgt := 96) dX5_needed_89 (by decide) (fun c89 => ?_) (fun c89 => ?_)
      · refine zw_iconst (v := nI 1) dX5_needed_96 (by decide) ?_
        refine zw_iadd dX5_needed_97 ?_
        refine zw_istore dX5_needed_98 (by decide) ?_
        refine zw_iload dX5_needed_100 rfl ?_
        refine zw_iconst (v := nI 1) dX5_needed_102 (by decide) ?_
        refine zw_icmp_ge (tgt := 110) dX5_needed_103 (by decide) (fun c103 => ?_) (fun c103 => ?_)
        · refine zw_iload dX5_needed_110 rfl ?_
          exact zw_iretE dX5_needed_112 rfl (by unfold ndF; rw [if_neg c34, show lkF D m P (24 * st + h) sd = _ by unfold lkF qD; rw [if_pos c66, if_neg c89], if_neg c103] <;> rfl) rfl (rfl)
        · refine zw_iconst (v := nI 1) dX5_needed_106 (by decide) ?_
          refine zw_goto (tgt := 112) dX5_needed_107 (by decide) ?_
          exact zw_iretE dX5_needed_112 rfl (by unfold ndF; rw [if_neg c34, show lkF D m P (24 * st + h) sd = _ by unfold lkF qD; rw [if_pos c66, if_neg c89], if_pos c103] <;> rfl) rfl (rfl)
      · refine zw_iconst (v := nI 0) dX5_needed_92 (by decide) ?_
        refine zw_goto (tgt := 97) dX5_needed_93 (by decide) ?_
        refine zw_iadd dX5_needed_97 ?_
        refine zw_istore dX5_needed_98 (by decide) ?_
        refine zw_iload dX5_needed_100 rfl ?_
        refine zw_iconst (v := nI 1) dX5_needed_102 (by decide) ?_
        refine zw_icmp_ge (tgt := 110) dX5_needed_103 (by decide) (fun c103 => ?_) (fun c103 => ?_)
        · refine zw_iload dX5_needed_110 rfl ?_
          exact zw_iretE dX5_needed_112 rfl (by unfold ndF; rw [if_neg c34, show lkF D m P (24 * st + h) sd = _ by unfold lkF qD; rw [if_pos c66, if_pos c89], if_neg c103] <;> rfl) rfl (rfl)
        · refine zw_iconst (v := nI 1) dX5_needed_106 (by decide) ?_
          refine zw_goto (tgt := 112) dX5_needed_107 (by decide) ?_
          exact zw_iretE dX5_needed_112 rfl (by unfold ndF; rw [if_neg c34, show lkF D m P (24 * st + h) sd = _ by unfold lkF qD; rw [if_pos c66, if_pos c89], if_pos c103] <;> rfl) rfl (rfl)
  · refine zw_iconst (v := nI 0) dX5_needed_37 (by decide) ?_
    exact zw_iretE dX5_needed_38 rfl (by unfold ndF; rw [if_pos c34]) rfl (rfl)
set_option maxRecDepth 100000 in
set_option maxHeartbeats 4000000 in
theorem d_purseThen_bad {sh : Sh} {D : Mem} {m P : Nat} (hm : IsMo sh m) (hw : Wm D m P) (x : Int32) (hx : ¬ isP P x) : Calls mX5_purseThen 6 0 0 [.inr (some (m)), .inl (x)] sh (D) (some (.inl (-1))) sh (D) := by
  refine Calls.of plX5 (Nat.le_of_ble_eq_true rfl) ?_
  have hP12 := hw.2.1
  show WP mX5_purseThen 6 0 0 0 [some (.inr (some (m))), some (.inl (x)), none] [] sh (D) (some (.inl (-1))) sh (D)
  refine zw_aload_n dX5_purseThen_0 rfl ?_
  refine zw_iload_n dX5_purseThen_1 rfl ?_
  refine zw_cVi dX5_purseThen_2 (c_X5_isPerson hm hw _) rfl okX5_isPerson ml_X5_61 hm.i hm.k (by decide) rfl (Nat.le_of_ble_eq_true rfl) (Nat.le_of_ble_eq_true rfl) ?_
  refine zw_if_ne_c (tgt := 10) dX5_purseThen_5 (by decide) (fun c5 => absurd c5 hx) (fun c5 => ?_)
  refine zw_iconst (v := (-1)) dX5_purseThen_8 (by decide) ?_
  exact zw_iretE dX5_purseThen_9 rfl (rfl) rfl (rfl)
theorem BkOk.as {D : Mem} {m : Nat} (hB : BkOk D m) : BkOk (asM D m) m := fun p s hp hs => by
  have := hB p s hp hs
  unfold dm at this ⊢
  rw [asM_a (by omega)]
  exact this
set_option maxRecDepth 100000 in
set_option maxHeartbeats 4000000 in
theorem d_purseThen_ok {sh : Sh} {D : Mem} {m P : Nat} (hm : IsMo sh m) (hw : Wm D m P) {p : Nat} (hp : p < P) (hB : BkOk D m) : Calls mX5_purseThen 6 0 0 [.inr (some (m)), .inl (nI (p))] sh (D) (some (.inl (saM (asM D m) m P (m + 1) (8 + 7 * p + 0)))) sh (baM (saM (asM D m) m P) m) := by
  refine Calls.of plX5 (Nat.le_of_ble_eq_true rfl) ?_
  have hP12 := hw.2.1
  show WP mX5_purseThen 6 0 0 0 [some (.inr (some (m))), some (.inl (nI (p))), none] [] sh (D) (some (.inl (saM (asM D m) m P (m + 1) (8 + 7 * p + 0)))) sh (baM (saM (asM D m) m P) m)
  refine zw_aload_n dX5_purseThen_0 rfl ?_
  refine zw_iload_n dX5_purseThen_1 rfl ?_
  refine zw_cVi dX5_purseThen_2 (c_X5_isPerson hm hw _) rfl okX5_isPerson ml_X5_61 hm.i hm.k (by decide) rfl (Nat.le_of_ble_eq_true rfl) (Nat.le_of_ble_eq_true rfl) ?_
  refine zw_if_ne_c (tgt := 10) dX5_purseThen_5 (by decide) (fun c5 => ?_) (fun c5 => absurd (isP_n hp) c5)
  refine zw_aload_n dX5_purseThen_10 rfl ?_
  refine zw_cVv dX5_purseThen_11 (c_X5_asides hm) rfl okX5_asides ml_X5_79 hm.i hm.k (by decide) rfl (Nat.le_of_ble_eq_true rfl) (Nat.le_of_ble_eq_true rfl) ?_
  refine zw_aload_n dX5_purseThen_14 rfl ?_
  refine zw_cVv dX5_purseThen_15 (c_X5_settlesAll hm (hw.as) (hB.as)) rfl okX5_settlesAll ml_X5_111 hm.i hm.k (by decide) rfl (Nat.le_of_ble_eq_true rfl) (Nat.le_of_ble_eq_true rfl) ?_
  refine zw_aload_n dX5_purseThen_18 rfl ?_
  refine zw_iload_n dX5_purseThen_19 rfl ?_
  refine zw_iconst (v := nI 0) dX5_purseThen_20 (by decide) ?_
  refine zw_cVi dX5_purseThen_21 (c_X5_of hm (by omega) (by omega)) rfl okX5_of ml_X5_43 hm.i hm.k (by decide) rfl (Nat.le_of_ble_eq_true rfl) (Nat.le_of_ble_eq_true rfl) ?_
  refine zw_istore_n dX5_purseThen_24 (by decide) ?_
  refine zw_aload_n dX5_purseThen_25 rfl ?_
  refine zw_cVv dX5_purseThen_26 (c_X5_backs hm) rfl okX5_backs ml_X5_89 hm.i hm.k (by decide) rfl (Nat.le_of_ble_eq_true rfl) (Nat.le_of_ble_eq_true rfl) ?_
  refine zw_iload_n dX5_purseThen_29 rfl ?_
  exact zw_iretE dX5_purseThen_30 rfl (rfl) rfl (rfl)
def zr (f : Nat → Int32) : Nat → Nat
  | 0 => 0
  | k + 1 => if f k = 0 then zr f k + 1 else 0
def zl (f : Nat → Int32) : Nat → Nat
  | 0 => 0
  | k + 1 => max (zl f k) (zr f (k + 1))
def zf (f : Nat → Int32) : Nat → Int32
  | 0 => (-9)
  | k + 1 => if zl f k < zr f (k + 1) then nI k - nI (zr f (k + 1)) + nI 1 else zf f k
theorem zr_le (f : Nat → Int32) : ∀ k, zr f k ≤ k
  | 0 => Nat.le_refl 0
  | k + 1 => by
    have := zr_le f k
    unfold zr
    split <;> omega
theorem zl_le (f : Nat → Int32) : ∀ k, zl f k ≤ k
  | 0 => Nat.le_refl 0
  | k + 1 => by
    have := zl_le f k
    have := zr_le f (k + 1)
    unfold zl
    omega
abbrev owD (D : Mem) (m st : Nat) : Nat → Int32 := fun h => D (m + 1) (92 + 5 * (24 * st + h) + 0)
set_option maxRecDepth 100000 in
set_option maxHeartbeats 4000000 in
theorem d_quiet_0 {sh : Sh} {D : Mem} {m : Nat} (hm : IsMo sh m) {st : Nat} (hst : st < 4) : Calls mX5_quiet 1 0 0 [.inr (some (m)), .inl (nI (st)), .inl (nI (0))] sh (D) (some (.inl (sm (fun h => if owD D m st h = 0 then nI 1 else nI 0) 24))) sh (D) := by
  refine Calls.of plX5 (Nat.le_of_ble_eq_true rfl) ?_
  show WP mX5_quiet 1 0 0 0 [some (.inr (some (m))), some (.inl (nI (st))), some (.inl (nI (0))), none, none, none, none, none, none] [] sh (D) (some (.inl (sm (fun h => if owD D m st h = 0 then nI 1 else nI 0) 24))) sh (D)
  refine zw_iload_n dX5_quiet_0 rfl ?_
  refine zw_iconst (v := nI 0) dX5_quiet_1 (by decide) ?_
  refine zw_iconst (v := nI 3) dX5_quiet_2 (by decide) ?_
  refine zw_cSi dX5_quiet_3 (c_X5_in _ _ _) rfl okX5_in ml_X5_31 (Nat.le_of_ble_eq_true rfl) (Nat.le_of_ble_eq_true rfl) ?_
  refine zw_if_eq_b (tgt := 18) dX5_quiet_6 (by decide) (fun c6 => absurd (isSt_n hst) c6) (fun c6 => ?_)
  refine zw_iload_n dX5_quiet_9 rfl ?_
  refine zw_iconst (v := nI 0) dX5_quiet_10 (by decide) ?_
  refine zw_iconst (v := nI 2) dX5_quiet_11 (by decide) ?_
  refine zw_cSi dX5_quiet_12 (c_X5_in _ _ _) rfl okX5_in ml_X5_31 (Nat.le_of_ble_eq_true rfl) (Nat.le_of_ble_eq_true rfl) ?_
  refine zw_if_ne_b (tgt := 20) dX5_quiet_15 (by decide) (fun c15 => ?_) (fun c15 => absurd (by decide) c15)
  refine zw_iconst (v := nI 0) dX5_quiet_20 (by decide) ?_
  refine zw_istore_n dX5_quiet_21 (by decide) ?_
  refine zw_iconst (v := nI 0) dX5_quiet_22 (by decide) ?_
  refine zw_istore dX5_quiet_23 (by decide) ?_
  refine zw_iconst (v := nI 0) dX5_quiet_25 (by decide) ?_
  refine zw_istore dX5_quiet_26 (by decide) ?_
  refine zw_bipush (v := (-9)) dX5_quiet_28 (by decide) ?_
  refine zw_istore dX5_quiet_30 (by decide) ?_
  refine zw_iconst (v := nI 0) dX5_quiet_32 (by decide) ?_
  refine zw_istore dX5_quiet_33 (by decide) ?_
  have L35 : ∀ (n_35 k : Nat), k + n_35 = 24 → WP mX5_quiet 1 0 0 35 [some (.inr (some (m))), some (.inl (nI (st))), some (.inl (nI (0))), some (.inl (sm (fun h => if owD D m st h = 0 then nI 1 else nI 0) (k))), some (.inl (nI (zr (owD D m st) (k)))), some (.inl (nI (zl (owD D m st) (k)))), some (.inl (zf (owD D m st) (k))), some (.inl (nI (k))), none] [] sh (D) (some (.inl (sm (fun h => if owD D m st h = 0 then nI 1 else nI 0) 24))) sh (D) := by
    intro n_35
    induction n_35 with
    | zero =>
      intro k hk35
      have ek35 : 24 = k := by omega
      subst ek35
      refine zw_iload dX5_quiet_35 rfl ?_
      refine zw_bipush (v := nI 24) dX5_quiet_37 (by decide) ?_
      refine zw_icmp_ge_n (tgt := 135) dX5_quiet_39 (by decide) (by omega) (by omega) (fun c39 => ?_) (fun c39 => by omega)
      refine zw_iload_n dX5_quiet_135 rfl ?_
      refine zw_if_ne_n (tgt := 143) dX5_quiet_136 (by decide) (by omega) (fun c136 => by omega) (fun c136 => ?_)
      refine zw_iload_n dX5_quiet_139 rfl ?_
      refine zw_goto (tgt := 155) dX5_quiet_140 (by decide) ?_
      exact zw_iretE dX5_quiet_155 rfl (rfl) rfl (rfl)
    | succ n_35 ih35 =>
      intro k hk35
      have hlt35 : k < 24 := by omega
      refine zw_iload dX5_quiet_35 rfl ?_
      refine zw_bipush (v := nI 24) dX5_quiet_37 (by decide) ?_
      refine zw_icmp_ge_n (tgt := 135) dX5_quiet_39 (by decide) (by omega) (by omega) (fun c39 => by omega) (fun c39 => ?_)
      refine zw_aload_n dX5_quiet_42 rfl ?_
      refine zw_bipush (v := nI 24) dX5_quiet_43 (by decide) ?_
      refine zw_iload_n dX5_quiet_45 rfl ?_
      refine zw_imuln dX5_quiet_46 ?_
      refine zw_iload dX5_quiet_47 rfl ?_
      refine zw_iaddn dX5_quiet_49 ?_
      refine zw_iconst (v := nI 0) dX5_quiet_50 (by decide) ?_
      refine zw_cVi dX5_quiet_51 (c_X5_slotOf hm (by omega) (by omega)) rfl okX5_slotOf ml_X5_46 hm.i hm.k (by decide) rfl (Nat.le_of_ble_eq_true rfl) (Nat.le_of_ble_eq_true rfl) ?_
      refine zw_if_ne (tgt := 61) dX5_quiet_54 (by decide) (fun c54 => ?_) (fun c54 => ?_)
      · refine zw_iconst (v := nI 0) dX5_quiet_61 (by decide) ?_
        refine zw_istore dX5_quiet_62 (by decide) ?_
        refine zw_iload_n dX5_quiet_64 rfl ?_
        refine zw_iload dX5_quiet_65 rfl ?_
        refine zw_if_eq_n (tgt := 74) dX5_quiet_67 (by decide) (by omega) (fun c67 => ?_) (fun c67 => by omega)
        refine zw_iconst (v := nI 0) dX5_quiet_74 (by decide) ?_
        refine zw_iadd dX5_quiet_75 ?_
        refine zw_istore_n dX5_quiet_76 (by decide) ?_
        refine zw_iload dX5_quiet_77 rfl ?_
        refine zw_if_eq_n (tgt := 89) dX5_quiet_79 (by decide) (by omega) (fun c79 => ?_) (fun c79 => by omega)
        refine zw_iconst (v := nI 0) dX5_quiet_89 (by decide) ?_
        refine zw_istore dX5_quiet_90 (by decide) ?_
        have e4 : zr (owD D m st) (k + 1) = 0 := by
          simp only [zr]
          rw [if_neg c54]
        have b1 := zl_le (owD D m st) k
        have b2 := zr_le (owD D m st) k
        refine zw_iload dX5_quiet_92 rfl ?_
        refine zw_iload dX5_quiet_94 rfl ?_
        refine zw_icmp_le_n (tgt := 109) dX5_quiet_96 (by decide) (by omega) (by omega) (fun c96 => ?_) (fun c96 => ?_)
        · refine zw_iload dX5_quiet_109 rfl ?_
          refine zw_istore dX5_quiet_111 (by decide) ?_
          refine zw_iload dX5_quiet_113 rfl ?_
          refine zw_iload dX5_quiet_115 rfl ?_
          refine zw_icmp_le_n (tgt := 125) dX5_quiet_117 (by decide) (by omega) (by omega) (fun c117 => ?_) (fun c117 => by omega)
          refine zw_iload dX5_quiet_125 rfl ?_
          refine zw_istore dX5_quiet_127 (by decide) ?_
          refine zw_iincn dX5_quiet_129 rfl (by decide) ?_
          refine zw_goto (tgt := 35) dX5_quiet_132 (by decide) ?_
          exact WP.sub (ih35 (k + 1) (by omega)) ⟨rfl, rfl, rfl, (hd_eq (by simp only [sm]; rw [if_neg c54])), (hd_eq (congrArg nI e4.symm)), (hd_eq (congrArg nI (by simp only [zl]; omega))), (hd_eq (by simp only [zf]; rw [if_neg (by omega)])), rfl, trivial⟩
        · refine zw_iload dX5_quiet_99 rfl ?_
          refine zw_iload dX5_quiet_101 rfl ?_
          refine zw_isub dX5_quiet_103 ?_
          refine zw_iconst (v := nI 1) dX5_quiet_104 (by decide) ?_
          refine zw_iadd dX5_quiet_105 ?_
          refine zw_goto (tgt := 111) dX5_quiet_106 (by decide) ?_
          refine zw_istore dX5_quiet_111 (by decide) ?_
          refine zw_iload dX5_quiet_113 rfl ?_
          refine zw_iload dX5_quiet_115 rfl ?_
          refine zw_icmp_le_n (tgt := 125) dX5_quiet_117 (by decide) (by omega) (by omega) (fun c117 => by omega) (fun c117 => ?_)
          refine zw_iload dX5_quiet_120 rfl ?_
          refine zw_goto (tgt := 127) dX5_quiet_122 (by decide) ?_
          refine zw_istore dX5_quiet_127 (by decide) ?_
          refine zw_iincn dX5_quiet_129 rfl (by decide) ?_
          refine zw_goto (tgt := 35) dX5_quiet_132 (by decide) ?_
          exact WP.sub (ih35 (k + 1) (by omega)) ⟨rfl, rfl, rfl, (hd_eq (by simp only [sm]; rw [if_neg c54])), (hd_eq (congrArg nI e4.symm)), (hd_eq (congrArg nI (by simp only [zl]; omega))), (hd_eq (by simp only [zf]; rw [if_pos (by omega), e4])), rfl, trivial⟩
      · refine zw_iconst (v := nI 1) dX5_quiet_57 (by decide) ?_
        refine zw_goto (tgt := 62) dX5_quiet_58 (by decide) ?_
        refine zw_istore dX5_quiet_62 (by decide) ?_
        refine zw_iload_n dX5_quiet_64 rfl ?_
        refine zw_iload dX5_quiet_65 rfl ?_
        refine zw_if_eq_n (tgt := 74) dX5_quiet_67 (by decide) (by omega) (fun c67 => by omega) (fun c67 => ?_)
        refine zw_iconst (v := nI 1) dX5_quiet_70 (by decide) ?_
        refine zw_goto (tgt := 75) dX5_quiet_71 (by decide) ?_
        refine zw_iadd dX5_quiet_75 ?_
        refine zw_istore_n dX5_quiet_76 (by decide) ?_
        refine zw_iload dX5_quiet_77 rfl ?_
        refine zw_if_eq_n (tgt := 89) dX5_quiet_79 (by decide) (by omega) (fun c79 => by omega) (fun c79 => ?_)
        refine zw_iload dX5_quiet_82 rfl ?_
        refine zw_iconst (v := nI 1) dX5_quiet_84 (by decide) ?_
        refine zw_iaddn dX5_quiet_85 ?_
        refine zw_goto (tgt := 90) dX5_quiet_86 (by decide) ?_
        refine zw_istore dX5_quiet_90 (by decide) ?_
        have e4 : zr (owD D m st) (k + 1) = (zr (owD D m st) (k)) + (1) := by
          simp only [zr]
          rw [if_pos c54]
        have b1 := zl_le (owD D m st) k
        have b2 := zr_le (owD D m st) k
        refine zw_iload dX5_quiet_92 rfl ?_
        refine zw_iload dX5_quiet_94 rfl ?_
        refine zw_icmp_le_n (tgt := 109) dX5_quiet_96 (by decide) (by omega) (by omega) (fun c96 => ?_) (fun c96 => ?_)
        · refine zw_iload dX5_quiet_109 rfl ?_
          refine zw_istore dX5_quiet_111 (by decide) ?_
          refine zw_iload dX5_quiet_113 rfl ?_
          refine zw_iload dX5_quiet_115 rfl ?_
          refine zw_icmp_le_n (tgt := 125) dX5_quiet_117 (by decide) (by omega) (by omega) (fun c117 => ?_) (fun c117 => by omega)
          refine zw_iload dX5_quiet_125 rfl ?_
          refine zw_istore dX5_quiet_127 (by decide) ?_
          refine zw_iincn dX5_quiet_129 rfl (by decide) ?_
          refine zw_goto (tgt := 35) dX5_quiet_132 (by decide) ?_
          exact WP.sub (ih35 (k + 1) (by omega)) ⟨rfl, rfl, rfl, (hd_eq (by simp only [sm]; rw [if_pos c54])), (hd_eq (congrArg nI e4.symm)), (hd_eq (congrArg nI (by simp only [zl]; omega))), (hd_eq (by simp only [zf]; rw [if_neg (by omega)])), rfl, trivial⟩
        · refine zw_iload dX5_quiet_99 rfl ?_
          refine zw_iload dX5_quiet_101 rfl ?_
          refine zw_isub dX5_quiet_103 ?_
          refine zw_iconst (v := nI 1) dX5_quiet_104 (by decide) ?_
          refine zw_iadd dX5_quiet_105 ?_
          refine zw_goto (tgt := 111) dX5_quiet_106 (by decide) ?_
          refine zw_istore dX5_quiet_111 (by decide) ?_
          refine zw_iload dX5_quiet_113 rfl ?_
          refine zw_iload dX5_quiet_115 rfl ?_
          refine zw_icmp_le_n (tgt := 125) dX5_quiet_117 (by decide) (by omega) (by omega) (fun c117 => by omega) (fun c117 => ?_)
          refine zw_iload dX5_quiet_120 rfl ?_
          refine zw_goto (tgt := 127) dX5_quiet_122 (by decide) ?_
          refine zw_istore dX5_quiet_127 (by decide) ?_
          refine zw_iincn dX5_quiet_129 rfl (by decide) ?_
          refine zw_goto (tgt := 35) dX5_quiet_132 (by decide) ?_
          exact WP.sub (ih35 (k + 1) (by omega)) ⟨rfl, rfl, rfl, (hd_eq (by simp only [sm]; rw [if_pos c54])), (hd_eq (congrArg nI e4.symm)), (hd_eq (congrArg nI (by simp only [zl]; omega))), (hd_eq (by simp only [zf]; rw [if_pos (by omega), e4])), rfl, trivial⟩
  exact WP.sub (L35 (24) 0 (by omega)) ⟨rfl, rfl, rfl, rfl, rfl, rfl, rfl, rfl, trivial⟩
set_option maxRecDepth 100000 in
set_option maxHeartbeats 4000000 in
theorem d_quiet_1 {sh : Sh} {D : Mem} {m : Nat} (hm : IsMo sh m) {st : Nat} (hst : st < 4) : Calls mX5_quiet 1 0 0 [.inr (some (m)), .inl (nI (st)), .inl (nI (1))] sh (D) (some (.inl (nI (zl (owD D m st) 24)))) sh (D) := by
  refine Calls.of plX5 (Nat.le_of_ble_eq_true rfl) ?_
  show WP mX5_quiet 1 0 0 0 [some (.inr (some (m))), some (.inl (nI (st))), some (.inl (nI (1))), none, none, none, none, none, none] [] sh (D) (some (.inl (nI (zl (owD D m st) 24)))) sh (D)
  refine zw_iload_n dX5_quiet_0 rfl ?_
  refine zw_iconst (v := nI 0) dX5_quiet_1 (by decide) ?_
  refine zw_iconst (v := nI 3) dX5_quiet_2 (by decide) ?_
  refine zw_cSi dX5_quiet_3 (c_X5_in _ _ _) rfl okX5_in ml_X5_31 (Nat.le_of_ble_eq_true rfl) (Nat.le_of_ble_eq_true rfl) ?_
  refine zw_if_eq_b (tgt := 18) dX5_quiet_6 (by decide) (fun c6 => absurd (isSt_n hst) c6) (fun c6 => ?_)
  refine zw_iload_n dX5_quiet_9 rfl ?_
  refine zw_iconst (v := nI 0) dX5_quiet_10 (by decide) ?_
  refine zw_iconst (v := nI 2) dX5_quiet_11 (by decide) ?_
  refine zw_cSi dX5_quiet_12 (c_X5_in _ _ _) rfl okX5_in ml_X5_31 (Nat.le_of_ble_eq_true rfl) (Nat.le_of_ble_eq_true rfl) ?_
  refine zw_if_ne_b (tgt := 20) dX5_quiet_15 (by decide) (fun c15 => ?_) (fun c15 => absurd (by decide) c15)
  refine zw_iconst (v := nI 0) dX5_quiet_20 (by decide) ?_
  refine zw_istore_n dX5_quiet_21 (by decide) ?_
  refine zw_iconst (v := nI 0) dX5_quiet_22 (by decide) ?_
  refine zw_istore dX5_quiet_23 (by decide) ?_
  refine zw_iconst (v := nI 0) dX5_quiet_25 (by decide) ?_
  refine zw_istore dX5_quiet_26 (by decide) ?_
  refine zw_bipush (v := (-9)) dX5_quiet_28 (by decide) ?_
  refine zw_istore dX5_quiet_30 (by decide) ?_
  refine zw_iconst (v := nI 0) dX5_quiet_32 (by decide) ?_
  refine zw_istore dX5_quiet_33 (by decide) ?_
  have L35 : ∀ (n_35 k : Nat), k + n_35 = 24 → WP mX5_quiet 1 0 0 35 [some (.inr (some (m))), some (.inl (nI (st))), some (.inl (nI (1))), some (.inl (sm (fun h => if owD D m st h = 0 then nI 1 else nI 0) (k))), some (.inl (nI (zr (owD D m st) (k)))), some (.inl (nI (zl (owD D m st) (k)))), some (.inl (zf (owD D m st) (k))), some (.inl (nI (k))), none] [] sh (D) (some (.inl (nI (zl (owD D m st) 24)))) sh (D) := by
    intro n_35
    induction n_35 with
    | zero =>
      intro k hk35
      have ek35 : 24 = k := by omega
      subst ek35
      refine zw_iload dX5_quiet_35 rfl ?_
      refine zw_bipush (v := nI 24) dX5_quiet_37 (by decide) ?_
      refine zw_icmp_ge_n (tgt := 135) dX5_quiet_39 (by decide) (by omega) (by omega) (fun c39 => ?_) (fun c39 => by omega)
      refine zw_iload_n dX5_quiet_135 rfl ?_
      refine zw_if_ne_n (tgt := 143) dX5_quiet_136 (by decide) (by omega) (fun c136 => ?_) (fun c136 => by omega)
      refine zw_iload_n dX5_quiet_143 rfl ?_
      refine zw_iconst (v := nI 1) dX5_quiet_144 (by decide) ?_
      refine zw_icmp_ne_n (tgt := 153) dX5_quiet_145 (by decide) (by omega) (by omega) (fun c145 => by omega) (fun c145 => ?_)
      refine zw_iload dX5_quiet_148 rfl ?_
      refine zw_goto (tgt := 155) dX5_quiet_150 (by decide) ?_
      exact zw_iretE dX5_quiet_155 rfl (rfl) rfl (rfl)
    | succ n_35 ih35 =>
      intro k hk35
      have hlt35 : k < 24 := by omega
      refine zw_iload dX5_quiet_35 rfl ?_
      refine zw_bipush (v := nI 24) dX5_quiet_37 (by decide) ?_
      refine zw_icmp_ge_n (tgt := 135) dX5_quiet_39 (by decide) (by omega) (by omega) (fun c39 => by omega) (fun c39 => ?_)
      refine zw_aload_n dX5_quiet_42 rfl ?_
      refine zw_bipush (v := nI 24) dX5_quiet_43 (by decide) ?_
      refine zw_iload_n dX5_quiet_45 rfl ?_
      refine zw_imuln dX5_quiet_46 ?_
      refine zw_iload dX5_quiet_47 rfl ?_
      refine zw_iaddn dX5_quiet_49 ?_
      refine zw_iconst (v := nI 0) dX5_quiet_50 (by decide) ?_
      refine zw_cVi dX5_quiet_51 (c_X5_slotOf hm (by omega) (by omega)) rfl okX5_slotOf ml_X5_46 hm.i hm.k (by decide) rfl (Nat.le_of_ble_eq_true rfl) (Nat.le_of_ble_eq_true rfl) ?_
      refine zw_if_ne (tgt := 61) dX5_quiet_54 (by decide) (fun c54 => ?_) (fun c54 => ?_)
      · refine zw_iconst (v := nI 0) dX5_quiet_61 (by decide) ?_
        refine zw_istore dX5_quiet_62 (by decide) ?_
        refine zw_iload_n dX5_quiet_64 rfl ?_
        refine zw_iload dX5_quiet_65 rfl ?_
        refine zw_if_eq_n (tgt := 74) dX5_quiet_67 (by decide) (by omega) (fun c67 => ?_) (fun c67 => by omega)
        refine zw_iconst (v := nI 0) dX5_quiet_74 (by decide) ?_
        refine zw_iadd dX5_quiet_75 ?_
        refine zw_istore_n dX5_quiet_76 (by decide) ?_
        refine zw_iload dX5_quiet_77 rfl ?_
        refine zw_if_eq_n (tgt := 89) dX5_quiet_79 (by decide) (by omega) (fun c79 => ?_) (fun c79 => by omega)
        refine zw_iconst (v := nI 0) dX5_quiet_89 (by decide) ?_
        refine zw_istore dX5_quiet_90 (by decide) ?_
        have e4 : zr (owD D m st) (k + 1) = 0 := by
          simp only [zr]
          rw [if_neg c54]
        have b1 := zl_le (owD D m st) k
        have b2 := zr_le (owD D m st) k
        refine zw_iload dX5_quiet_92 rfl ?_
        refine zw_iload dX5_quiet_94 rfl ?_
        refine zw_icmp_le_n (tgt := 109) dX5_quiet_96 (by decide) (by omega) (by omega) (fun c96 => ?_) (fun c96 => ?_)
        · refine zw_iload dX5_quiet_109 rfl ?_
          refine zw_istore dX5_quiet_111 (by decide) ?_
          refine zw_iload dX5_quiet_113 rfl ?_
          refine zw_iload dX5_quiet_115 rfl ?_
          refine zw_icmp_le_n (tgt := 125) dX5_quiet_117 (by decide) (by omega) (by omega) (fun c117 => ?_) (fun c117 => by omega)
          refine zw_iload dX5_quiet_125 rfl ?_
          refine zw_istore dX5_quiet_127 (by decide) ?_
          refine zw_iincn dX5_quiet_129 rfl (by decide) ?_
          refine zw_goto (tgt := 35) dX5_quiet_132 (by decide) ?_
          exact WP.sub (ih35 (k + 1) (by omega)) ⟨rfl, rfl, rfl, (hd_eq (by simp only [sm]; rw [if_neg c54])), (hd_eq (congrArg nI e4.symm)), (hd_eq (congrArg nI (by simp only [zl]; omega))), (hd_eq (by simp only [zf]; rw [if_neg (by omega)])), rfl, trivial⟩
        · refine zw_iload dX5_quiet_99 rfl ?_
          refine zw_iload dX5_quiet_101 rfl ?_
          refine zw_isub dX5_quiet_103 ?_
          refine zw_iconst (v := nI 1) dX5_quiet_104 (by decide) ?_
          refine zw_iadd dX5_quiet_105 ?_
          refine zw_goto (tgt := 111) dX5_quiet_106 (by decide) ?_
          refine zw_istore dX5_quiet_111 (by decide) ?_
          refine zw_iload dX5_quiet_113 rfl ?_
          refine zw_iload dX5_quiet_115 rfl ?_
          refine zw_icmp_le_n (tgt := 125) dX5_quiet_117 (by decide) (by omega) (by omega) (fun c117 => by omega) (fun c117 => ?_)
          refine zw_iload dX5_quiet_120 rfl ?_
          refine zw_goto (tgt := 127) dX5_quiet_122 (by decide) ?_
          refine zw_istore dX5_quiet_127 (by decide) ?_
          refine zw_iincn dX5_quiet_129 rfl (by decide) ?_
          refine zw_goto (tgt := 35) dX5_quiet_132 (by decide) ?_
          exact WP.sub (ih35 (k + 1) (by omega)) ⟨rfl, rfl, rfl, (hd_eq (by simp only [sm]; rw [if_neg c54])), (hd_eq (congrArg nI e4.symm)), (hd_eq (congrArg nI (by simp only [zl]; omega))), (hd_eq (by simp only [zf]; rw [if_pos (by omega), e4])), rfl, trivial⟩
      · refine zw_iconst (v := nI 1) dX5_quiet_57 (by decide) ?_
        refine zw_goto (tgt := 62) dX5_quiet_58 (by decide) ?_
        refine zw_istore dX5_quiet_62 (by decide) ?_
        refine zw_iload_n dX5_quiet_64 rfl ?_
        refine zw_iload dX5_quiet_65 rfl ?_
        refine zw_if_eq_n (tgt := 74) dX5_quiet_67 (by decide) (by omega) (fun c67 => by omega) (fun c67 => ?_)
        refine zw_iconst (v := nI 1) dX5_quiet_70 (by decide) ?_
        refine zw_goto (tgt := 75) dX5_quiet_71 (by decide) ?_
        refine zw_iadd dX5_quiet_75 ?_
        refine zw_istore_n dX5_quiet_76 (by decide) ?_
        refine zw_iload dX5_quiet_77 rfl ?_
        refine zw_if_eq_n (tgt := 89) dX5_quiet_79 (by decide) (by omega) (fun c79 => by omega) (fun c79 => ?_)
        refine zw_iload dX5_quiet_82 rfl ?_
        refine zw_iconst (v := nI 1) dX5_quiet_84 (by decide) ?_
        refine zw_iaddn dX5_quiet_85 ?_
        refine zw_goto (tgt := 90) dX5_quiet_86 (by decide) ?_
        refine zw_istore dX5_quiet_90 (by decide) ?_
        have e4 : zr (owD D m st) (k + 1) = (zr (owD D m st) (k)) + (1) := by
          simp only [zr]
          rw [if_pos c54]
        have b1 := zl_le (owD D m st) k
        have b2 := zr_le (owD D m st) k
        refine zw_iload dX5_quiet_92 rfl ?_
        refine zw_iload dX5_quiet_94 rfl ?_
        refine zw_icmp_le_n (tgt := 109) dX5_quiet_96 (by decide) (by omega) (by omega) (fun c96 => ?_) (fun c96 => ?_)
        · refine zw_iload dX5_quiet_109 rfl ?_
          refine zw_istore dX5_quiet_111 (by decide) ?_
          refine zw_iload dX5_quiet_113 rfl ?_
          refine zw_iload dX5_quiet_115 rfl ?_
          refine zw_icmp_le_n (tgt := 125) dX5_quiet_117 (by decide) (by omega) (by omega) (fun c117 => ?_) (fun c117 => by omega)
          refine zw_iload dX5_quiet_125 rfl ?_
          refine zw_istore dX5_quiet_127 (by decide) ?_
          refine zw_iincn dX5_quiet_129 rfl (by decide) ?_
          refine zw_goto (tgt := 35) dX5_quiet_132 (by decide) ?_
          exact WP.sub (ih35 (k + 1) (by omega)) ⟨rfl, rfl, rfl, (hd_eq (by simp only [sm]; rw [if_pos c54])), (hd_eq (congrArg nI e4.symm)), (hd_eq (congrArg nI (by simp only [zl]; omega))), (hd_eq (by simp only [zf]; rw [if_neg (by omega)])), rfl, trivial⟩
        · refine zw_iload dX5_quiet_99 rfl ?_
          refine zw_iload dX5_quiet_101 rfl ?_
          refine zw_isub dX5_quiet_103 ?_
          refine zw_iconst (v := nI 1) dX5_quiet_104 (by decide) ?_
          refine zw_iadd dX5_quiet_105 ?_
          refine zw_goto (tgt := 111) dX5_quiet_106 (by decide) ?_
          refine zw_istore dX5_quiet_111 (by decide) ?_
          refine zw_iload dX5_quiet_113 rfl ?_
          refine zw_iload dX5_quiet_115 rfl ?_
          refine zw_icmp_le_n (tgt := 125) dX5_quiet_117 (by decide) (by omega) (by omega) (fun c117 => by omega) (fun c117 => ?_)
          refine zw_iload dX5_quiet_120 rfl ?_
          refine zw_goto (tgt := 127) dX5_quiet_122 (by decide) ?_
          refine zw_istore dX5_quiet_127 (by decide) ?_
          refine zw_iincn dX5_quiet_129 rfl (by decide) ?_
          refine zw_goto (tgt := 35) dX5_quiet_132 (by decide) ?_
          exact WP.sub (ih35 (k + 1) (by omega)) ⟨rfl, rfl, rfl, (hd_eq (by simp only [sm]; rw [if_pos c54])), (hd_eq (congrArg nI e4.symm)), (hd_eq (congrArg nI (by simp only [zl]; omega))), (hd_eq (by simp only [zf]; rw [if_pos (by omega), e4])), rfl, trivial⟩
  exact WP.sub (L35 (24) 0 (by omega)) ⟨rfl, rfl, rfl, rfl, rfl, rfl, rfl, rfl, trivial⟩
set_option maxRecDepth 100000 in
set_option maxHeartbeats 4000000 in
theorem d_quiet_2 {sh : Sh} {D : Mem} {m : Nat} (hm : IsMo sh m) {st : Nat} (hst : st < 4) : Calls mX5_quiet 1 0 0 [.inr (some (m)), .inl (nI (st)), .inl (nI (2))] sh (D) (some (.inl (zf (owD D m st) 24))) sh (D) := by
  refine Calls.of plX5 (Nat.le_of_ble_eq_true rfl) ?_
  show WP mX5_quiet 1 0 0 0 [some (.inr (some (m))), some (.inl (nI (st))), some (.inl (nI (2))), none, none, none, none, none, none] [] sh (D) (some (.inl (zf (owD D m st) 24))) sh (D)
  refine zw_iload_n dX5_quiet_0 rfl ?_
  refine zw_iconst (v := nI 0) dX5_quiet_1 (by decide) ?_
  refine zw_iconst (v := nI 3) dX5_quiet_2 (by decide) ?_
  refine zw_cSi dX5_quiet_3 (c_X5_in _ _ _) rfl okX5_in ml_X5_31 (Nat.le_of_ble_eq_true rfl) (Nat.le_of_ble_eq_true rfl) ?_
  refine zw_if_eq_b (tgt := 18) dX5_quiet_6 (by decide) (fun c6 => absurd (isSt_n hst) c6) (fun c6 => ?_)
  refine zw_iload_n dX5_quiet_9 rfl ?_
  refine zw_iconst (v := nI 0) dX5_quiet_10 (by decide) ?_
  refine zw_iconst (v := nI 2) dX5_quiet_11 (by decide) ?_
  refine zw_cSi dX5_quiet_12 (c_X5_in _ _ _) rfl okX5_in ml_X5_31 (Nat.le_of_ble_eq_true rfl) (Nat.le_of_ble_eq_true rfl) ?_
  refine zw_if_ne_b (tgt := 20) dX5_quiet_15 (by decide) (fun c15 => ?_) (fun c15 => absurd (by decide) c15)
  refine zw_iconst (v := nI 0) dX5_quiet_20 (by decide) ?_
  refine zw_istore_n dX5_quiet_21 (by decide) ?_
  refine zw_iconst (v := nI 0) dX5_quiet_22 (by decide) ?_
  refine zw_istore dX5_quiet_23 (by decide) ?_
  refine zw_iconst (v := nI 0) dX5_quiet_25 (by decide) ?_
  refine zw_istore dX5_quiet_26 (by decide) ?_
  refine zw_bipush (v := (-9)) dX5_quiet_28 (by decide) ?_
  refine zw_istore dX5_quiet_30 (by decide) ?_
  refine zw_iconst (v := nI 0) dX5_quiet_32 (by decide) ?_
  refine zw_istore dX5_quiet_33 (by decide) ?_
  have L35 : ∀ (n_35 k : Nat), k + n_35 = 24 → WP mX5_quiet 1 0 0 35 [some (.inr (some (m))), some (.inl (nI (st))), some (.inl (nI (2))), some (.inl (sm (fun h => if owD D m st h = 0 then nI 1 else nI 0) (k))), some (.inl (nI (zr (owD D m st) (k)))), some (.inl (nI (zl (owD D m st) (k)))), some (.inl (zf (owD D m st) (k))), some (.inl (nI (k))), none] [] sh (D) (some (.inl (zf (owD D m st) 24))) sh (D) := by
    intro n_35
    induction n_35 with
    | zero =>
      intro k hk35
      have ek35 : 24 = k := by omega
      subst ek35
      refine zw_iload dX5_quiet_35 rfl ?_
      refine zw_bipush (v := nI 24) dX5_quiet_37 (by decide) ?_
      refine zw_icmp_ge_n (tgt := 135) dX5_quiet_39 (by decide) (by omega) (by omega) (fun c39 => ?_) (fun c39 => by omega)
      refine zw_iload_n dX5_quiet_135 rfl ?_
      refine zw_if_ne_n (tgt := 143) dX5_quiet_136 (by decide) (by omega) (fun c136 => ?_) (fun c136 => by omega)
      refine zw_iload_n dX5_quiet_143 rfl ?_
      refine zw_iconst (v := nI 1) dX5_quiet_144 (by decide) ?_
      refine zw_icmp_ne_n (tgt := 153) dX5_quiet_145 (by decide) (by omega) (by omega) (fun c145 => ?_) (fun c145 => by omega)
      refine zw_iload dX5_quiet_153 rfl ?_
      exact zw_iretE dX5_quiet_155 rfl (rfl) rfl (rfl)
    | succ n_35 ih35 =>
      intro k hk35
      have hlt35 : k < 24 := by omega
      refine zw_iload dX5_quiet_35 rfl ?_
      refine zw_bipush (v := nI 24) dX5_quiet_37 (by decide) ?_
      refine zw_icmp_ge_n (tgt := 135) dX5_quiet_39 (by decide) (by omega) (by omega) (fun c39 => by omega) (fun c39 => ?_)
      refine zw_aload_n dX5_quiet_42 rfl ?_
      refine zw_bipush (v := nI 24) dX5_quiet_43 (by decide) ?_
      refine zw_iload_n dX5_quiet_45 rfl ?_
      refine zw_imuln dX5_quiet_46 ?_
      refine zw_iload dX5_quiet_47 rfl ?_
      refine zw_iaddn dX5_quiet_49 ?_
      refine zw_iconst (v := nI 0) dX5_quiet_50 (by decide) ?_
      refine zw_cVi dX5_quiet_51 (c_X5_slotOf hm (by omega) (by omega)) rfl okX5_slotOf ml_X5_46 hm.i hm.k (by decide) rfl (Nat.le_of_ble_eq_true rfl) (Nat.le_of_ble_eq_true rfl) ?_
      refine zw_if_ne (tgt := 61) dX5_quiet_54 (by decide) (fun c54 => ?_) (fun c54 => ?_)
      · refine zw_iconst (v := nI 0) dX5_quiet_61 (by decide) ?_
        refine zw_istore dX5_quiet_62 (by decide) ?_
        refine zw_iload_n dX5_quiet_64 rfl ?_
        refine zw_iload dX5_quiet_65 rfl ?_
        refine zw_if_eq_n (tgt := 74) dX5_quiet_67 (by decide) (by omega) (fun c67 => ?_) (fun c67 => by omega)
        refine zw_iconst (v := nI 0) dX5_quiet_74 (by decide) ?_
        refine zw_iadd dX5_quiet_75 ?_
        refine zw_istore_n dX5_quiet_76 (by decide) ?_
        refine zw_iload dX5_quiet_77 rfl ?_
        refine zw_if_eq_n (tgt := 89) dX5_quiet_79 (by decide) (by omega) (fun c79 => ?_) (fun c79 => by omega)
        refine zw_iconst (v := nI 0) dX5_quiet_89 (by decide) ?_
        refine zw_istore dX5_quiet_90 (by decide) ?_
        have e4 : zr (owD D m st) (k + 1) = 0 := by
          simp only [zr]
          rw [if_neg c54]
        have b1 := zl_le (owD D m st) k
        have b2 := zr_le (owD D m st) k
        refine zw_iload dX5_quiet_92 rfl ?_
        refine zw_iload dX5_quiet_94 rfl ?_
        refine zw_icmp_le_n (tgt := 109) dX5_quiet_96 (by decide) (by omega) (by omega) (fun c96 => ?_) (fun c96 => ?_)
        · refine zw_iload dX5_quiet_109 rfl ?_
          refine zw_istore dX5_quiet_111 (by decide) ?_
          refine zw_iload dX5_quiet_113 rfl ?_
          refine zw_iload dX5_quiet_115 rfl ?_
          refine zw_icmp_le_n (tgt := 125) dX5_quiet_117 (by decide) (by omega) (by omega) (fun c117 => ?_) (fun c117 => by omega)
          refine zw_iload dX5_quiet_125 rfl ?_
          refine zw_istore dX5_quiet_127 (by decide) ?_
          refine zw_iincn dX5_quiet_129 rfl (by decide) ?_
          refine zw_goto (tgt := 35) dX5_quiet_132 (by decide) ?_
          exact WP.sub (ih35 (k + 1) (by omega)) ⟨rfl, rfl, rfl, (hd_eq (by simp only [sm]; rw [if_neg c54])), (hd_eq (congrArg nI e4.symm)), (hd_eq (congrArg nI (by simp only [zl]; omega))), (hd_eq (by simp only [zf]; rw [if_neg (by omega)])), rfl, trivial⟩
        · refine zw_iload dX5_quiet_99 rfl ?_
          refine zw_iload dX5_quiet_101 rfl ?_
          refine zw_isub dX5_quiet_103 ?_
          refine zw_iconst (v := nI 1) dX5_quiet_104 (by decide) ?_
          refine zw_iadd dX5_quiet_105 ?_
          refine zw_goto (tgt := 111) dX5_quiet_106 (by decide) ?_
          refine zw_istore dX5_quiet_111 (by decide) ?_
          refine zw_iload dX5_quiet_113 rfl ?_
          refine zw_iload dX5_quiet_115 rfl ?_
          refine zw_icmp_le_n (tgt := 125) dX5_quiet_117 (by decide) (by omega) (by omega) (fun c117 => by omega) (fun c117 => ?_)
          refine zw_iload dX5_quiet_120 rfl ?_
          refine zw_goto (tgt := 127) dX5_quiet_122 (by decide) ?_
          refine zw_istore dX5_quiet_127 (by decide) ?_
          refine zw_iincn dX5_quiet_129 rfl (by decide) ?_
          refine zw_goto (tgt := 35) dX5_quiet_132 (by decide) ?_
          exact WP.sub (ih35 (k + 1) (by omega)) ⟨rfl, rfl, rfl, (hd_eq (by simp only [sm]; rw [if_neg c54])), (hd_eq (congrArg nI e4.symm)), (hd_eq (congrArg nI (by simp only [zl]; omega))), (hd_eq (by simp only [zf]; rw [if_pos (by omega), e4])), rfl, trivial⟩
      · refine zw_iconst (v := nI 1) dX5_quiet_57 (by decide) ?_
        refine zw_goto (tgt := 62) dX5_quiet_58 (by decide) ?_
        refine zw_istore dX5_quiet_62 (by decide) ?_
        refine zw_iload_n dX5_quiet_64 rfl ?_
        refine zw_iload dX5_quiet_65 rfl ?_
        refine zw_if_eq_n (tgt := 74) dX5_quiet_67 (by decide) (by omega) (fun c67 => by omega) (fun c67 => ?_)
        refine zw_iconst (v := nI 1) dX5_quiet_70 (by decide) ?_
        refine zw_goto (tgt := 75) dX5_quiet_71 (by decide) ?_
        refine zw_iadd dX5_quiet_75 ?_
        refine zw_istore_n dX5_quiet_76 (by decide) ?_
        refine zw_iload dX5_quiet_77 rfl ?_
        refine zw_if_eq_n (tgt := 89) dX5_quiet_79 (by decide) (by omega) (fun c79 => by omega) (fun c79 => ?_)
        refine zw_iload dX5_quiet_82 rfl ?_
        refine zw_iconst (v := nI 1) dX5_quiet_84 (by decide) ?_
        refine zw_iaddn dX5_quiet_85 ?_
        refine zw_goto (tgt := 90) dX5_quiet_86 (by decide) ?_
        refine zw_istore dX5_quiet_90 (by decide) ?_
        have e4 : zr (owD D m st) (k + 1) = (zr (owD D m st) (k)) + (1) := by
          simp only [zr]
          rw [if_pos c54]
        have b1 := zl_le (owD D m st) k
        have b2 := zr_le (owD D m st) k
        refine zw_iload dX5_quiet_92 rfl ?_
        refine zw_iload dX5_quiet_94 rfl ?_
        refine zw_icmp_le_n (tgt := 109) dX5_quiet_96 (by decide) (by omega) (by omega) (fun c96 => ?_) (fun c96 => ?_)
        · refine zw_iload dX5_quiet_109 rfl ?_
          refine zw_istore dX5_quiet_111 (by decide) ?_
          refine zw_iload dX5_quiet_113 rfl ?_
          refine zw_iload dX5_quiet_115 rfl ?_
          refine zw_icmp_le_n (tgt := 125) dX5_quiet_117 (by decide) (by omega) (by omega) (fun c117 => ?_) (fun c117 => by omega)
          refine zw_iload dX5_quiet_125 rfl ?_
          refine zw_istore dX5_quiet_127 (by decide) ?_
          refine zw_iincn dX5_quiet_129 rfl (by decide) ?_
          refine zw_goto (tgt := 35) dX5_quiet_132 (by decide) ?_
          exact WP.sub (ih35 (k + 1) (by omega)) ⟨rfl, rfl, rfl, (hd_eq (by simp only [sm]; rw [if_pos c54])), (hd_eq (congrArg nI e4.symm)), (hd_eq (congrArg nI (by simp only [zl]; omega))), (hd_eq (by simp only [zf]; rw [if_neg (by omega)])), rfl, trivial⟩
        · refine zw_iload dX5_quiet_99 rfl ?_
          refine zw_iload dX5_quiet_101 rfl ?_
          refine zw_isub dX5_quiet_103 ?_
          refine zw_iconst (v := nI 1) dX5_quiet_104 (by decide) ?_
          refine zw_iadd dX5_quiet_105 ?_
          refine zw_goto (tgt := 111) dX5_quiet_106 (by decide) ?_
          refine zw_istore dX5_quiet_111 (by decide) ?_
          refine zw_iload dX5_quiet_113 rfl ?_
          refine zw_iload dX5_quiet_115 rfl ?_
          refine zw_icmp_le_n (tgt := 125) dX5_quiet_117 (by decide) (by omega) (by omega) (fun c117 => by omega) (fun c117 => ?_)
          refine zw_iload dX5_quiet_120 rfl ?_
          refine zw_goto (tgt := 127) dX5_quiet_122 (by decide) ?_
          refine zw_istore dX5_quiet_127 (by decide) ?_
          refine zw_iincn dX5_quiet_129 rfl (by decide) ?_
          refine zw_goto (tgt := 35) dX5_quiet_132 (by decide) ?_
          exact WP.sub (ih35 (k + 1) (by omega)) ⟨rfl, rfl, rfl, (hd_eq (by simp only [sm]; rw [if_pos c54])), (hd_eq (congrArg nI e4.symm)), (hd_eq (congrArg nI (by simp only [zl]; omega))), (hd_eq (by simp only [zf]; rw [if_pos (by omega), e4])), rfl, trivial⟩
  exact WP.sub (L35 (24) 0 (by omega)) ⟨rfl, rfl, rfl, rfl, rfl, rfl, rfl, rfl, trivial⟩
set_option maxRecDepth 100000 in
set_option maxHeartbeats 4000000 in
theorem d_quiet_bad {sh : Sh} {D : Mem} {m : Nat} (hm : IsMo sh m) (x y : Int32) (hx : ¬ ((nI 0 ≤ x ∧ x ≤ nI 3) ∧ (nI 0 ≤ y ∧ y ≤ nI 2))) : Calls mX5_quiet 1 0 0 [.inr (some (m)), .inl (x), .inl (y)] sh (D) (some (.inl (-1))) sh (D) := by
  refine Calls.of plX5 (Nat.le_of_ble_eq_true rfl) ?_
  show WP mX5_quiet 1 0 0 0 [some (.inr (some (m))), some (.inl (x)), some (.inl (y)), none, none, none, none, none, none] [] sh (D) (some (.inl (-1))) sh (D)
  refine zw_iload_n dX5_quiet_0 rfl ?_
  refine zw_iconst (v := nI 0) dX5_quiet_1 (by decide) ?_
  refine zw_iconst (v := nI 3) dX5_quiet_2 (by decide) ?_
  refine zw_cSi dX5_quiet_3 (c_X5_in _ _ _) rfl okX5_in ml_X5_31 (Nat.le_of_ble_eq_true rfl) (Nat.le_of_ble_eq_true rfl) ?_
  refine zw_if_eq_b (tgt := 18) dX5_quiet_6 (by decide) (fun c6 => ?_) (fun c6 => ?_)
  · refine zw_iconst (v := (-1)) dX5_quiet_18 (by decide) ?_
    exact zw_iretE dX5_quiet_19 rfl (rfl) rfl (rfl)
  · refine zw_iload_n dX5_quiet_9 rfl ?_
    refine zw_iconst (v := nI 0) dX5_quiet_10 (by decide) ?_
    refine zw_iconst (v := nI 2) dX5_quiet_11 (by decide) ?_
    refine zw_cSi dX5_quiet_12 (c_X5_in _ _ _) rfl okX5_in ml_X5_31 (Nat.le_of_ble_eq_true rfl) (Nat.le_of_ble_eq_true rfl) ?_
    refine zw_if_ne_b (tgt := 20) dX5_quiet_15 (by decide) (fun c15 => absurd (And.intro c6 c15) hx) (fun c15 => ?_)
    refine zw_iconst (v := (-1)) dX5_quiet_18 (by decide) ?_
    exact zw_iretE dX5_quiet_19 rfl (rfl) rfl (rfl)
