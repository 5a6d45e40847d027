/-! ===== SilenceHours ===== -/
def isP (P : Nat) (x : Int32) : Prop := ∃ p, p < P ∧ x = nI p
theorem isP_iff {P : Nat} {x : Int32} (h : P ≤ 12) : (nI 0 ≤ x ∧ x ≤ nI P - nI 1) ↔ isP P x := by
  constructor
  · rintro ⟨h1, h2⟩
    have h3 : ¬ x < 0 := Int32.not_lt.mpr (by rw [← nI_0]; exact h1)
    obtain ⟨j, hj, rfl⟩ := nI_of h3
    cases P with
    | zero =>
      exfalso
      have h4 : nI j ≤ nI 0 - nI 1 := h2
      have h5 : (nI j).toInt ≤ (nI 0 - nI 1).toInt := Int32.le_iff_toInt_le.mp h4
      rw [nI_toInt hj] at h5
      have h6 : (nI 0 - nI 1).toInt = -1 := by decide
      omega
    | succ P =>
      rw [pk_sub (by omega : 1 ≤ P + 1), nI_leI hj (by omega)] at h2
      exact ⟨j, by omega, rfl⟩
  · rintro ⟨p, hp, rfl⟩
    refine ⟨nI_le (Nat.zero_le p) (by omega), ?_⟩
    rw [pk_sub (by omega : 1 ≤ P)]
    exact nI_le (by omega) (by omega)
theorem b01_c {p q : Prop} [Decidable p] (h : p ↔ q) : b01 p = b01c q := by
  by_cases hp : p
  · rw [b01_t hp, b01c_t (h.mp hp)]; rfl
  · rw [b01_f hp, b01c_f (fun z => hp (h.mpr z))]; rfl
theorem isP_n {P p : Nat} (h : p < P) : isP P (nI p) := ⟨p, h, rfl⟩
theorem isSt_n {a : Nat} (h : a < 4) : nI 0 ≤ nI a ∧ nI a ≤ nI 3 := ⟨nI_le (Nat.zero_le a) (by omega), nI_le (by omega) (by decide)⟩
theorem inS_n {a b : Nat} (h : a < 4) (h2 : b < 24) : inS (nI a) (nI b) := ⟨isSt_n h, nI_le (Nat.zero_le b) (by omega), nI_le (by omega) (by decide)⟩
theorem recM_ne {C : Mem} {h o z f a : Nat} (hz : z ≤ 5) (ha : a < h ∨ h + 82 ≤ a) : recM C h o z f a = C a := by
  have h1 : (o + z) % 5 < 5 := Nat.mod_lt _ (by decide)
  unfold recM
  split
  · rw [up_ne (by omega), cpM_ne (by omega)]
  · rw [up_ne (by omega), cpM_ne (by omega)]
theorem resM_ne {C : Mem} {h o z f a : Nat} (ha : a < h ∨ h + 82 ≤ a) (hf : a < f ∨ f + 16 ≤ a) : resM C h o z f a = C a := by
  unfold resM
  split
  · rw [cpM_ne (by omega), up_ne (by omega)]
  · rfl
theorem Wf.rec {C : Mem} {q P h o z f : Nat} (hw : Wf C q P) (hz : z ≤ 5) (ha : q + 16 ≤ h) : Wf (recM C h o z f) q P := hw.of (by rw [recM_ne hz (by omega)]) (recM_ne hz (by omega))
set_option maxRecDepth 100000 in
set_option maxHeartbeats 1000000 in
theorem c_X4_isPerson {sh : Sh} {C : Mem} {b P : Nat} (hb : IsSH sh b) (hw : Wf C (b + 1) P) (x : Int32) : Calls mX4_isPerson 1 0 0 [.inr (some (b)), .inl (x)] sh C (some (.inl (b01c (isP P x)))) sh (C) := by
  refine Calls.of plX4 (Nat.le_of_ble_eq_true rfl) ?_
  show WP mX4_isPerson 1 0 0 0 [some (.inr (some (b))), some (.inl (x))] [] sh (C) (some (.inl (b01c (isP P x)))) sh (C)
  refine zw_iload_n dX4_isPerson_0 rfl ?_
  refine zw_iconst (v := nI 0) dX4_isPerson_1 (by decide) ?_
  refine zw_aload_n dX4_isPerson_2 rfl ?_
  refine zw_getR (j := 0) (kd := 4) dX4_isPerson_3 hb.i hb.k (by decide) (by decide) fl_X4_12 rfl hb.r0 ?_
  refine zw_getIv (j := 3) (kd := 3) (v := (nI (P))) dX4_isPerson_6 hb.st.i hb.st.k (by decide) (by decide) fl_X4_42 rfl hw.1 ?_
  refine zw_iconst (v := nI 1) dX4_isPerson_9 (by decide) ?_
  refine zw_isub dX4_isPerson_10 ?_
  refine zw_cSi dX4_isPerson_11 (c_X4_isWithin _ _ _) rfl okX4_isWithin ml_X4_38 (Nat.le_of_ble_eq_true rfl) (Nat.le_of_ble_eq_true rfl) ?_
  exact zw_zretE dX4_isPerson_14 rfl b01_01 (by rw [b01_c (isP_iff hw.2.1)]) rfl (rfl)
set_option maxRecDepth 100000 in
set_option maxHeartbeats 1000000 in
theorem c_join_bad {sh : Sh} {C : Mem} {b P : Nat} (hb : IsSH sh b) (hw : Wf C (b + 1) P) (x : Int32) (hx : ¬ (nI 0 ≤ x ∧ x ≤ nI 100000)) : Calls mX4_join 4 0 0 [.inr (some (b)), .inl (x)] sh C (some (.inl (-1))) sh (C) := by
  refine Calls.of plX4 (Nat.le_of_ble_eq_true rfl) ?_
  show WP mX4_join 4 0 0 0 [some (.inr (some (b))), some (.inl (x))] [] sh (C) (some (.inl (-1))) sh (C)
  have hP12 := hw.2.1
  refine zw_iload_n dX4_join_0 rfl ?_
  refine zw_iconst (v := nI 0) dX4_join_1 (by decide) ?_
  refine zw_ldc (v := nI 100000) dX4_join_2 cs_X4_37 ?_
  refine zw_cSi dX4_join_4 (c_X4_isWithin _ _ _) rfl okX4_isWithin ml_X4_38 (Nat.le_of_ble_eq_true rfl) (Nat.le_of_ble_eq_true rfl) ?_
  refine zw_if_ne_b (tgt := 12) dX4_join_7 (by decide) (fun c7 => absurd c7 hx) (fun c7 => ?_)
  refine zw_iconst (v := (-1)) dX4_join_10 (by decide) ?_
  exact zw_iretE dX4_join_11 rfl (rfl) rfl (rfl)
set_option maxRecDepth 100000 in
set_option maxHeartbeats 1000000 in
theorem c_join_full {sh : Sh} {C : Mem} {b P : Nat} (hb : IsSH sh b) (hw : Wf C (b + 1) P) (x : Int32) (hx : (nI 0 ≤ x ∧ x ≤ nI 100000)) (hP : P = 12) : Calls mX4_join 4 0 0 [.inr (some (b)), .inl (x)] sh C (some (.inl (-3))) sh (C) := by
  refine Calls.of plX4 (Nat.le_of_ble_eq_true rfl) ?_
  show WP mX4_join 4 0 0 0 [some (.inr (some (b))), some (.inl (x))] [] sh (C) (some (.inl (-3))) sh (C)
  have hP12 := hw.2.1
  refine zw_iload_n dX4_join_0 rfl ?_
  refine zw_iconst (v := nI 0) dX4_join_1 (by decide) ?_
  refine zw_ldc (v := nI 100000) dX4_join_2 cs_X4_37 ?_
  refine zw_cSi dX4_join_4 (c_X4_isWithin _ _ _) rfl okX4_isWithin ml_X4_38 (Nat.le_of_ble_eq_true rfl) (Nat.le_of_ble_eq_true rfl) ?_
  refine zw_if_ne_b (tgt := 12) dX4_join_7 (by decide) (fun c7 => ?_) (fun c7 => absurd hx c7)
  refine zw_aload_n dX4_join_12 rfl ?_
  refine zw_getR (j := 0) (kd := 4) dX4_join_13 hb.i hb.k (by decide) (by decide) fl_X4_12 rfl hb.r0 ?_
  refine zw_getIv (j := 3) (kd := 3) (v := (nI (P))) dX4_join_16 hb.st.i hb.st.k (by decide) (by decide) fl_X4_42 rfl hw.1 ?_
  refine zw_bipush (v := nI 12) dX4_join_19 (by decide) ?_
  refine zw_icmp_lt_n (tgt := 27) dX4_join_21 (by decide) (by omega) (by omega) (fun c21 => by omega) (fun c21 => ?_)
  refine zw_bipush (v := (-3)) dX4_join_24 (by decide) ?_
  exact zw_iretE dX4_join_26 rfl (rfl) rfl (rfl)
set_option maxRecDepth 100000 in
set_option maxHeartbeats 1000000 in
theorem c_join_ok {sh : Sh} {C : Mem} {b P o z : Nat} (hb : IsSH sh b) (hw : Wf C (b + 1) P) (ho : C (b + 33) 1 = nI o) (hz : C (b + 33) 2 = nI z) (ho5 : o < 5) (hz5 : z ≤ 5) (x : Int32) (hx : (nI 0 ≤ x ∧ x ≤ nI 100000)) (hP : P < 12) : Calls mX4_join 4 0 0 [.inr (some (b)), .inl (x)] sh C (some (.inl (nI P))) sh (up (up (recM C (b + 33) o z (b + 1)) (b + 2) P x) (b + 1) 3 (nI (P + 1))) := by
  refine Calls.of plX4 (Nat.le_of_ble_eq_true rfl) ?_
  show WP mX4_join 4 0 0 0 [some (.inr (some (b))), some (.inl (x))] [] sh (C) (some (.inl (nI P))) sh (up (up (recM C (b + 33) o z (b + 1)) (b + 2) P x) (b + 1) 3 (nI (P + 1)))
  have hP12 := hw.2.1
  refine zw_iload_n dX4_join_0 rfl ?_
  refine zw_iconst (v := nI 0) dX4_join_1 (by decide) ?_
  refine zw_ldc (v := nI 100000) dX4_join_2 cs_X4_37 ?_
  refine zw_cSi dX4_join_4 (c_X4_isWithin _ _ _) rfl okX4_isWithin ml_X4_38 (Nat.le_of_ble_eq_true rfl) (Nat.le_of_ble_eq_true rfl) ?_
  refine zw_if_ne_b (tgt := 12) dX4_join_7 (by decide) (fun c7 => ?_) (fun c7 => absurd hx c7)
  refine zw_aload_n dX4_join_12 rfl ?_
  refine zw_getR (j := 0) (kd := 4) dX4_join_13 hb.i hb.k (by decide) (by decide) fl_X4_12 rfl hb.r0 ?_
  refine zw_getIv (j := 3) (kd := 3) (v := (nI (P))) dX4_join_16 hb.st.i hb.st.k (by decide) (by decide) fl_X4_42 rfl hw.1 ?_
  refine zw_bipush (v := nI 12) dX4_join_19 (by decide) ?_
  refine zw_icmp_lt_n (tgt := 27) dX4_join_21 (by decide) (by omega) (by omega) (fun c21 => ?_) (fun c21 => by omega)
  refine zw_aload_n dX4_join_27 rfl ?_
  refine zw_getR (j := 2) (kd := 4) dX4_join_28 hb.i hb.k (by decide) (by decide) fl_X4_22 rfl hb.r2 ?_
  refine zw_aload_n dX4_join_31 rfl ?_
  refine zw_getR (j := 0) (kd := 4) dX4_join_32 hb.i hb.k (by decide) (by decide) fl_X4_12 rfl hb.r0 ?_
  refine zw_cVv dX4_join_35 (c_X0_record hb.hi hb.st ho hz ho5 hz5) rfl okX0_record ml_X4_46 hb.hi.i hb.hi.k (by decide) rfl (Nat.le_of_ble_eq_true rfl) (Nat.le_of_ble_eq_true rfl) ?_
  refine zw_aload_n dX4_join_38 rfl ?_
  refine zw_getR (j := 0) (kd := 4) dX4_join_39 hb.i hb.k (by decide) (by decide) fl_X4_12 rfl hb.r0 ?_
  refine zw_getR (j := 4) (kd := 3) dX4_join_42 hb.st.i hb.st.k (by decide) (by decide) fl_X4_50 rfl hb.st.r0 ?_
  refine zw_aload_n dX4_join_45 rfl ?_
  refine zw_getR (j := 0) (kd := 4) dX4_join_46 hb.i hb.k (by decide) (by decide) fl_X4_12 rfl hb.r0 ?_
  refine zw_getIv (j := 3) (kd := 3) (v := (nI (P))) dX4_join_49 hb.st.i hb.st.k (by decide) (by decide) fl_X4_42 rfl (Wf.rec hw hz5 (by omega)).1 ?_
  refine zw_iload_n dX4_join_52 rfl ?_
  refine zw_iast dX4_join_53 hb.st.i0 hb.st.k0 hb.st.L0 rfl (by rw [hb.st.n0]; omega) ?_
  refine zw_aload_n dX4_join_54 rfl ?_
  refine zw_getR (j := 0) (kd := 4) dX4_join_55 hb.i hb.k (by decide) (by decide) fl_X4_12 rfl hb.r0 ?_
  refine zw_dup dX4_join_58 ?_
  refine zw_getIv (j := 3) (kd := 3) (v := (nI (P))) dX4_join_59 hb.st.i hb.st.k (by decide) (by decide) fl_X4_42 rfl (Wf.wr (Wf.rec hw hz5 (by omega)) (by omega) (by omega)).1 ?_
  refine zw_iconst (v := nI 1) dX4_join_62 (by decide) ?_
  refine zw_iaddn dX4_join_63 ?_
  refine zw_putI (j := 3) (kd := 3) dX4_join_64 hb.st.i hb.st.k (by decide) (by decide) fl_X4_42 rfl rfl rfl ?_
  refine zw_aload_n dX4_join_67 rfl ?_
  refine zw_getR (j := 0) (kd := 4) dX4_join_68 hb.i hb.k (by decide) (by decide) fl_X4_12 rfl hb.r0 ?_
  refine zw_getIv (j := 3) (kd := 3) (v := (nI (P + 1))) dX4_join_71 hb.st.i hb.st.k (by decide) (by decide) fl_X4_42 rfl up_eq ?_
  refine zw_iconst (v := nI 1) dX4_join_74 (by decide) ?_
  refine zw_isubn dX4_join_75 (by omega) ?_
  exact zw_iretE dX4_join_76 rfl (rfl) rfl (rfl)
set_option maxRecDepth 100000 in
set_option maxHeartbeats 1000000 in
theorem c_pay_bad {sh : Sh} {C : Mem} {b P : Nat} (hb : IsSH sh b) (hw : Wf C (b + 1) P) (x am : Int32) (hx : ¬ (isP P x ∧ (-100000 ≤ am ∧ am ≤ nI 100000))) : Calls mX4_pay 4 0 0 [.inr (some (b)), .inl (x), .inl (am)] sh C (some (.inl (-1))) sh (C) := by
  refine Calls.of plX4 (Nat.le_of_ble_eq_true rfl) ?_
  show WP mX4_pay 4 0 0 0 [some (.inr (some (b))), some (.inl (x)), some (.inl (am))] [] sh (C) (some (.inl (-1))) sh (C)
  have hP12 := hw.2.1
  refine zw_aload_n dX4_pay_0 rfl ?_
  refine zw_iload_n dX4_pay_1 rfl ?_
  refine zw_cVi dX4_pay_2 (c_X4_isPerson hb hw _) rfl okX4_isPerson ml_X4_53 hb.i hb.k (by decide) rfl (Nat.le_of_ble_eq_true rfl) (Nat.le_of_ble_eq_true rfl) ?_
  refine zw_if_eq_c (tgt := 19) dX4_pay_5 (by decide) (fun c5 => ?_) (fun c5 => ?_)
  · refine zw_iconst (v := (-1)) dX4_pay_19 (by decide) ?_
    exact zw_iretE dX4_pay_20 rfl (rfl) rfl (rfl)
  · refine zw_iload_n dX4_pay_8 rfl ?_
    refine zw_ldc (v := (-100000)) dX4_pay_9 cs_X4_57 ?_
    refine zw_ldc (v := nI 100000) dX4_pay_11 cs_X4_37 ?_
    refine zw_cSi dX4_pay_13 (c_X4_isWithin _ _ _) rfl okX4_isWithin ml_X4_38 (Nat.le_of_ble_eq_true rfl) (Nat.le_of_ble_eq_true rfl) ?_
    refine zw_if_ne_b (tgt := 21) dX4_pay_16 (by decide) (fun c16 => absurd (And.intro c5 c16) hx) (fun c16 => ?_)
    refine zw_iconst (v := (-1)) dX4_pay_19 (by decide) ?_
    exact zw_iretE dX4_pay_20 rfl (rfl) rfl (rfl)
set_option maxRecDepth 100000 in
set_option maxHeartbeats 1000000 in
theorem c_pay_ill {sh : Sh} {C : Mem} {b P : Nat} (hb : IsSH sh b) (hw : Wf C (b + 1) P) {p : Nat} (hp : p < P) (am : Int32) (hx : (-100000 ≤ am ∧ am ≤ nI 100000)) (hc : ¬ cbp C (b + 1) p am) : Calls mX4_pay 4 0 0 [.inr (some (b)), .inl (nI (p)), .inl (am)] sh C (some (.inl (-2))) sh (C) := by
  refine Calls.of plX4 (Nat.le_of_ble_eq_true rfl) ?_
  show WP mX4_pay 4 0 0 0 [some (.inr (some (b))), some (.inl (nI (p))), some (.inl (am))] [] sh (C) (some (.inl (-2))) sh (C)
  have hP12 := hw.2.1
  refine zw_aload_n dX4_pay_0 rfl ?_
  refine zw_iload_n dX4_pay_1 rfl ?_
  refine zw_cVi dX4_pay_2 (c_X4_isPerson hb hw _) rfl okX4_isPerson ml_X4_53 hb.i hb.k (by decide) rfl (Nat.le_of_ble_eq_true rfl) (Nat.le_of_ble_eq_true rfl) ?_
  refine zw_if_eq_c (tgt := 19) dX4_pay_5 (by decide) (fun c5 => absurd (isP_n hp) c5) (fun c5 => ?_)
  refine zw_iload_n dX4_pay_8 rfl ?_
  refine zw_ldc (v := (-100000)) dX4_pay_9 cs_X4_57 ?_
  refine zw_ldc (v := nI 100000) dX4_pay_11 cs_X4_37 ?_
  refine zw_cSi dX4_pay_13 (c_X4_isWithin _ _ _) rfl okX4_isWithin ml_X4_38 (Nat.le_of_ble_eq_true rfl) (Nat.le_of_ble_eq_true rfl) ?_
  refine zw_if_ne_b (tgt := 21) dX4_pay_16 (by decide) (fun c16 => ?_) (fun c16 => absurd hx c16)
  refine zw_aload_n dX4_pay_21 rfl ?_
  refine zw_getR (j := 0) (kd := 4) dX4_pay_22 hb.i hb.k (by decide) (by decide) fl_X4_12 rfl hb.r0 ?_
  refine zw_iload_n dX4_pay_25 rfl ?_
  refine zw_iload_n dX4_pay_26 rfl ?_
  refine zw_cVi dX4_pay_27 (c_X3_canBePaid hb.st (by omega) _) rfl okX3_canBePaid ml_X4_58 hb.st.i hb.st.k (by decide) rfl (Nat.le_of_ble_eq_true rfl) (Nat.le_of_ble_eq_true rfl) ?_
  refine zw_if_ne_c (tgt := 36) dX4_pay_30 (by decide) (fun c30 => absurd c30 hc) (fun c30 => ?_)
  refine zw_bipush (v := (-2)) dX4_pay_33 (by decide) ?_
  exact zw_iretE dX4_pay_35 rfl (rfl) rfl (rfl)
def payM (C : Mem) (q p : Nat) (am : Int32) : Mem := if am < 0 then up C (q + 1) p (C (q + 1) p + am) else rcv C q p am
set_option maxRecDepth 100000 in
set_option maxHeartbeats 1000000 in
theorem c_pay_ok {sh : Sh} {C : Mem} {b P o z : Nat} (hb : IsSH sh b) (hw : Wf C (b + 1) P) (ho : C (b + 33) 1 = nI o) (hz : C (b + 33) 2 = nI z) (ho5 : o < 5) (hz5 : z ≤ 5) {p : Nat} (hp : p < P) (am : Int32) (hx : (-100000 ≤ am ∧ am ≤ nI 100000)) (hc : cbp C (b + 1) p am) : Calls mX4_pay 4 0 0 [.inr (some (b)), .inl (nI (p)), .inl (am)] sh C (some (.inl (payM (recM C (b + 33) o z (b + 1)) (b + 1) p am (b + 2) p))) sh (payM (recM C (b + 33) o z (b + 1)) (b + 1) p am) := by
  refine Calls.of plX4 (Nat.le_of_ble_eq_true rfl) ?_
  show WP mX4_pay 4 0 0 0 [some (.inr (some (b))), some (.inl (nI (p))), some (.inl (am))] [] sh (C) (some (.inl (payM (recM C (b + 33) o z (b + 1)) (b + 1) p am (b + 2) p))) sh (payM (recM C (b + 33) o z (b + 1)) (b + 1) p am)
  have hP12 := hw.2.1
  refine zw_aload_n dX4_pay_0 rfl ?_
  refine zw_iload_n dX4_pay_1 rfl ?_
  refine zw_cVi dX4_pay_2 (c_X4_isPerson hb hw _) rfl okX4_isPerson ml_X4_53 hb.i hb.k (by decide) rfl (Nat.le_of_ble_eq_true rfl) (Nat.le_of_ble_eq_true rfl) ?_
  refine zw_if_eq_c (tgt := 19) dX4_pay_5 (by decide) (fun c5 => absurd (isP_n hp) c5) (fun c5 => ?_)
  refine zw_iload_n dX4_pay_8 rfl ?_
  refine zw_ldc (v := (-100000)) dX4_pay_9 cs_X4_57 ?_
  refine zw_ldc (v := nI 100000) dX4_pay_11 cs_X4_37 ?_
  refine zw_cSi dX4_pay_13 (c_X4_isWithin _ _ _) rfl okX4_isWithin ml_X4_38 (Nat.le_of_ble_eq_true rfl) (Nat.le_of_ble_eq_true rfl) ?_
  refine zw_if_ne_b (tgt := 21) dX4_pay_16 (by decide) (fun c16 => ?_) (fun c16 => absurd hx c16)
  refine zw_aload_n dX4_pay_21 rfl ?_
  refine zw_getR (j := 0) (kd := 4) dX4_pay_22 hb.i hb.k (by decide) (by decide) fl_X4_12 rfl hb.r0 ?_
  refine zw_iload_n dX4_pay_25 rfl ?_
  refine zw_iload_n dX4_pay_26 rfl ?_
  refine zw_cVi dX4_pay_27 (c_X3_canBePaid hb.st (by omega) _) rfl okX3_canBePaid ml_X4_58 hb.st.i hb.st.k (by decide) rfl (Nat.le_of_ble_eq_true rfl) (Nat.le_of_ble_eq_true rfl) ?_
  refine zw_if_ne_c (tgt := 36) dX4_pay_30 (by decide) (fun c30 => ?_) (fun c30 => absurd hc c30)
  refine zw_aload_n dX4_pay_36 rfl ?_
  refine zw_getR (j := 2) (kd := 4) dX4_pay_37 hb.i hb.k (by decide) (by decide) fl_X4_22 rfl hb.r2 ?_
  refine zw_aload_n dX4_pay_40 rfl ?_
  refine zw_getR (j := 0) (kd := 4) dX4_pay_41 hb.i hb.k (by decide) (by decide) fl_X4_12 rfl hb.r0 ?_
  refine zw_cVv dX4_pay_44 (c_X0_record hb.hi hb.st ho hz ho5 hz5) rfl okX0_record ml_X4_46 hb.hi.i hb.hi.k (by decide) rfl (Nat.le_of_ble_eq_true rfl) (Nat.le_of_ble_eq_true rfl) ?_
  refine zw_iload_n dX4_pay_47 rfl ?_
  refine zw_if_ge (tgt := 67) dX4_pay_48 (by decide) (fun c48 => ?_) (fun c48 => ?_)
  · refine zw_aload_n dX4_pay_67 rfl ?_
    refine zw_getR (j := 0) (kd := 4) dX4_pay_68 hb.i hb.k (by decide) (by decide) fl_X4_12 rfl hb.r0 ?_
    refine zw_iload_n dX4_pay_71 rfl ?_
    refine zw_iload_n dX4_pay_72 rfl ?_
    refine zw_cVv dX4_pay_73 (c_X3_receive hb.st (Wf.rec hw hz5 (by omega)) (by omega) _) rfl okX3_receive ml_X4_62 hb.st.i hb.st.k (by decide) rfl (Nat.le_of_ble_eq_true rfl) (Nat.le_of_ble_eq_true rfl) ?_
    refine zw_aload_n dX4_pay_76 rfl ?_
    refine zw_getR (j := 0) (kd := 4) dX4_pay_77 hb.i hb.k (by decide) (by decide) fl_X4_12 rfl hb.r0 ?_
    refine zw_getR (j := 4) (kd := 3) dX4_pay_80 hb.st.i hb.st.k (by decide) (by decide) fl_X4_50 rfl hb.st.r0 ?_
    refine zw_iload_n dX4_pay_83 rfl ?_
    refine zw_iald dX4_pay_84 hb.st.i0 hb.st.k0 hb.st.L0 rfl (by rw [hb.st.n0]; omega) ?_
    exact zw_iretE dX4_pay_85 rfl (by unfold payM; rw [if_neg c48]) rfl (by unfold payM; rw [if_neg c48])
  · refine zw_aload_n dX4_pay_51 rfl ?_
    refine zw_getR (j := 0) (kd := 4) dX4_pay_52 hb.i hb.k (by decide) (by decide) fl_X4_12 rfl hb.r0 ?_
    refine zw_getR (j := 4) (kd := 3) dX4_pay_55 hb.st.i hb.st.k (by decide) (by decide) fl_X4_50 rfl hb.st.r0 ?_
    refine zw_iload_n dX4_pay_58 rfl ?_
    refine zw_dup2 dX4_pay_59 ?_
    refine zw_iald dX4_pay_60 hb.st.i0 hb.st.k0 hb.st.L0 rfl (by rw [hb.st.n0]; omega) ?_
    refine zw_iload_n dX4_pay_61 rfl ?_
    refine zw_iadd dX4_pay_62 ?_
    refine zw_iast dX4_pay_63 hb.st.i0 hb.st.k0 hb.st.L0 rfl (by rw [hb.st.n0]; omega) ?_
    refine zw_goto (tgt := 76) dX4_pay_64 (by decide) ?_
    refine zw_aload_n dX4_pay_76 rfl ?_
    refine zw_getR (j := 0) (kd := 4) dX4_pay_77 hb.i hb.k (by decide) (by decide) fl_X4_12 rfl hb.r0 ?_
    refine zw_getR (j := 4) (kd := 3) dX4_pay_80 hb.st.i hb.st.k (by decide) (by decide) fl_X4_50 rfl hb.st.r0 ?_
    refine zw_iload_n dX4_pay_83 rfl ?_
    refine zw_iald dX4_pay_84 hb.st.i0 hb.st.k0 hb.st.L0 rfl (by rw [hb.st.n0]; omega) ?_
    exact zw_iretE dX4_pay_85 rfl (by unfold payM; rw [if_pos c48]) rfl (by unfold payM; rw [if_pos c48])
set_option maxRecDepth 100000 in
set_option maxHeartbeats 1000000 in
theorem c_bid_bad {sh : Sh} {C : Mem} {b P : Nat} (hb : IsSH sh b) (hw : Wf C (b + 1) P) (x a h sd am : Int32) (hx : ¬ (isP P x ∧ inS a h ∧ (sd = 0 ∨ sd = nI 1))) : Calls mX4_bid 4 0 0 [.inr (some (b)), .inl (x), .inl (a), .inl (h), .inl (sd), .inl (am)] sh C (some (.inl (-1))) sh (C) := by
  refine Calls.of plX4 (Nat.le_of_ble_eq_true rfl) ?_
  show WP mX4_bid 4 0 0 0 [some (.inr (some (b))), some (.inl (x)), some (.inl (a)), some (.inl (h)), some (.inl (sd)), some (.inl (am)), none, none] [] sh (C) (some (.inl (-1))) sh (C)
  have hP12 := hw.2.1
  refine zw_aload_n dX4_bid_0 rfl ?_
  refine zw_iload_n dX4_bid_1 rfl ?_
  refine zw_cVi dX4_bid_2 (c_X4_isPerson hb hw _) rfl okX4_isPerson ml_X4_53 hb.i hb.k (by decide) rfl (Nat.le_of_ble_eq_true rfl) (Nat.le_of_ble_eq_true rfl) ?_
  refine zw_if_eq_c (tgt := 24) dX4_bid_5 (by decide) (fun c5 => ?_) (fun c5 => ?_)
  · refine zw_iconst (v := (-1)) dX4_bid_24 (by decide) ?_
    exact zw_iretE dX4_bid_25 rfl (rfl) rfl (rfl)
  · refine zw_iload_n dX4_bid_8 rfl ?_
    refine zw_iload_n dX4_bid_9 rfl ?_
    refine zw_cSi dX4_bid_10 (c_X4_isSlot _ _) rfl okX4_isSlot ml_X4_66 (Nat.le_of_ble_eq_true rfl) (Nat.le_of_ble_eq_true rfl) ?_
    refine zw_if_eq_c (tgt := 24) dX4_bid_13 (by decide) (fun c13 => ?_) (fun c13 => ?_)
    · refine zw_iconst (v := (-1)) dX4_bid_24 (by decide) ?_
      exact zw_iretE dX4_bid_25 rfl (rfl) rfl (rfl)
    · refine zw_iload dX4_bid_16 rfl ?_
      refine zw_cSi dX4_bid_18 (c_X4_isSide _) rfl okX4_isSide ml_X4_69 (Nat.le_of_ble_eq_true rfl) (Nat.le_of_ble_eq_true rfl) ?_
      refine zw_if_ne_c (tgt := 26) dX4_bid_21 (by decide) (fun c21 => absurd (And.intro c5 (And.intro c13 c21)) hx) (fun c21 => ?_)
      refine zw_iconst (v := (-1)) dX4_bid_24 (by decide) ?_
      exact zw_iretE dX4_bid_25 rfl (rfl) rfl (rfl)
set_option maxRecDepth 100000 in
set_option maxHeartbeats 1000000 in
theorem c_bid_err {sh : Sh} {C : Mem} {b P : Nat} (hb : IsSH sh b) (hw : Wf C (b + 1) P) {p : Nat} (hp : p < P) {st h : Nat} (hst : st < 4) (hh : h < 24) (sd am : Int32) (hsd : (sd = 0 ∨ sd = nI 1)) (he : ¬ bE C (b + 1) p (st * 24 + h) am = 0) : Calls mX4_bid 4 0 0 [.inr (some (b)), .inl (nI (p)), .inl (nI (st)), .inl (nI (h)), .inl (sd), .inl (am)] sh C (some (.inl (bE C (b + 1) p (st * 24 + h) am))) sh (C) := by
  refine Calls.of plX4 (Nat.le_of_ble_eq_true rfl) ?_
  show WP mX4_bid 4 0 0 0 [some (.inr (some (b))), some (.inl (nI (p))), some (.inl (nI (st))), some (.inl (nI (h))), some (.inl (sd)), some (.inl (am)), none, none] [] sh (C) (some (.inl (bE C (b + 1) p (st * 24 + h) am))) sh (C)
  have hP12 := hw.2.1
  refine zw_aload_n dX4_bid_0 rfl ?_
  refine zw_iload_n dX4_bid_1 rfl ?_
  refine zw_cVi dX4_bid_2 (c_X4_isPerson hb hw _) rfl okX4_isPerson ml_X4_53 hb.i hb.k (by decide) rfl (Nat.le_of_ble_eq_true rfl) (Nat.le_of_ble_eq_true rfl) ?_
  refine zw_if_eq_c (tgt := 24) dX4_bid_5 (by decide) (fun c5 => absurd (isP_n hp) c5) (fun c5 => ?_)
  refine zw_iload_n dX4_bid_8 rfl ?_
  refine zw_iload_n dX4_bid_9 rfl ?_
  refine zw_cSi dX4_bid_10 (c_X4_isSlot _ _) rfl okX4_isSlot ml_X4_66 (Nat.le_of_ble_eq_true rfl) (Nat.le_of_ble_eq_true rfl) ?_
  refine zw_if_eq_c (tgt := 24) dX4_bid_13 (by decide) (fun c13 => absurd (inS_n hst hh) c13) (fun c13 => ?_)
  refine zw_iload dX4_bid_16 rfl ?_
  refine zw_cSi dX4_bid_18 (c_X4_isSide _) rfl okX4_isSide ml_X4_69 (Nat.le_of_ble_eq_true rfl) (Nat.le_of_ble_eq_true rfl) ?_
  refine zw_if_ne_c (tgt := 26) dX4_bid_21 (by decide) (fun c21 => ?_) (fun c21 => absurd hsd c21)
  refine zw_iload_n dX4_bid_26 rfl ?_
  refine zw_iload_n dX4_bid_27 rfl ?_
  refine zw_cSi dX4_bid_28 (c_X4_slotAt _ _) rfl okX4_slotAt ml_X4_72 (Nat.le_of_ble_eq_true rfl) (Nat.le_of_ble_eq_true rfl) ?_
  refine zw_istore dX4_bid_31 (by decide) ?_
  refine zw_aload_n dX4_bid_33 rfl ?_
  refine zw_getR (j := 0) (kd := 4) dX4_bid_34 hb.i hb.k (by decide) (by decide) fl_X4_12 rfl hb.r0 ?_
  refine zw_iload_n dX4_bid_37 rfl ?_
  refine zw_iload dX4_bid_38 rfl ?_
  refine zw_iload dX4_bid_40 rfl ?_
  refine zw_cVi dX4_bid_42 (c_X3_bidError hb.st (by omega) (by omega) _) rfl okX3_bidError ml_X4_76 hb.st.i hb.st.k (by decide) rfl (Nat.le_of_ble_eq_true rfl) (Nat.le_of_ble_eq_true rfl) ?_
  refine zw_istore dX4_bid_45 (by decide) ?_
  refine zw_iload dX4_bid_47 rfl ?_
  refine zw_if_eq (tgt := 55) dX4_bid_49 (by decide) (fun c49 => absurd c49 he) (fun c49 => ?_)
  refine zw_iload dX4_bid_52 rfl ?_
  exact zw_iretE dX4_bid_54 rfl (rfl) rfl (rfl)
set_option maxRecDepth 100000 in
set_option maxHeartbeats 1000000 in
theorem c_bid_ok {sh : Sh} {C : Mem} {b P o z : Nat} (hb : IsSH sh b) (hw : Wf C (b + 1) P) (ho : C (b + 33) 1 = nI o) (hz : C (b + 33) 2 = nI z) (ho5 : o < 5) (hz5 : z ≤ 5) {p : Nat} (hp : p < P) {st h : Nat} (hst : st < 4) (hh : h < 24) (sd am : Int32) (hsd : (sd = 0 ∨ sd = nI 1)) (he : bE C (b + 1) p (st * 24 + h) am = 0) : Calls mX4_bid 4 0 0 [.inr (some (b)), .inl (nI (p)), .inl (nI (st)), .inl (nI (h)), .inl (sd), .inl (am)] sh C (some (.inl (fM (pB (recM C (b + 33) o z (b + 1)) (b + 1) p (st * 24 + h) sd am) (b + 1) p))) sh (pB (recM C (b + 33) o z (b + 1)) (b + 1) p (st * 24 + h) sd am) := by
  refine Calls.of plX4 (Nat.le_of_ble_eq_true rfl) ?_
  show WP mX4_bid 4 0 0 0 [some (.inr (some (b))), some (.inl (nI (p))), some (.inl (nI (st))), some (.inl (nI (h))), some (.inl (sd)), some (.inl (am)), none, none] [] sh (C) (some (.inl (fM (pB (recM C (b + 33) o z (b + 1)) (b + 1) p (st * 24 + h) sd am) (b + 1) p))) sh (pB (recM C (b + 33) o z (b + 1)) (b + 1) p (st * 24 + h) sd am)
  have hP12 := hw.2.1
  refine zw_aload_n dX4_bid_0 rfl ?_
  refine zw_iload_n dX4_bid_1 rfl ?_
  refine zw_cVi dX4_bid_2 (c_X4_isPerson hb hw _) rfl okX4_isPerson ml_X4_53 hb.i hb.k (by decide) rfl (Nat.le_of_ble_eq_true rfl) (Nat.le_of_ble_eq_true rfl) ?_
  refine zw_if_eq_c (tgt := 24) dX4_bid_5 (by decide) (fun c5 => absurd (isP_n hp) c5) (fun c5 => ?_)
  refine zw_iload_n dX4_bid_8 rfl ?_
  refine zw_iload_n dX4_bid_9 rfl ?_
  refine zw_cSi dX4_bid_10 (c_X4_isSlot _ _) rfl okX4_isSlot ml_X4_66 (Nat.le_of_ble_eq_true rfl) (Nat.le_of_ble_eq_true rfl) ?_
  refine zw_if_eq_c (tgt := 24) dX4_bid_13 (by decide) (fun c13 => absurd (inS_n hst hh) c13) (fun c13 => ?_)
  refine zw_iload dX4_bid_16 rfl ?_
  refine zw_cSi dX4_bid_18 (c_X4_isSide _) rfl okX4_isSide ml_X4_69 (Nat.le_of_ble_eq_true rfl) (Nat.le_of_ble_eq_true rfl) ?_
  refine zw_if_ne_c (tgt := 26) dX4_bid_21 (by decide) (fun c21 => ?_) (fun c21 => absurd hsd c21)
  refine zw_iload_n dX4_bid_26 rfl ?_
  refine zw_iload_n dX4_bid_27 rfl ?_
  refine zw_cSi dX4_bid_28 (c_X4_slotAt _ _) rfl okX4_slotAt ml_X4_72 (Nat.le_of_ble_eq_true rfl) (Nat.le_of_ble_eq_true rfl) ?_
  refine zw_istore dX4_bid_31 (by decide) ?_
  refine zw_aload_n dX4_bid_33 rfl ?_
  refine zw_getR (j := 0) (kd := 4) dX4_bid_34 hb.i hb.k (by decide) (by decide) fl_X4_12 rfl hb.r0 ?_
  refine zw_iload_n dX4_bid_37 rfl ?_
  refine zw_iload dX4_bid_38 rfl ?_
  refine zw_iload dX4_bid_40 rfl ?_
  refine zw_cVi dX4_bid_42 (c_X3_bidError hb.st (by omega) (by omega) _) rfl okX3_bidError ml_X4_76 hb.st.i hb.st.k (by decide) rfl (Nat.le_of_ble_eq_true rfl) (Nat.le_of_ble_eq_true rfl) ?_
  refine zw_istore dX4_bid_45 (by decide) ?_
  refine zw_iload dX4_bid_47 rfl ?_
  refine zw_if_eq (tgt := 55) dX4_bid_49 (by decide) (fun c49 => ?_) (fun c49 => absurd he c49)
  refine zw_aload_n dX4_bid_55 rfl ?_
  refine zw_getR (j := 2) (kd := 4) dX4_bid_56 hb.i hb.k (by decide) (by decide) fl_X4_22 rfl hb.r2 ?_
  refine zw_aload_n dX4_bid_59 rfl ?_
  refine zw_getR (j := 0) (kd := 4) dX4_bid_60 hb.i hb.k (by decide) (by decide) fl_X4_12 rfl hb.r0 ?_
  refine zw_cVv dX4_bid_63 (c_X0_record hb.hi hb.st ho hz ho5 hz5) rfl okX0_record ml_X4_46 hb.hi.i hb.hi.k (by decide) rfl (Nat.le_of_ble_eq_true rfl) (Nat.le_of_ble_eq_true rfl) ?_
  refine zw_aload_n dX4_bid_66 rfl ?_
  refine zw_getR (j := 0) (kd := 4) dX4_bid_67 hb.i hb.k (by decide) (by decide) fl_X4_12 rfl hb.r0 ?_
  refine zw_iload_n dX4_bid_70 rfl ?_
  refine zw_iload dX4_bid_71 rfl ?_
  refine zw_iload dX4_bid_73 rfl ?_
  refine zw_iload dX4_bid_75 rfl ?_
  refine zw_cVi dX4_bid_77 (c_X3_placeBid hb.st (by omega) (by omega) _ _) rfl okX3_placeBid ml_X4_80 hb.st.i hb.st.k (by decide) rfl (Nat.le_of_ble_eq_true rfl) (Nat.le_of_ble_eq_true rfl) ?_
  exact zw_iretE dX4_bid_80 rfl (rfl) rfl (rfl)
set_option maxRecDepth 100000 in
set_option maxHeartbeats 1000000 in
theorem c_setFine_bad {sh : Sh} {C : Mem} {b P : Nat} (hb : IsSH sh b) (hw : Wf C (b + 1) P) (x : Int32) (hx : ¬ (nI 0 ≤ x ∧ x ≤ nI 1000)) : Calls mX4_setFine 4 0 0 [.inr (some (b)), .inl (x)] sh C (some (.inl (-1))) sh (C) := by
  refine Calls.of plX4 (Nat.le_of_ble_eq_true rfl) ?_
  show WP mX4_setFine 4 0 0 0 [some (.inr (some (b))), some (.inl (x)), none] [] sh (C) (some (.inl (-1))) sh (C)
  have hP12 := hw.2.1
  refine zw_iload_n dX4_setFine_0 rfl ?_
  refine zw_iconst (v := nI 0) dX4_setFine_1 (by decide) ?_
  refine zw_sipush (v := nI 1000) dX4_setFine_2 (by decide) ?_
  refine zw_cSi dX4_setFine_5 (c_X4_isWithin _ _ _) rfl okX4_isWithin ml_X4_38 (Nat.le_of_ble_eq_true rfl) (Nat.le_of_ble_eq_true rfl) ?_
  refine zw_if_ne_b (tgt := 13) dX4_setFine_8 (by decide) (fun c8 => absurd c8 hx) (fun c8 => ?_)
  refine zw_iconst (v := (-1)) dX4_setFine_11 (by decide) ?_
  exact zw_iretE dX4_setFine_12 rfl (rfl) rfl (rfl)
set_option maxRecDepth 100000 in
set_option maxHeartbeats 1000000 in
theorem c_setFine_ok {sh : Sh} {C : Mem} {b P o z : Nat} (hb : IsSH sh b) (hw : Wf C (b + 1) P) (ho : C (b + 33) 1 = nI o) (hz : C (b + 33) 2 = nI z) (ho5 : o < 5) (hz5 : z ≤ 5) (x : Int32) (hx : nI 0 ≤ x ∧ x ≤ nI 1000) : Calls mX4_setFine 4 0 0 [.inr (some (b)), .inl (x)] sh C (some (.inl ((recM C (b + 33) o z (b + 1)) (b + 1) 1))) sh (up (recM C (b + 33) o z (b + 1)) (b + 1) 1 x) := by
  refine Calls.of plX4 (Nat.le_of_ble_eq_true rfl) ?_
  show WP mX4_setFine 4 0 0 0 [some (.inr (some (b))), some (.inl (x)), none] [] sh (C) (some (.inl ((recM C (b + 33) o z (b + 1)) (b + 1) 1))) sh (up (recM C (b + 33) o z (b + 1)) (b + 1) 1 x)
  have hP12 := hw.2.1
  refine zw_iload_n dX4_setFine_0 rfl ?_
  refine zw_iconst (v := nI 0) dX4_setFine_1 (by decide) ?_
  refine zw_sipush (v := nI 1000) dX4_setFine_2 (by decide) ?_
  refine zw_cSi dX4_setFine_5 (c_X4_isWithin _ _ _) rfl okX4_isWithin ml_X4_38 (Nat.le_of_ble_eq_true rfl) (Nat.le_of_ble_eq_true rfl) ?_
  refine zw_if_ne_b (tgt := 13) dX4_setFine_8 (by decide) (fun c8 => ?_) (fun c8 => absurd hx c8)
  refine zw_aload_n dX4_setFine_13 rfl ?_
  refine zw_getR (j := 2) (kd := 4) dX4_setFine_14 hb.i hb.k (by decide) (by decide) fl_X4_22 rfl hb.r2 ?_
  refine zw_aload_n dX4_setFine_17 rfl ?_
  refine zw_getR (j := 0) (kd := 4) dX4_setFine_18 hb.i hb.k (by decide) (by decide) fl_X4_12 rfl hb.r0 ?_
  refine zw_cVv dX4_setFine_21 (c_X0_record hb.hi hb.st ho hz ho5 hz5) rfl okX0_record ml_X4_46 hb.hi.i hb.hi.k (by decide) rfl (Nat.le_of_ble_eq_true rfl) (Nat.le_of_ble_eq_true rfl) ?_
  refine zw_aload_n dX4_setFine_24 rfl ?_
  refine zw_getR (j := 0) (kd := 4) dX4_setFine_25 hb.i hb.k (by decide) (by decide) fl_X4_12 rfl hb.r0 ?_
  refine zw_getI (j := 1) (kd := 3) dX4_setFine_28 hb.st.i hb.st.k (by decide) (by decide) fl_X4_84 rfl ?_
  refine zw_istore_n dX4_setFine_31 (by decide) ?_
  refine zw_aload_n dX4_setFine_32 rfl ?_
  refine zw_getR (j := 0) (kd := 4) dX4_setFine_33 hb.i hb.k (by decide) (by decide) fl_X4_12 rfl hb.r0 ?_
  refine zw_iload_n dX4_setFine_36 rfl ?_
  refine zw_putI (j := 1) (kd := 3) dX4_setFine_37 hb.st.i hb.st.k (by decide) (by decide) fl_X4_84 rfl rfl rfl ?_
  refine zw_iload_n dX4_setFine_40 rfl ?_
  exact zw_iretE dX4_setFine_41 rfl (rfl) rfl (rfl)
set_option maxRecDepth 100000 in
set_option maxHeartbeats 1000000 in
theorem c_settle_ill {sh : Sh} {C : Mem} {b P : Nat} (hb : IsSH sh b) (hw : Wf C (b + 1) P) (hd : ¬ C (b + 1) 0 < nI 999) : Calls mX4_settle 6 0 0 [.inr (some (b))] sh C (some (.inl (-2))) sh (C) := by
  refine Calls.of plX4 (Nat.le_of_ble_eq_true rfl) ?_
  show WP mX4_settle 6 0 0 0 [some (.inr (some (b)))] [] sh (C) (some (.inl (-2))) sh (C)
  have hP12 := hw.2.1
  refine zw_aload_n dX4_settle_0 rfl ?_
  refine zw_getR (j := 0) (kd := 4) dX4_settle_1 hb.i hb.k (by decide) (by decide) fl_X4_12 rfl hb.r0 ?_
  refine zw_getI (j := 0) (kd := 3) dX4_settle_4 hb.st.i hb.st.k (by decide) (by decide) fl_X4_87 rfl ?_
  refine zw_sipush (v := nI 999) dX4_settle_7 (by decide) ?_
  refine zw_icmp_lt (tgt := 16) dX4_settle_10 (by decide) (fun c10 => absurd c10 hd) (fun c10 => ?_)
  refine zw_bipush (v := (-2)) dX4_settle_13 (by decide) ?_
  exact zw_iretE dX4_settle_15 rfl (rfl) rfl (rfl)
set_option maxRecDepth 100000 in
set_option maxHeartbeats 1000000 in
theorem c_settle_ok {sh : Sh} {C : Mem} {b P o z : Nat} (hb : IsSH sh b) (hw : Wf C (b + 1) P) (ho : C (b + 33) 1 = nI o) (hz : C (b + 33) 2 = nI z) (ho5 : o < 5) (hz5 : z ≤ 5) (hd : C (b + 1) 0 < nI 999) : Calls mX4_settle 6 0 0 [.inr (some (b))] sh C (some (.inl (sm (fun st => nI 24 - qh (sdD (recM C (b + 33) o z (b + 1)) (b + 1) P) (b + 1) st) 4))) sh (sdD (recM C (b + 33) o z (b + 1)) (b + 1) P) := by
  refine Calls.of plX4 (Nat.le_of_ble_eq_true rfl) ?_
  show WP mX4_settle 6 0 0 0 [some (.inr (some (b)))] [] sh (C) (some (.inl (sm (fun st => nI 24 - qh (sdD (recM C (b + 33) o z (b + 1)) (b + 1) P) (b + 1) st) 4))) sh (sdD (recM C (b + 33) o z (b + 1)) (b + 1) P)
  have hP12 := hw.2.1
  refine zw_aload_n dX4_settle_0 rfl ?_
  refine zw_getR (j := 0) (kd := 4) dX4_settle_1 hb.i hb.k (by decide) (by decide) fl_X4_12 rfl hb.r0 ?_
  refine zw_getI (j := 0) (kd := 3) dX4_settle_4 hb.st.i hb.st.k (by decide) (by decide) fl_X4_87 rfl ?_
  refine zw_sipush (v := nI 999) dX4_settle_7 (by decide) ?_
  refine zw_icmp_lt (tgt := 16) dX4_settle_10 (by decide) (fun c10 => ?_) (fun c10 => absurd hd c10)
  refine zw_aload_n dX4_settle_16 rfl ?_
  refine zw_getR (j := 2) (kd := 4) dX4_settle_17 hb.i hb.k (by decide) (by decide) fl_X4_22 rfl hb.r2 ?_
  refine zw_aload_n dX4_settle_20 rfl ?_
  refine zw_getR (j := 0) (kd := 4) dX4_settle_21 hb.i hb.k (by decide) (by decide) fl_X4_12 rfl hb.r0 ?_
  refine zw_cVv dX4_settle_24 (c_X0_record hb.hi hb.st ho hz ho5 hz5) rfl okX0_record ml_X4_46 hb.hi.i hb.hi.k (by decide) rfl (Nat.le_of_ble_eq_true rfl) (Nat.le_of_ble_eq_true rfl) ?_
  refine zw_aload_n dX4_settle_27 rfl ?_
  refine zw_getR (j := 0) (kd := 4) dX4_settle_28 hb.i hb.k (by decide) (by decide) fl_X4_12 rfl hb.r0 ?_
  refine zw_cVv dX4_settle_31 (c_X3_settleDay hb.st (Wf.rec hw hz5 (by omega))) rfl okX3_settleDay ml_X4_90 hb.st.i hb.st.k (by decide) rfl (Nat.le_of_ble_eq_true rfl) (Nat.le_of_ble_eq_true rfl) ?_
  refine zw_aload_n dX4_settle_34 rfl ?_
  refine zw_getR (j := 0) (kd := 4) dX4_settle_35 hb.i hb.k (by decide) (by decide) fl_X4_12 rfl hb.r0 ?_
  refine zw_cVi dX4_settle_38 (c_X3_noisySlots hb.st) rfl okX3_noisySlots ml_X4_93 hb.st.i hb.st.k (by decide) rfl (Nat.le_of_ble_eq_true rfl) (Nat.le_of_ble_eq_true rfl) ?_
  exact zw_iretE dX4_settle_41 rfl (rfl) rfl (rfl)
set_option maxRecDepth 100000 in
set_option maxHeartbeats 1000000 in
theorem c_breach_bad {sh : Sh} {C : Mem} {b P : Nat} (hb : IsSH sh b) (hw : Wf C (b + 1) P) (x a h : Int32) (hx : ¬ (isP P x ∧ inS a h)) : Calls mX4_breach 4 0 0 [.inr (some (b)), .inl (x), .inl (a), .inl (h)] sh C (some (.inl (-1))) sh (C) := by
  refine Calls.of plX4 (Nat.le_of_ble_eq_true rfl) ?_
  show WP mX4_breach 4 0 0 0 [some (.inr (some (b))), some (.inl (x)), some (.inl (a)), some (.inl (h)), none] [] sh (C) (some (.inl (-1))) sh (C)
  have hP12 := hw.2.1
  refine zw_aload_n dX4_breach_0 rfl ?_
  refine zw_iload_n dX4_breach_1 rfl ?_
  refine zw_cVi dX4_breach_2 (c_X4_isPerson hb hw _) rfl okX4_isPerson ml_X4_53 hb.i hb.k (by decide) rfl (Nat.le_of_ble_eq_true rfl) (Nat.le_of_ble_eq_true rfl) ?_
  refine zw_if_eq_c (tgt := 16) dX4_breach_5 (by decide) (fun c5 => ?_) (fun c5 => ?_)
  · refine zw_iconst (v := (-1)) dX4_breach_16 (by decide) ?_
    exact zw_iretE dX4_breach_17 rfl (rfl) rfl (rfl)
  · refine zw_iload_n dX4_breach_8 rfl ?_
    refine zw_iload_n dX4_breach_9 rfl ?_
    refine zw_cSi dX4_breach_10 (c_X4_isSlot _ _) rfl okX4_isSlot ml_X4_66 (Nat.le_of_ble_eq_true rfl) (Nat.le_of_ble_eq_true rfl) ?_
    refine zw_if_ne_c (tgt := 18) dX4_breach_13 (by decide) (fun c13 => absurd (And.intro c5 c13) hx) (fun c13 => ?_)
    refine zw_iconst (v := (-1)) dX4_breach_16 (by decide) ?_
    exact zw_iretE dX4_breach_17 rfl (rfl) rfl (rfl)
set_option maxRecDepth 100000 in
set_option maxHeartbeats 1000000 in
theorem c_breach_ill {sh : Sh} {C : Mem} {b P : Nat} (hb : IsSH sh b) (hw : Wf C (b + 1) P) {p : Nat} (hp : p < P) {st h : Nat} (hst : st < 4) (hh : h < 24) (hown : C (b + 11) (st * 24 + h) = nI 1) : Calls mX4_breach 4 0 0 [.inr (some (b)), .inl (nI (p)), .inl (nI (st)), .inl (nI (h))] sh C (some (.inl (-2))) sh (C) := by
  refine Calls.of plX4 (Nat.le_of_ble_eq_true rfl) ?_
  show WP mX4_breach 4 0 0 0 [some (.inr (some (b))), some (.inl (nI (p))), some (.inl (nI (st))), some (.inl (nI (h))), none] [] sh (C) (some (.inl (-2))) sh (C)
  have hP12 := hw.2.1
  refine zw_aload_n dX4_breach_0 rfl ?_
  refine zw_iload_n dX4_breach_1 rfl ?_
  refine zw_cVi dX4_breach_2 (c_X4_isPerson hb hw _) rfl okX4_isPerson ml_X4_53 hb.i hb.k (by decide) rfl (Nat.le_of_ble_eq_true rfl) (Nat.le_of_ble_eq_true rfl) ?_
  refine zw_if_eq_c (tgt := 16) dX4_breach_5 (by decide) (fun c5 => absurd (isP_n hp) c5) (fun c5 => ?_)
  refine zw_iload_n dX4_breach_8 rfl ?_
  refine zw_iload_n dX4_breach_9 rfl ?_
  refine zw_cSi dX4_breach_10 (c_X4_isSlot _ _) rfl okX4_isSlot ml_X4_66 (Nat.le_of_ble_eq_true rfl) (Nat.le_of_ble_eq_true rfl) ?_
  refine zw_if_ne_c (tgt := 18) dX4_breach_13 (by decide) (fun c13 => ?_) (fun c13 => absurd (inS_n hst hh) c13)
  refine zw_iload_n dX4_breach_18 rfl ?_
  refine zw_iload_n dX4_breach_19 rfl ?_
  refine zw_cSi dX4_breach_20 (c_X4_slotAt _ _) rfl okX4_slotAt ml_X4_72 (Nat.le_of_ble_eq_true rfl) (Nat.le_of_ble_eq_true rfl) ?_
  refine zw_istore dX4_breach_23 (by decide) ?_
  refine zw_aload_n dX4_breach_25 rfl ?_
  refine zw_getR (j := 0) (kd := 4) dX4_breach_26 hb.i hb.k (by decide) (by decide) fl_X4_12 rfl hb.r0 ?_
  refine zw_getR (j := 13) (kd := 3) dX4_breach_29 hb.st.i hb.st.k (by decide) (by decide) fl_X4_97 rfl hb.st.r9 ?_
  refine zw_iload dX4_breach_32 rfl ?_
  refine zw_iald dX4_breach_34 hb.st.i9 hb.st.k9 hb.st.L9 rfl (by rw [hb.st.n9]; omega) ?_
  refine zw_iconst (v := nI 1) dX4_breach_35 (by decide) ?_
  refine zw_icmp_ne (tgt := 42) dX4_breach_36 (by decide) (fun c36 => absurd hown c36) (fun c36 => ?_)
  refine zw_bipush (v := (-2)) dX4_breach_39 (by decide) ?_
  exact zw_iretE dX4_breach_41 rfl (rfl) rfl (rfl)
set_option maxRecDepth 100000 in
set_option maxHeartbeats 1000000 in
theorem c_breach_ok {sh : Sh} {C : Mem} {b P o z : Nat} (hb : IsSH sh b) (hw : Wf C (b + 1) P) (ho : C (b + 33) 1 = nI o) (hz : C (b + 33) 2 = nI z) (ho5 : o < 5) (hz5 : z ≤ 5) {p : Nat} (hp : p < P) {st h : Nat} (hst : st < 4) (hh : h < 24) (hown : ¬ C (b + 11) (st * 24 + h) = nI 1) : Calls mX4_breach 4 0 0 [.inr (some (b)), .inl (nI (p)), .inl (nI (st)), .inl (nI (h))] sh C (some (.inl (nbR (recM C (b + 33) o z (b + 1)) (b + 1) p (st * 24 + h)))) sh (nbM (recM C (b + 33) o z (b + 1)) (b + 1) P p (st * 24 + h)) := by
  refine Calls.of plX4 (Nat.le_of_ble_eq_true rfl) ?_
  show WP mX4_breach 4 0 0 0 [some (.inr (some (b))), some (.inl (nI (p))), some (.inl (nI (st))), some (.inl (nI (h))), none] [] sh (C) (some (.inl (nbR (recM C (b + 33) o z (b + 1)) (b + 1) p (st * 24 + h)))) sh (nbM (recM C (b + 33) o z (b + 1)) (b + 1) P p (st * 24 + h))
  have hP12 := hw.2.1
  refine zw_aload_n dX4_breach_0 rfl ?_
  refine zw_iload_n dX4_breach_1 rfl ?_
  refine zw_cVi dX4_breach_2 (c_X4_isPerson hb hw _) rfl okX4_isPerson ml_X4_53 hb.i hb.k (by decide) rfl (Nat.le_of_ble_eq_true rfl) (Nat.le_of_ble_eq_true rfl) ?_
  refine zw_if_eq_c (tgt := 16) dX4_breach_5 (by decide) (fun c5 => absurd (isP_n hp) c5) (fun c5 => ?_)
  refine zw_iload_n dX4_breach_8 rfl ?_
  refine zw_iload_n dX4_breach_9 rfl ?_
  refine zw_cSi dX4_breach_10 (c_X4_isSlot _ _) rfl okX4_isSlot ml_X4_66 (Nat.le_of_ble_eq_true rfl) (Nat.le_of_ble_eq_true rfl) ?_
  refine zw_if_ne_c (tgt := 18) dX4_breach_13 (by decide) (fun c13 => ?_) (fun c13 => absurd (inS_n hst hh) c13)
  refine zw_iload_n dX4_breach_18 rfl ?_
  refine zw_iload_n dX4_breach_19 rfl ?_
  refine zw_cSi dX4_breach_20 (c_X4_slotAt _ _) rfl okX4_slotAt ml_X4_72 (Nat.le_of_ble_eq_true rfl) (Nat.le_of_ble_eq_true rfl) ?_
  refine zw_istore dX4_breach_23 (by decide) ?_
  refine zw_aload_n dX4_breach_25 rfl ?_
  refine zw_getR (j := 0) (kd := 4) dX4_breach_26 hb.i hb.k (by decide) (by decide) fl_X4_12 rfl hb.r0 ?_
  refine zw_getR (j := 13) (kd := 3) dX4_breach_29 hb.st.i hb.st.k (by decide) (by decide) fl_X4_97 rfl hb.st.r9 ?_
  refine zw_iload dX4_breach_32 rfl ?_
  refine zw_iald dX4_breach_34 hb.st.i9 hb.st.k9 hb.st.L9 rfl (by rw [hb.st.n9]; omega) ?_
  refine zw_iconst (v := nI 1) dX4_breach_35 (by decide) ?_
  refine zw_icmp_ne (tgt := 42) dX4_breach_36 (by decide) (fun c36 => ?_) (fun c36 => absurd c36 hown)
  refine zw_aload_n dX4_breach_42 rfl ?_
  refine zw_getR (j := 2) (kd := 4) dX4_breach_43 hb.i hb.k (by decide) (by decide) fl_X4_22 rfl hb.r2 ?_
  refine zw_aload_n dX4_breach_46 rfl ?_
  refine zw_getR (j := 0) (kd := 4) dX4_breach_47 hb.i hb.k (by decide) (by decide) fl_X4_12 rfl hb.r0 ?_
  refine zw_cVv dX4_breach_50 (c_X0_record hb.hi hb.st ho hz ho5 hz5) rfl okX0_record ml_X4_46 hb.hi.i hb.hi.k (by decide) rfl (Nat.le_of_ble_eq_true rfl) (Nat.le_of_ble_eq_true rfl) ?_
  refine zw_aload_n dX4_breach_53 rfl ?_
  refine zw_getR (j := 0) (kd := 4) dX4_breach_54 hb.i hb.k (by decide) (by decide) fl_X4_12 rfl hb.r0 ?_
  refine zw_iload_n dX4_breach_57 rfl ?_
  refine zw_iload dX4_breach_58 rfl ?_
  refine zw_cVi dX4_breach_60 (c_X3_noteBreach hb.st (Wf.rec hw hz5 (by omega)) (by omega) (by omega)) rfl okX3_noteBreach ml_X4_100 hb.st.i hb.st.k (by decide) rfl (Nat.le_of_ble_eq_true rfl) (Nat.le_of_ble_eq_true rfl) ?_
  exact zw_iretE dX4_breach_63 rfl (rfl) rfl (rfl)
theorem resM_sz {C : Mem} {h o z f : Nat} (hf : f + 16 ≤ h) (hz : 0 < z) : resM C h o z f h 2 = nI (z - 1) := by
  unfold resM
  rw [if_pos hz, cpM_ne (by omega), up_eq]
set_option maxRecDepth 100000 in
set_option maxHeartbeats 1000000 in
theorem c_undo_ill {sh : Sh} {C : Mem} {b P o z : Nat} (hb : IsSH sh b) (hw : Wf C (b + 1) P) (ho : C (b + 33) 1 = nI o) (hz : C (b + 33) 2 = nI z) (ho5 : o < 5) (hz5 : z ≤ 5) (hz0 : z = 0) : Calls mX4_undo 3 0 0 [.inr (some (b))] sh C (some (.inl (-2))) sh (C) := by
  refine Calls.of plX4 (Nat.le_of_ble_eq_true rfl) ?_
  show WP mX4_undo 3 0 0 0 [some (.inr (some (b)))] [] sh (C) (some (.inl (-2))) sh (C)
  have hP12 := hw.2.1
  refine zw_aload_n dX4_undo_0 rfl ?_
  refine zw_getR (j := 2) (kd := 4) dX4_undo_1 hb.i hb.k (by decide) (by decide) fl_X4_22 rfl hb.r2 ?_
  refine zw_getIv (j := 2) (kd := 0) (v := (nI (z))) dX4_undo_4 hb.hi.i hb.hi.k (by decide) (by decide) fl_X4_103 rfl hz ?_
  refine zw_if_ne_n (tgt := 13) dX4_undo_7 (by decide) (by omega) (fun c7 => by omega) (fun c7 => ?_)
  refine zw_bipush (v := (-2)) dX4_undo_10 (by decide) ?_
  exact zw_iretE dX4_undo_12 rfl (rfl) rfl (rfl)
set_option maxRecDepth 100000 in
set_option maxHeartbeats 1000000 in
theorem c_undo_ok {sh : Sh} {C : Mem} {b P o z : Nat} (hb : IsSH sh b) (hw : Wf C (b + 1) P) (ho : C (b + 33) 1 = nI o) (hz : C (b + 33) 2 = nI z) (ho5 : o < 5) (hz5 : z ≤ 5) (hz0 : 0 < z) : Calls mX4_undo 3 0 0 [.inr (some (b))] sh C (some (.inl (nI (z - 1)))) sh (resM C (b + 33) o z (b + 1)) := by
  refine Calls.of plX4 (Nat.le_of_ble_eq_true rfl) ?_
  show WP mX4_undo 3 0 0 0 [some (.inr (some (b)))] [] sh (C) (some (.inl (nI (z - 1)))) sh (resM C (b + 33) o z (b + 1))
  have hP12 := hw.2.1
  refine zw_aload_n dX4_undo_0 rfl ?_
  refine zw_getR (j := 2) (kd := 4) dX4_undo_1 hb.i hb.k (by decide) (by decide) fl_X4_22 rfl hb.r2 ?_
  refine zw_getIv (j := 2) (kd := 0) (v := (nI (z))) dX4_undo_4 hb.hi.i hb.hi.k (by decide) (by decide) fl_X4_103 rfl hz ?_
  refine zw_if_ne_n (tgt := 13) dX4_undo_7 (by decide) (by omega) (fun c7 => ?_) (fun c7 => by omega)
  refine zw_aload_n dX4_undo_13 rfl ?_
  refine zw_getR (j := 2) (kd := 4) dX4_undo_14 hb.i hb.k (by decide) (by decide) fl_X4_22 rfl hb.r2 ?_
  refine zw_aload_n dX4_undo_17 rfl ?_
  refine zw_getR (j := 0) (kd := 4) dX4_undo_18 hb.i hb.k (by decide) (by decide) fl_X4_12 rfl hb.r0 ?_
  refine zw_cVv dX4_undo_21 (c_X0_restoreLatest hb.hi hb.st ho hz ho5 hz5) rfl okX0_restoreLatest ml_X4_106 hb.hi.i hb.hi.k (by decide) rfl (Nat.le_of_ble_eq_true rfl) (Nat.le_of_ble_eq_true rfl) ?_
  refine zw_aload_n dX4_undo_24 rfl ?_
  refine zw_getR (j := 2) (kd := 4) dX4_undo_25 hb.i hb.k (by decide) (by decide) fl_X4_22 rfl hb.r2 ?_
  refine zw_getIv (j := 2) (kd := 0) (v := (nI (z - 1))) dX4_undo_28 hb.hi.i hb.hi.k (by decide) (by decide) fl_X4_103 rfl (resM_sz (by omega) hz0) ?_
  exact zw_iretE dX4_undo_31 rfl (rfl) rfl (rfl)
set_option maxRecDepth 100000 in
set_option maxHeartbeats 1000000 in
theorem c_append_bad {sh : Sh} {C : Mem} {b len : Nat} (hb : IsSH sh b) (hlen : C (b + 115) 1 = nI len) (h100 : len ≤ 100) (x : Int32) (hx : ¬ (nI 1 ≤ x ∧ x ≤ nI 255)) : Calls mX4_append 1 0 0 [.inr (some (b)), .inl (x)] sh C (some (.inl (-1))) sh (C) := by
  refine Calls.of plX4 (Nat.le_of_ble_eq_true rfl) ?_
  show WP mX4_append 1 0 0 0 [some (.inr (some (b))), some (.inl (x))] [] sh (C) (some (.inl (-1))) sh (C)
  refine zw_iload_n dX4_append_0 rfl ?_
  refine zw_iconst (v := nI 1) dX4_append_1 (by decide) ?_
  refine zw_sipush (v := nI 255) dX4_append_2 (by decide) ?_
  refine zw_cSi dX4_append_5 (c_X4_isWithin _ _ _) rfl okX4_isWithin ml_X4_38 (Nat.le_of_ble_eq_true rfl) (Nat.le_of_ble_eq_true rfl) ?_
  refine zw_if_ne_b (tgt := 13) dX4_append_8 (by decide) (fun c8 => absurd c8 hx) (fun c8 => ?_)
  refine zw_iconst (v := (-1)) dX4_append_11 (by decide) ?_
  exact zw_iretE dX4_append_12 rfl (rfl) rfl (rfl)
set_option maxRecDepth 100000 in
set_option maxHeartbeats 1000000 in
theorem c_append_full {sh : Sh} {C : Mem} {b len : Nat} (hb : IsSH sh b) (hlen : C (b + 115) 1 = nI len) (h100 : len ≤ 100) (x : Int32) (hx : nI 1 ≤ x ∧ x ≤ nI 255) (hf : len = 100) : Calls mX4_append 1 0 0 [.inr (some (b)), .inl (x)] sh C (some (.inl (-3))) sh (C) := by
  refine Calls.of plX4 (Nat.le_of_ble_eq_true rfl) ?_
  show WP mX4_append 1 0 0 0 [some (.inr (some (b))), some (.inl (x))] [] sh (C) (some (.inl (-3))) sh (C)
  refine zw_iload_n dX4_append_0 rfl ?_
  refine zw_iconst (v := nI 1) dX4_append_1 (by decide) ?_
  refine zw_sipush (v := nI 255) dX4_append_2 (by decide) ?_
  refine zw_cSi dX4_append_5 (c_X4_isWithin _ _ _) rfl okX4_isWithin ml_X4_38 (Nat.le_of_ble_eq_true rfl) (Nat.le_of_ble_eq_true rfl) ?_
  refine zw_if_ne_b (tgt := 13) dX4_append_8 (by decide) (fun c8 => ?_) (fun c8 => absurd hx c8)
  refine zw_aload_n dX4_append_13 rfl ?_
  refine zw_getR (j := 3) (kd := 4) dX4_append_14 hb.i hb.k (by decide) (by decide) fl_X4_29 rfl hb.r3 ?_
  refine zw_getIv (j := 1) (kd := 2) (v := (nI (len))) dX4_append_17 hb.pl.i hb.pl.k (by decide) (by decide) fl_X4_109 rfl hlen ?_
  refine zw_bipush (v := nI 100) dX4_append_20 (by decide) ?_
  refine zw_icmp_lt_n (tgt := 28) dX4_append_22 (by decide) (by omega) (by omega) (fun c22 => by omega) (fun c22 => ?_)
  refine zw_bipush (v := (-3)) dX4_append_25 (by decide) ?_
  exact zw_iretE dX4_append_27 rfl (rfl) rfl (rfl)
set_option maxRecDepth 100000 in
set_option maxHeartbeats 1000000 in
theorem c_append_ok {sh : Sh} {C : Mem} {b len : Nat} (hb : IsSH sh b) (hlen : C (b + 115) 1 = nI len) (h100 : len ≤ 100) (x : Int32) (hx : nI 1 ≤ x ∧ x ≤ nI 255) (hf : len < 100) : Calls mX4_append 1 0 0 [.inr (some (b)), .inl (x)] sh C (some (.inl (nI (len + 1)))) sh (up (up C (b + 116) len x) (b + 115) 1 (nI (len + 1))) := by
  refine Calls.of plX4 (Nat.le_of_ble_eq_true rfl) ?_
  show WP mX4_append 1 0 0 0 [some (.inr (some (b))), some (.inl (x))] [] sh (C) (some (.inl (nI (len + 1)))) sh (up (up C (b + 116) len x) (b + 115) 1 (nI (len + 1)))
  refine zw_iload_n dX4_append_0 rfl ?_
  refine zw_iconst (v := nI 1) dX4_append_1 (by decide) ?_
  refine zw_sipush (v := nI 255) dX4_append_2 (by decide) ?_
  refine zw_cSi dX4_append_5 (c_X4_isWithin _ _ _) rfl okX4_isWithin ml_X4_38 (Nat.le_of_ble_eq_true rfl) (Nat.le_of_ble_eq_true rfl) ?_
  refine zw_if_ne_b (tgt := 13) dX4_append_8 (by decide) (fun c8 => ?_) (fun c8 => absurd hx c8)
  refine zw_aload_n dX4_append_13 rfl ?_
  refine zw_getR (j := 3) (kd := 4) dX4_append_14 hb.i hb.k (by decide) (by decide) fl_X4_29 rfl hb.r3 ?_
  refine zw_getIv (j := 1) (kd := 2) (v := (nI (len))) dX4_append_17 hb.pl.i hb.pl.k (by decide) (by decide) fl_X4_109 rfl hlen ?_
  refine zw_bipush (v := nI 100) dX4_append_20 (by decide) ?_
  refine zw_icmp_lt_n (tgt := 28) dX4_append_22 (by decide) (by omega) (by omega) (fun c22 => ?_) (fun c22 => by omega)
  refine zw_aload_n dX4_append_28 rfl ?_
  refine zw_getR (j := 3) (kd := 4) dX4_append_29 hb.i hb.k (by decide) (by decide) fl_X4_29 rfl hb.r3 ?_
  refine zw_getR (j := 0) (kd := 2) dX4_append_32 hb.pl.i hb.pl.k (by decide) (by decide) fl_X4_112 rfl hb.pl.r0 ?_
  refine zw_aload_n dX4_append_35 rfl ?_
  refine zw_getR (j := 3) (kd := 4) dX4_append_36 hb.i hb.k (by decide) (by decide) fl_X4_29 rfl hb.r3 ?_
  refine zw_getIv (j := 1) (kd := 2) (v := (nI (len))) dX4_append_39 hb.pl.i hb.pl.k (by decide) (by decide) fl_X4_109 rfl hlen ?_
  refine zw_iload_n dX4_append_42 rfl ?_
  refine zw_iast dX4_append_43 hb.pl.i0 hb.pl.k0 hb.pl.L0 rfl (by rw [hb.pl.n0]; omega) ?_
  refine zw_aload_n dX4_append_44 rfl ?_
  refine zw_getR (j := 3) (kd := 4) dX4_append_45 hb.i hb.k (by decide) (by decide) fl_X4_29 rfl hb.r3 ?_
  refine zw_dup dX4_append_48 ?_
  refine zw_getIv (j := 1) (kd := 2) (v := (nI (len))) dX4_append_49 hb.pl.i hb.pl.k (by decide) (by decide) fl_X4_109 rfl (by rw [up_ne (by omega)]; exact hlen) ?_
  refine zw_iconst (v := nI 1) dX4_append_52 (by decide) ?_
  refine zw_iaddn dX4_append_53 ?_
  refine zw_putI (j := 1) (kd := 2) dX4_append_54 hb.pl.i hb.pl.k (by decide) (by decide) fl_X4_109 rfl rfl rfl ?_
  refine zw_aload_n dX4_append_57 rfl ?_
  refine zw_getR (j := 3) (kd := 4) dX4_append_58 hb.i hb.k (by decide) (by decide) fl_X4_29 rfl hb.r3 ?_
  refine zw_getIv (j := 1) (kd := 2) (v := (nI (len + 1))) dX4_append_61 hb.pl.i hb.pl.k (by decide) (by decide) fl_X4_109 rfl up_eq ?_
  exact zw_iretE dX4_append_64 rfl (rfl) rfl (rfl)
set_option maxRecDepth 100000 in
set_option maxHeartbeats 1000000 in
theorem c_clearText {sh : Sh} {C : Mem} {b len : Nat} (hb : IsSH sh b) (hlen : C (b + 115) 1 = nI len) (h100 : len ≤ 100)  : Calls mX4_clearText 0 0 0 [.inr (some (b))] sh C (some (.inl (nI len))) sh (up C (b + 115) 1 (nI 0)) := by
  refine Calls.of plX4 (Nat.le_of_ble_eq_true rfl) ?_
  show WP mX4_clearText 0 0 0 0 [some (.inr (some (b))), none] [] sh (C) (some (.inl (nI len))) sh (up C (b + 115) 1 (nI 0))
  refine zw_aload_n dX4_clearText_0 rfl ?_
  refine zw_getR (j := 3) (kd := 4) dX4_clearText_1 hb.i hb.k (by decide) (by decide) fl_X4_29 rfl hb.r3 ?_
  refine zw_getIv (j := 1) (kd := 2) (v := (nI (len))) dX4_clearText_4 hb.pl.i hb.pl.k (by decide) (by decide) fl_X4_109 rfl hlen ?_
  refine zw_istore_n dX4_clearText_7 (by decide) ?_
  refine zw_aload_n dX4_clearText_8 rfl ?_
  refine zw_getR (j := 3) (kd := 4) dX4_clearText_9 hb.i hb.k (by decide) (by decide) fl_X4_29 rfl hb.r3 ?_
  refine zw_iconst (v := nI 0) dX4_clearText_12 (by decide) ?_
  refine zw_putI (j := 1) (kd := 2) dX4_clearText_13 hb.pl.i hb.pl.k (by decide) (by decide) fl_X4_109 rfl rfl rfl ?_
  refine zw_iload_n dX4_clearText_16 rfl ?_
  exact zw_iretE dX4_clearText_17 rfl (rfl) rfl (rfl)
def fpM (C : Mem) (a : Nat) (x0 x1 x2 x3 x4 : Int32) : Mem := up (up (up (up (up C a 0 x0) a 1 x1) a 2 x2) a 3 x3) a 4 x4
set_option maxRecDepth 100000 in
set_option maxHeartbeats 1000000 in
theorem c_X4_failPlan {sh : Sh} {C : Mem} {b : Nat} (hb : IsSH sh b) (x0 x1 x2 x3 x4 : Int32) : Calls mX4_failPlan 0 0 0 [.inr (some (b)), .inl (x0), .inl (x1), .inl (x2), .inl (x3), .inl (x4)] sh C (some (.inl ((-1000) - x1))) sh (fpM C (b + 133) x0 x1 x2 x3 x4) := by
  refine Calls.of plX4 (Nat.le_of_ble_eq_true rfl) ?_
  show WP mX4_failPlan 0 0 0 0 [some (.inr (some (b))), some (.inl (x0)), some (.inl (x1)), some (.inl (x2)), some (.inl (x3)), some (.inl (x4))] [] sh (C) (some (.inl ((-1000) - x1))) sh (fpM C (b + 133) x0 x1 x2 x3 x4)
  refine zw_aload_n dX4_failPlan_0 rfl ?_
  refine zw_getR (j := 4) (kd := 4) dX4_failPlan_1 hb.i hb.k (by decide) (by decide) fl_X4_33 rfl hb.r4 ?_
  refine zw_iconst (v := nI 0) dX4_failPlan_4 (by decide) ?_
  refine zw_iload_n dX4_failPlan_5 rfl ?_
  refine zw_iast dX4_failPlan_6 hb.i4 hb.k4 hb.L4 rfl (by rw [hb.n4]; omega) ?_
  refine zw_aload_n dX4_failPlan_7 rfl ?_
  refine zw_getR (j := 4) (kd := 4) dX4_failPlan_8 hb.i hb.k (by decide) (by decide) fl_X4_33 rfl hb.r4 ?_
  refine zw_iconst (v := nI 1) dX4_failPlan_11 (by decide) ?_
  refine zw_iload_n dX4_failPlan_12 rfl ?_
  refine zw_iast dX4_failPlan_13 hb.i4 hb.k4 hb.L4 rfl (by rw [hb.n4]; omega) ?_
  refine zw_aload_n dX4_failPlan_14 rfl ?_
  refine zw_getR (j := 4) (kd := 4) dX4_failPlan_15 hb.i hb.k (by decide) (by decide) fl_X4_33 rfl hb.r4 ?_
  refine zw_iconst (v := nI 2) dX4_failPlan_18 (by decide) ?_
  refine zw_iload_n dX4_failPlan_19 rfl ?_
  refine zw_iast dX4_failPlan_20 hb.i4 hb.k4 hb.L4 rfl (by rw [hb.n4]; omega) ?_
  refine zw_aload_n dX4_failPlan_21 rfl ?_
  refine zw_getR (j := 4) (kd := 4) dX4_failPlan_22 hb.i hb.k (by decide) (by decide) fl_X4_33 rfl hb.r4 ?_
  refine zw_iconst (v := nI 3) dX4_failPlan_25 (by decide) ?_
  refine zw_iload dX4_failPlan_26 rfl ?_
  refine zw_iast dX4_failPlan_28 hb.i4 hb.k4 hb.L4 rfl (by rw [hb.n4]; omega) ?_
  refine zw_aload_n dX4_failPlan_29 rfl ?_
  refine zw_getR (j := 4) (kd := 4) dX4_failPlan_30 hb.i hb.k (by decide) (by decide) fl_X4_33 rfl hb.r4 ?_
  refine zw_iconst (v := nI 4) dX4_failPlan_33 (by decide) ?_
  refine zw_iload dX4_failPlan_34 rfl ?_
  refine zw_iast dX4_failPlan_36 hb.i4 hb.k4 hb.L4 rfl (by rw [hb.n4]; omega) ?_
  refine zw_sipush (v := (-1000)) dX4_failPlan_37 (by decide) ?_
  refine zw_iload_n dX4_failPlan_40 rfl ?_
  refine zw_isub dX4_failPlan_41 ?_
  exact zw_iretE dX4_failPlan_42 rfl (rfl) rfl (rfl)
set_option maxRecDepth 100000 in
set_option maxHeartbeats 1000000 in
theorem c_failure_bad {sh : Sh} {C : Mem} {b : Nat} (hb : IsSH sh b) (x : Int32) (hx : ¬ (nI 0 ≤ x ∧ x ≤ nI 4)) : Calls mX4_failure 1 0 0 [.inr (some (b)), .inl (x)] sh C (some (.inl (-1))) sh (C) := by
  refine Calls.of plX4 (Nat.le_of_ble_eq_true rfl) ?_
  show WP mX4_failure 1 0 0 0 [some (.inr (some (b))), some (.inl (x)), none] [] sh (C) (some (.inl (-1))) sh (C)
  refine zw_iload_n dX4_failure_0 rfl ?_
  refine zw_iconst (v := nI 0) dX4_failure_1 (by decide) ?_
  refine zw_iconst (v := nI 4) dX4_failure_2 (by decide) ?_
  refine zw_cSi dX4_failure_3 (c_X4_isWithin _ _ _) rfl okX4_isWithin ml_X4_38 (Nat.le_of_ble_eq_true rfl) (Nat.le_of_ble_eq_true rfl) ?_
  refine zw_if_ne_b (tgt := 11) dX4_failure_6 (by decide) (fun c6 => absurd c6 hx) (fun c6 => ?_)
  refine zw_iconst (v := (-1)) dX4_failure_9 (by decide) ?_
  exact zw_iretE dX4_failure_10 rfl (rfl) rfl (rfl)
set_option maxRecDepth 100000 in
set_option maxHeartbeats 1000000 in
theorem c_failure_none {sh : Sh} {C : Mem} {b : Nat} (hb : IsSH sh b) {i : Nat} (hi : i < 5) (hf : C (b + 133) 0 = 0) : Calls mX4_failure 1 0 0 [.inr (some (b)), .inl (nI (i))] sh C (some (.inl (-9))) sh (C) := by
  refine Calls.of plX4 (Nat.le_of_ble_eq_true rfl) ?_
  show WP mX4_failure 1 0 0 0 [some (.inr (some (b))), some (.inl (nI (i))), none] [] sh (C) (some (.inl (-9))) sh (C)
  refine zw_iload_n dX4_failure_0 rfl ?_
  refine zw_iconst (v := nI 0) dX4_failure_1 (by decide) ?_
  refine zw_iconst (v := nI 4) dX4_failure_2 (by decide) ?_
  refine zw_cSi dX4_failure_3 (c_X4_isWithin _ _ _) rfl okX4_isWithin ml_X4_38 (Nat.le_of_ble_eq_true rfl) (Nat.le_of_ble_eq_true rfl) ?_
  refine zw_if_ne_b (tgt := 11) dX4_failure_6 (by decide) (fun c6 => ?_) (fun c6 => absurd (And.intro (nI_le (Nat.zero_le _) (by omega)) (nI_le (by omega) (by decide))) c6)
  refine zw_aload_n dX4_failure_11 rfl ?_
  refine zw_getR (j := 4) (kd := 4) dX4_failure_12 hb.i hb.k (by decide) (by decide) fl_X4_33 rfl hb.r4 ?_
  refine zw_iconst (v := nI 0) dX4_failure_15 (by decide) ?_
  refine zw_iald dX4_failure_16 hb.i4 hb.k4 hb.L4 rfl (by rw [hb.n4]; omega) ?_
  refine zw_if_ne (tgt := 24) dX4_failure_17 (by decide) (fun c17 => absurd hf c17) (fun c17 => ?_)
  refine zw_iconst (v := nI 1) dX4_failure_20 (by decide) ?_
  refine zw_goto (tgt := 25) dX4_failure_21 (by decide) ?_
  refine zw_istore_n dX4_failure_25 (by decide) ?_
  refine zw_iload_n dX4_failure_26 rfl ?_
  refine zw_if_eq_n (tgt := 35) dX4_failure_27 (by decide) (by omega) (fun c27 => by omega) (fun c27 => ?_)
  refine zw_bipush (v := (-9)) dX4_failure_30 (by decide) ?_
  refine zw_goto (tgt := 41) dX4_failure_32 (by decide) ?_
  exact zw_iretE dX4_failure_41 rfl (rfl) rfl (rfl)
set_option maxRecDepth 100000 in
set_option maxHeartbeats 1000000 in
theorem c_failure_ok {sh : Sh} {C : Mem} {b : Nat} (hb : IsSH sh b) {i : Nat} (hi : i < 5) (hf : ¬ C (b + 133) 0 = 0) : Calls mX4_failure 1 0 0 [.inr (some (b)), .inl (nI (i))] sh C (some (.inl (C (b + 133) i))) sh (C) := by
  refine Calls.of plX4 (Nat.le_of_ble_eq_true rfl) ?_
  show WP mX4_failure 1 0 0 0 [some (.inr (some (b))), some (.inl (nI (i))), none] [] sh (C) (some (.inl (C (b + 133) i))) sh (C)
  refine zw_iload_n dX4_failure_0 rfl ?_
  refine zw_iconst (v := nI 0) dX4_failure_1 (by decide) ?_
  refine zw_iconst (v := nI 4) dX4_failure_2 (by decide) ?_
  refine zw_cSi dX4_failure_3 (c_X4_isWithin _ _ _) rfl okX4_isWithin ml_X4_38 (Nat.le_of_ble_eq_true rfl) (Nat.le_of_ble_eq_true rfl) ?_
  refine zw_if_ne_b (tgt := 11) dX4_failure_6 (by decide) (fun c6 => ?_) (fun c6 => absurd (And.intro (nI_le (Nat.zero_le _) (by omega)) (nI_le (by omega) (by decide))) c6)
  refine zw_aload_n dX4_failure_11 rfl ?_
  refine zw_getR (j := 4) (kd := 4) dX4_failure_12 hb.i hb.k (by decide) (by decide) fl_X4_33 rfl hb.r4 ?_
  refine zw_iconst (v := nI 0) dX4_failure_15 (by decide) ?_
  refine zw_iald dX4_failure_16 hb.i4 hb.k4 hb.L4 rfl (by rw [hb.n4]; omega) ?_
  refine zw_if_ne (tgt := 24) dX4_failure_17 (by decide) (fun c17 => ?_) (fun c17 => absurd c17 hf)
  refine zw_iconst (v := nI 0) dX4_failure_24 (by decide) ?_
  refine zw_istore_n dX4_failure_25 (by decide) ?_
  refine zw_iload_n dX4_failure_26 rfl ?_
  refine zw_if_eq_n (tgt := 35) dX4_failure_27 (by decide) (by omega) (fun c27 => ?_) (fun c27 => by omega)
  refine zw_aload_n dX4_failure_35 rfl ?_
  refine zw_getR (j := 4) (kd := 4) dX4_failure_36 hb.i hb.k (by decide) (by decide) fl_X4_33 rfl hb.r4 ?_
  refine zw_iload_n dX4_failure_39 rfl ?_
  refine zw_iald dX4_failure_40 hb.i4 hb.k4 hb.L4 rfl (by rw [hb.n4]; omega) ?_
  exact zw_iretE dX4_failure_41 rfl (rfl) rfl (rfl)
set_option maxRecDepth 100000 in
set_option maxHeartbeats 1000000 in
theorem c_count_0 {sh : Sh} {C : Mem} {b P : Nat} (hb : IsSH sh b) (hw : Wf C (b + 1) P)  : Calls mX4_count 3 0 0 [.inr (some (b)), .inl (nI (0))] sh C (some (.inl (C (b + 1) 0))) sh (C) := by
  refine Calls.of plX4 (Nat.le_of_ble_eq_true rfl) ?_
  show WP mX4_count 3 0 0 0 [some (.inr (some (b))), some (.inl (nI (0)))] [] sh (C) (some (.inl (C (b + 1) 0))) sh (C)
  have hP12 := hw.2.1
  refine zw_iload_n dX4_count_0 rfl ?_
  refine zw_tswIn (tgt := 56) (off := 55) dX4_count_1 (by decide) (by decide) (by decide) (by decide) ?_
  refine zw_aload_n dX4_count_56 rfl ?_
  refine zw_getR (j := 0) (kd := 4) dX4_count_57 hb.i hb.k (by decide) (by decide) fl_X4_12 rfl hb.r0 ?_
  refine zw_getI (j := 0) (kd := 3) dX4_count_60 hb.st.i hb.st.k (by decide) (by decide) fl_X4_87 rfl ?_
  exact zw_iretE dX4_count_63 rfl (rfl) rfl (rfl)
set_option maxRecDepth 100000 in
set_option maxHeartbeats 1000000 in
theorem c_count_1 {sh : Sh} {C : Mem} {b P : Nat} (hb : IsSH sh b) (hw : Wf C (b + 1) P)  : Calls mX4_count 3 0 0 [.inr (some (b)), .inl (nI (1))] sh C (some (.inl (nI P))) sh (C) := by
  refine Calls.of plX4 (Nat.le_of_ble_eq_true rfl) ?_
  show WP mX4_count 3 0 0 0 [some (.inr (some (b))), some (.inl (nI (1)))] [] sh (C) (some (.inl (nI P))) sh (C)
  have hP12 := hw.2.1
  refine zw_iload_n dX4_count_0 rfl ?_
  refine zw_tswIn (tgt := 64) (off := 63) dX4_count_1 (by decide) (by decide) (by decide) (by decide) ?_
  refine zw_aload_n dX4_count_64 rfl ?_
  refine zw_getR (j := 0) (kd := 4) dX4_count_65 hb.i hb.k (by decide) (by decide) fl_X4_12 rfl hb.r0 ?_
  refine zw_getIv (j := 3) (kd := 3) (v := (nI (P))) dX4_count_68 hb.st.i hb.st.k (by decide) (by decide) fl_X4_42 rfl hw.1 ?_
  exact zw_iretE dX4_count_71 rfl (rfl) rfl (rfl)
set_option maxRecDepth 100000 in
set_option maxHeartbeats 1000000 in
theorem c_count_2 {sh : Sh} {C : Mem} {b P : Nat} (hb : IsSH sh b) (hw : Wf C (b + 1) P)  : Calls mX4_count 3 0 0 [.inr (some (b)), .inl (nI (2))] sh C (some (.inl (sm (fun p => sm (fun s => n01 (bm C (b + 1) p s)) 96) P))) sh (C) := by
  refine Calls.of plX4 (Nat.le_of_ble_eq_true rfl) ?_
  show WP mX4_count 3 0 0 0 [some (.inr (some (b))), some (.inl (nI (2)))] [] sh (C) (some (.inl (sm (fun p => sm (fun s => n01 (bm C (b + 1) p s)) 96) P))) sh (C)
  have hP12 := hw.2.1
  refine zw_iload_n dX4_count_0 rfl ?_
  refine zw_tswIn (tgt := 72) (off := 71) dX4_count_1 (by decide) (by decide) (by decide) (by decide) ?_
  refine zw_aload_n dX4_count_72 rfl ?_
  refine zw_getR (j := 0) (kd := 4) dX4_count_73 hb.i hb.k (by decide) (by decide) fl_X4_12 rfl hb.r0 ?_
  refine zw_cVi dX4_count_76 (c_X3_allBids hb.st hw) rfl okX3_allBids ml_X4_160 hb.st.i hb.st.k (by decide) rfl (Nat.le_of_ble_eq_true rfl) (Nat.le_of_ble_eq_true rfl) ?_
  exact zw_iretE dX4_count_79 rfl (rfl) rfl (rfl)
set_option maxRecDepth 100000 in
set_option maxHeartbeats 1000000 in
theorem c_count_3 {sh : Sh} {C : Mem} {b P : Nat} (hb : IsSH sh b) (hw : Wf C (b + 1) P)  : Calls mX4_count 3 0 0 [.inr (some (b)), .inl (nI (3))] sh C (some (.inl (sm (fun st => nI 24 - qh C (b + 1) st) 4))) sh (C) := by
  refine Calls.of plX4 (Nat.le_of_ble_eq_true rfl) ?_
  show WP mX4_count 3 0 0 0 [some (.inr (some (b))), some (.inl (nI (3)))] [] sh (C) (some (.inl (sm (fun st => nI 24 - qh C (b + 1) st) 4))) sh (C)
  have hP12 := hw.2.1
  refine zw_iload_n dX4_count_0 rfl ?_
  refine zw_tswIn (tgt := 80) (off := 79) dX4_count_1 (by decide) (by decide) (by decide) (by decide) ?_
  refine zw_aload_n dX4_count_80 rfl ?_
  refine zw_getR (j := 0) (kd := 4) dX4_count_81 hb.i hb.k (by decide) (by decide) fl_X4_12 rfl hb.r0 ?_
  refine zw_cVi dX4_count_84 (c_X3_noisySlots hb.st) rfl okX3_noisySlots ml_X4_93 hb.st.i hb.st.k (by decide) rfl (Nat.le_of_ble_eq_true rfl) (Nat.le_of_ble_eq_true rfl) ?_
  exact zw_iretE dX4_count_87 rfl (rfl) rfl (rfl)
set_option maxRecDepth 100000 in
set_option maxHeartbeats 1000000 in
theorem c_count_4 {sh : Sh} {C : Mem} {b P : Nat} (hb : IsSH sh b) (hw : Wf C (b + 1) P)  : Calls mX4_count 3 0 0 [.inr (some (b)), .inl (nI (4))] sh C (some (.inl (C (b + 1) 1))) sh (C) := by
  refine Calls.of plX4 (Nat.le_of_ble_eq_true rfl) ?_
  show WP mX4_count 3 0 0 0 [some (.inr (some (b))), some (.inl (nI (4)))] [] sh (C) (some (.inl (C (b + 1) 1))) sh (C)
  have hP12 := hw.2.1
  refine zw_iload_n dX4_count_0 rfl ?_
  refine zw_tswIn (tgt := 88) (off := 87) dX4_count_1 (by decide) (by decide) (by decide) (by decide) ?_
  refine zw_aload_n dX4_count_88 rfl ?_
  refine zw_getR (j := 0) (kd := 4) dX4_count_89 hb.i hb.k (by decide) (by decide) fl_X4_12 rfl hb.r0 ?_
  refine zw_getI (j := 1) (kd := 3) dX4_count_92 hb.st.i hb.st.k (by decide) (by decide) fl_X4_84 rfl ?_
  exact zw_iretE dX4_count_95 rfl (rfl) rfl (rfl)
set_option maxRecDepth 100000 in
set_option maxHeartbeats 1000000 in
theorem c_count_5 {sh : Sh} {C : Mem} {b P : Nat} (hb : IsSH sh b) (hw : Wf C (b + 1) P)  : Calls mX4_count 3 0 0 [.inr (some (b)), .inl (nI (5))] sh C (some (.inl (sm2 (sm (fun p => C (b + 2) p) P) (fun j => C (b + 16) j) 4))) sh (C) := by
  refine Calls.of plX4 (Nat.le_of_ble_eq_true rfl) ?_
  show WP mX4_count 3 0 0 0 [some (.inr (some (b))), some (.inl (nI (5)))] [] sh (C) (some (.inl (sm2 (sm (fun p => C (b + 2) p) P) (fun j => C (b + 16) j) 4))) sh (C)
  have hP12 := hw.2.1
  refine zw_iload_n dX4_count_0 rfl ?_
  refine zw_tswIn (tgt := 96) (off := 95) dX4_count_1 (by decide) (by decide) (by decide) (by decide) ?_
  refine zw_aload_n dX4_count_96 rfl ?_
  refine zw_getR (j := 0) (kd := 4) dX4_count_97 hb.i hb.k (by decide) (by decide) fl_X4_12 rfl hb.r0 ?_
  refine zw_cVi dX4_count_100 (c_X3_allMoney hb.st hw) rfl okX3_allMoney ml_X4_163 hb.st.i hb.st.k (by decide) rfl (Nat.le_of_ble_eq_true rfl) (Nat.le_of_ble_eq_true rfl) ?_
  exact zw_iretE dX4_count_103 rfl (rfl) rfl (rfl)
set_option maxRecDepth 100000 in
set_option maxHeartbeats 1000000 in
theorem c_count_6 {sh : Sh} {C : Mem} {b P : Nat} (hb : IsSH sh b) (hw : Wf C (b + 1) P)  : Calls mX4_count 3 0 0 [.inr (some (b)), .inl (nI (6))] sh C (some (.inl (sm (fun p => C (b + 4) p) P))) sh (C) := by
  refine Calls.of plX4 (Nat.le_of_ble_eq_true rfl) ?_
  show WP mX4_count 3 0 0 0 [some (.inr (some (b))), some (.inl (nI (6)))] [] sh (C) (some (.inl (sm (fun p => C (b + 4) p) P))) sh (C)
  have hP12 := hw.2.1
  refine zw_iload_n dX4_count_0 rfl ?_
  refine zw_tswIn (tgt := 104) (off := 103) dX4_count_1 (by decide) (by decide) (by decide) (by decide) ?_
  refine zw_aload_n dX4_count_104 rfl ?_
  refine zw_getR (j := 0) (kd := 4) dX4_count_105 hb.i hb.k (by decide) (by decide) fl_X4_12 rfl hb.r0 ?_
  refine zw_cVi dX4_count_108 (c_X3_allDebts hb.st hw) rfl okX3_allDebts ml_X4_166 hb.st.i hb.st.k (by decide) rfl (Nat.le_of_ble_eq_true rfl) (Nat.le_of_ble_eq_true rfl) ?_
  exact zw_iretE dX4_count_111 rfl (rfl) rfl (rfl)
set_option maxRecDepth 100000 in
set_option maxHeartbeats 1000000 in
theorem c_count_7 {sh : Sh} {C : Mem} {b P : Nat} (hb : IsSH sh b) (hw : Wf C (b + 1) P)  : Calls mX4_count 3 0 0 [.inr (some (b)), .inl (nI (7))] sh C (some (.inl (C (b + 1) 2))) sh (C) := by
  refine Calls.of plX4 (Nat.le_of_ble_eq_true rfl) ?_
  show WP mX4_count 3 0 0 0 [some (.inr (some (b))), some (.inl (nI (7)))] [] sh (C) (some (.inl (C (b + 1) 2))) sh (C)
  have hP12 := hw.2.1
  refine zw_iload_n dX4_count_0 rfl ?_
  refine zw_tswIn (tgt := 112) (off := 111) dX4_count_1 (by decide) (by decide) (by decide) (by decide) ?_
  refine zw_aload_n dX4_count_112 rfl ?_
  refine zw_getR (j := 0) (kd := 4) dX4_count_113 hb.i hb.k (by decide) (by decide) fl_X4_12 rfl hb.r0 ?_
  refine zw_getI (j := 2) (kd := 3) dX4_count_116 hb.st.i hb.st.k (by decide) (by decide) fl_X4_169 rfl ?_
  exact zw_iretE dX4_count_119 rfl (rfl) rfl (rfl)
set_option maxRecDepth 100000 in
set_option maxHeartbeats 1000000 in
theorem c_count_8 {sh : Sh} {C : Mem} {b P : Nat} (hb : IsSH sh b) (hw : Wf C (b + 1) P)  : Calls mX4_count 3 0 0 [.inr (some (b)), .inl (nI (8))] sh C (some (.inl (C (b + 33) 2))) sh (C) := by
  refine Calls.of plX4 (Nat.le_of_ble_eq_true rfl) ?_
  show WP mX4_count 3 0 0 0 [some (.inr (some (b))), some (.inl (nI (8)))] [] sh (C) (some (.inl (C (b + 33) 2))) sh (C)
  have hP12 := hw.2.1
  refine zw_iload_n dX4_count_0 rfl ?_
  refine zw_tswIn (tgt := 120) (off := 119) dX4_count_1 (by decide) (by decide) (by decide) (by decide) ?_
  refine zw_aload_n dX4_count_120 rfl ?_
  refine zw_getR (j := 2) (kd := 4) dX4_count_121 hb.i hb.k (by decide) (by decide) fl_X4_22 rfl hb.r2 ?_
  refine zw_getI (j := 2) (kd := 0) dX4_count_124 hb.hi.i hb.hi.k (by decide) (by decide) fl_X4_103 rfl ?_
  exact zw_iretE dX4_count_127 rfl (rfl) rfl (rfl)
set_option maxRecDepth 100000 in
set_option maxHeartbeats 1000000 in
theorem c_count_9 {sh : Sh} {C : Mem} {b P : Nat} (hb : IsSH sh b) (hw : Wf C (b + 1) P)  : Calls mX4_count 3 0 0 [.inr (some (b)), .inl (nI (9))] sh C (some (.inl (C (b + 115) 1))) sh (C) := by
  refine Calls.of plX4 (Nat.le_of_ble_eq_true rfl) ?_
  show WP mX4_count 3 0 0 0 [some (.inr (some (b))), some (.inl (nI (9)))] [] sh (C) (some (.inl (C (b + 115) 1))) sh (C)
  have hP12 := hw.2.1
  refine zw_iload_n dX4_count_0 rfl ?_
  refine zw_tswIn (tgt := 128) (off := 127) dX4_count_1 (by decide) (by decide) (by decide) (by decide) ?_
  refine zw_aload_n dX4_count_128 rfl ?_
  refine zw_getR (j := 3) (kd := 4) dX4_count_129 hb.i hb.k (by decide) (by decide) fl_X4_29 rfl hb.r3 ?_
  refine zw_getI (j := 1) (kd := 2) dX4_count_132 hb.pl.i hb.pl.k (by decide) (by decide) fl_X4_109 rfl ?_
  exact zw_iretE dX4_count_135 rfl (rfl) rfl (rfl)
set_option maxRecDepth 100000 in
set_option maxHeartbeats 1000000 in
theorem c_count_bad {sh : Sh} {C : Mem} {b P : Nat} (hb : IsSH sh b) (hw : Wf C (b + 1) P) (x : Int32) (hx : x.toInt < 0 ∨ 9 < x.toInt) : Calls mX4_count 3 0 0 [.inr (some (b)), .inl (x)] sh C (some (.inl (-1))) sh (C) := by
  refine Calls.of plX4 (Nat.le_of_ble_eq_true rfl) ?_
  show WP mX4_count 3 0 0 0 [some (.inr (some (b))), some (.inl (x))] [] sh (C) (some (.inl (-1))) sh (C)
  have hP12 := hw.2.1
  refine zw_iload_n dX4_count_0 rfl ?_
  refine zw_tswOut (tgt := 136) dX4_count_1 hx (by decide) ?_
  refine zw_iconst (v := (-1)) dX4_count_136 (by decide) ?_
  exact zw_iretE dX4_count_137 rfl (rfl) rfl (rfl)
set_option maxRecDepth 100000 in
set_option maxHeartbeats 1000000 in
theorem c_person_0 {sh : Sh} {C : Mem} {b P : Nat} (hb : IsSH sh b) (hw : Wf C (b + 1) P) {p : Nat} (hp : p < P)  : Calls mX4_person 2 0 0 [.inr (some (b)), .inl (nI (p)), .inl (nI (0))] sh C (some (.inl (C (b + 2) p))) sh (C) := by
  refine Calls.of plX4 (Nat.le_of_ble_eq_true rfl) ?_
  show WP mX4_person 2 0 0 0 [some (.inr (some (b))), some (.inl (nI (p))), some (.inl (nI (0)))] [] sh (C) (some (.inl (C (b + 2) p))) sh (C)
  have hP12 := hw.2.1
  refine zw_aload_n dX4_person_0 rfl ?_
  refine zw_iload_n dX4_person_1 rfl ?_
  refine zw_cVi dX4_person_2 (c_X4_isPerson hb hw _) rfl okX4_isPerson ml_X4_53 hb.i hb.k (by decide) rfl (Nat.le_of_ble_eq_true rfl) (Nat.le_of_ble_eq_true rfl) ?_
  refine zw_if_ne_c (tgt := 10) dX4_person_5 (by decide) (fun c5 => ?_) (fun c5 => absurd (isP_n hp) c5)
  refine zw_iload_n dX4_person_10 rfl ?_
  refine zw_tswIn (tgt := 56) (off := 45) dX4_person_11 (by decide) (by decide) (by decide) (by decide) ?_
  refine zw_aload_n dX4_person_56 rfl ?_
  refine zw_getR (j := 0) (kd := 4) dX4_person_57 hb.i hb.k (by decide) (by decide) fl_X4_12 rfl hb.r0 ?_
  refine zw_getR (j := 4) (kd := 3) dX4_person_60 hb.st.i hb.st.k (by decide) (by decide) fl_X4_50 rfl hb.st.r0 ?_
  refine zw_iload_n dX4_person_63 rfl ?_
  refine zw_iald dX4_person_64 hb.st.i0 hb.st.k0 hb.st.L0 rfl (by rw [hb.st.n0]; omega) ?_
  exact zw_iretE dX4_person_65 rfl (rfl) rfl (rfl)
set_option maxRecDepth 100000 in
set_option maxHeartbeats 1000000 in
theorem c_person_1 {sh : Sh} {C : Mem} {b P : Nat} (hb : IsSH sh b) (hw : Wf C (b + 1) P) {p : Nat} (hp : p < P)  : Calls mX4_person 2 0 0 [.inr (some (b)), .inl (nI (p)), .inl (nI (1))] sh C (some (.inl (fM C (b + 1) p))) sh (C) := by
  refine Calls.of plX4 (Nat.le_of_ble_eq_true rfl) ?_
  show WP mX4_person 2 0 0 0 [some (.inr (some (b))), some (.inl (nI (p))), some (.inl (nI (1)))] [] sh (C) (some (.inl (fM C (b + 1) p))) sh (C)
  have hP12 := hw.2.1
  refine zw_aload_n dX4_person_0 rfl ?_
  refine zw_iload_n dX4_person_1 rfl ?_
  refine zw_cVi dX4_person_2 (c_X4_isPerson hb hw _) rfl okX4_isPerson ml_X4_53 hb.i hb.k (by decide) rfl (Nat.le_of_ble_eq_true rfl) (Nat.le_of_ble_eq_true rfl) ?_
  refine zw_if_ne_c (tgt := 10) dX4_person_5 (by decide) (fun c5 => ?_) (fun c5 => absurd (isP_n hp) c5)
  refine zw_iload_n dX4_person_10 rfl ?_
  refine zw_tswIn (tgt := 66) (off := 55) dX4_person_11 (by decide) (by decide) (by decide) (by decide) ?_
  refine zw_aload_n dX4_person_66 rfl ?_
  refine zw_getR (j := 0) (kd := 4) dX4_person_67 hb.i hb.k (by decide) (by decide) fl_X4_12 rfl hb.r0 ?_
  refine zw_iload_n dX4_person_70 rfl ?_
  refine zw_cVi dX4_person_71 (c_X3_freeMoney hb.st (by omega)) rfl okX3_freeMoney ml_X4_172 hb.st.i hb.st.k (by decide) rfl (Nat.le_of_ble_eq_true rfl) (Nat.le_of_ble_eq_true rfl) ?_
  exact zw_iretE dX4_person_74 rfl (rfl) rfl (rfl)
set_option maxRecDepth 100000 in
set_option maxHeartbeats 1000000 in
theorem c_person_2 {sh : Sh} {C : Mem} {b P : Nat} (hb : IsSH sh b) (hw : Wf C (b + 1) P) {p : Nat} (hp : p < P)  : Calls mX4_person 2 0 0 [.inr (some (b)), .inl (nI (p)), .inl (nI (2))] sh C (some (.inl (C (b + 4) p))) sh (C) := by
  refine Calls.of plX4 (Nat.le_of_ble_eq_true rfl) ?_
  show WP mX4_person 2 0 0 0 [some (.inr (some (b))), some (.inl (nI (p))), some (.inl (nI (2)))] [] sh (C) (some (.inl (C (b + 4) p))) sh (C)
  have hP12 := hw.2.1
  refine zw_aload_n dX4_person_0 rfl ?_
  refine zw_iload_n dX4_person_1 rfl ?_
  refine zw_cVi dX4_person_2 (c_X4_isPerson hb hw _) rfl okX4_isPerson ml_X4_53 hb.i hb.k (by decide) rfl (Nat.le_of_ble_eq_true rfl) (Nat.le_of_ble_eq_true rfl) ?_
  refine zw_if_ne_c (tgt := 10) dX4_person_5 (by decide) (fun c5 => ?_) (fun c5 => absurd (isP_n hp) c5)
  refine zw_iload_n dX4_person_10 rfl ?_
  refine zw_tswIn (tgt := 75) (off := 64) dX4_person_11 (by decide) (by decide) (by decide) (by decide) ?_
  refine zw_aload_n dX4_person_75 rfl ?_
  refine zw_getR (j := 0) (kd := 4) dX4_person_76 hb.i hb.k (by decide) (by decide) fl_X4_12 rfl hb.r0 ?_
  refine zw_getR (j := 6) (kd := 3) dX4_person_79 hb.st.i hb.st.k (by decide) (by decide) fl_X4_176 rfl hb.st.r2 ?_
  refine zw_iload_n dX4_person_82 rfl ?_
  refine zw_iald dX4_person_83 hb.st.i2 hb.st.k2 hb.st.L2 rfl (by rw [hb.st.n2]; omega) ?_
  exact zw_iretE dX4_person_84 rfl (rfl) rfl (rfl)
set_option maxRecDepth 100000 in
set_option maxHeartbeats 1000000 in
theorem c_person_3 {sh : Sh} {C : Mem} {b P : Nat} (hb : IsSH sh b) (hw : Wf C (b + 1) P) {p : Nat} (hp : p < P)  : Calls mX4_person 2 0 0 [.inr (some (b)), .inl (nI (p)), .inl (nI (3))] sh C (some (.inl (sm (fun s => n01 (bm C (b + 1) p s)) 96))) sh (C) := by
  refine Calls.of plX4 (Nat.le_of_ble_eq_true rfl) ?_
  show WP mX4_person 2 0 0 0 [some (.inr (some (b))), some (.inl (nI (p))), some (.inl (nI (3)))] [] sh (C) (some (.inl (sm (fun s => n01 (bm C (b + 1) p s)) 96))) sh (C)
  have hP12 := hw.2.1
  refine zw_aload_n dX4_person_0 rfl ?_
  refine zw_iload_n dX4_person_1 rfl ?_
  refine zw_cVi dX4_person_2 (c_X4_isPerson hb hw _) rfl okX4_isPerson ml_X4_53 hb.i hb.k (by decide) rfl (Nat.le_of_ble_eq_true rfl) (Nat.le_of_ble_eq_true rfl) ?_
  refine zw_if_ne_c (tgt := 10) dX4_person_5 (by decide) (fun c5 => ?_) (fun c5 => absurd (isP_n hp) c5)
  refine zw_iload_n dX4_person_10 rfl ?_
  refine zw_tswIn (tgt := 85) (off := 74) dX4_person_11 (by decide) (by decide) (by decide) (by decide) ?_
  refine zw_aload_n dX4_person_85 rfl ?_
  refine zw_getR (j := 0) (kd := 4) dX4_person_86 hb.i hb.k (by decide) (by decide) fl_X4_12 rfl hb.r0 ?_
  refine zw_iload_n dX4_person_89 rfl ?_
  refine zw_cVi dX4_person_90 (c_X3_bidsBy hb.st (by omega)) rfl okX3_bidsBy ml_X4_179 hb.st.i hb.st.k (by decide) rfl (Nat.le_of_ble_eq_true rfl) (Nat.le_of_ble_eq_true rfl) ?_
  exact zw_iretE dX4_person_93 rfl (rfl) rfl (rfl)
set_option maxRecDepth 100000 in
set_option maxHeartbeats 1000000 in
theorem c_person_4 {sh : Sh} {C : Mem} {b P : Nat} (hb : IsSH sh b) (hw : Wf C (b + 1) P) {p : Nat} (hp : p < P)  : Calls mX4_person 2 0 0 [.inr (some (b)), .inl (nI (p)), .inl (nI (4))] sh C (some (.inl (C (b + 6) p))) sh (C) := by
  refine Calls.of plX4 (Nat.le_of_ble_eq_true rfl) ?_
  show WP mX4_person 2 0 0 0 [some (.inr (some (b))), some (.inl (nI (p))), some (.inl (nI (4)))] [] sh (C) (some (.inl (C (b + 6) p))) sh (C)
  have hP12 := hw.2.1
  refine zw_aload_n dX4_person_0 rfl ?_
  refine zw_iload_n dX4_person_1 rfl ?_
  refine zw_cVi dX4_person_2 (c_X4_isPerson hb hw _) rfl okX4_isPerson ml_X4_53 hb.i hb.k (by decide) rfl (Nat.le_of_ble_eq_true rfl) (Nat.le_of_ble_eq_true rfl) ?_
  refine zw_if_ne_c (tgt := 10) dX4_person_5 (by decide) (fun c5 => ?_) (fun c5 => absurd (isP_n hp) c5)
  refine zw_iload_n dX4_person_10 rfl ?_
  refine zw_tswIn (tgt := 94) (off := 83) dX4_person_11 (by decide) (by decide) (by decide) (by decide) ?_
  refine zw_aload_n dX4_person_94 rfl ?_
  refine zw_getR (j := 0) (kd := 4) dX4_person_95 hb.i hb.k (by decide) (by decide) fl_X4_12 rfl hb.r0 ?_
  refine zw_getR (j := 8) (kd := 3) dX4_person_98 hb.st.i hb.st.k (by decide) (by decide) fl_X4_182 rfl hb.st.r4 ?_
  refine zw_iload_n dX4_person_101 rfl ?_
  refine zw_iald dX4_person_102 hb.st.i4 hb.st.k4 hb.st.L4 rfl (by rw [hb.st.n4]; omega) ?_
  exact zw_iretE dX4_person_103 rfl (rfl) rfl (rfl)
set_option maxRecDepth 100000 in
set_option maxHeartbeats 1000000 in
theorem c_person_5 {sh : Sh} {C : Mem} {b P : Nat} (hb : IsSH sh b) (hw : Wf C (b + 1) P) {p : Nat} (hp : p < P)  : Calls mX4_person 2 0 0 [.inr (some (b)), .inl (nI (p)), .inl (nI (5))] sh C (some (.inl (C (b + 7) p))) sh (C) := by
  refine Calls.of plX4 (Nat.le_of_ble_eq_true rfl) ?_
  show WP mX4_person 2 0 0 0 [some (.inr (some (b))), some (.inl (nI (p))), some (.inl (nI (5)))] [] sh (C) (some (.inl (C (b + 7) p))) sh (C)
  have hP12 := hw.2.1
  refine zw_aload_n dX4_person_0 rfl ?_
  refine zw_iload_n dX4_person_1 rfl ?_
  refine zw_cVi dX4_person_2 (c_X4_isPerson hb hw _) rfl okX4_isPerson ml_X4_53 hb.i hb.k (by decide) rfl (Nat.le_of_ble_eq_true rfl) (Nat.le_of_ble_eq_true rfl) ?_
  refine zw_if_ne_c (tgt := 10) dX4_person_5 (by decide) (fun c5 => ?_) (fun c5 => absurd (isP_n hp) c5)
  refine zw_iload_n dX4_person_10 rfl ?_
  refine zw_tswIn (tgt := 104) (off := 93) dX4_person_11 (by decide) (by decide) (by decide) (by decide) ?_
  refine zw_aload_n dX4_person_104 rfl ?_
  refine zw_getR (j := 0) (kd := 4) dX4_person_105 hb.i hb.k (by decide) (by decide) fl_X4_12 rfl hb.r0 ?_
  refine zw_getR (j := 9) (kd := 3) dX4_person_108 hb.st.i hb.st.k (by decide) (by decide) fl_X4_185 rfl hb.st.r5 ?_
  refine zw_iload_n dX4_person_111 rfl ?_
  refine zw_iald dX4_person_112 hb.st.i5 hb.st.k5 hb.st.L5 rfl (by rw [hb.st.n5]; omega) ?_
  exact zw_iretE dX4_person_113 rfl (rfl) rfl (rfl)
set_option maxRecDepth 100000 in
set_option maxHeartbeats 1000000 in
theorem c_person_6 {sh : Sh} {C : Mem} {b P : Nat} (hb : IsSH sh b) (hw : Wf C (b + 1) P) {p : Nat} (hp : p < P)  : Calls mX4_person 2 0 0 [.inr (some (b)), .inl (nI (p)), .inl (nI (6))] sh C (some (.inl (C (b + 8) p))) sh (C) := by
  refine Calls.of plX4 (Nat.le_of_ble_eq_true rfl) ?_
  show WP mX4_person 2 0 0 0 [some (.inr (some (b))), some (.inl (nI (p))), some (.inl (nI (6)))] [] sh (C) (some (.inl (C (b + 8) p))) sh (C)
  have hP12 := hw.2.1
  refine zw_aload_n dX4_person_0 rfl ?_
  refine zw_iload_n dX4_person_1 rfl ?_
  refine zw_cVi dX4_person_2 (c_X4_isPerson hb hw _) rfl okX4_isPerson ml_X4_53 hb.i hb.k (by decide) rfl (Nat.le_of_ble_eq_true rfl) (Nat.le_of_ble_eq_true rfl) ?_
  refine zw_if_ne_c (tgt := 10) dX4_person_5 (by decide) (fun c5 => ?_) (fun c5 => absurd (isP_n hp) c5)
  refine zw_iload_n dX4_person_10 rfl ?_
  refine zw_tswIn (tgt := 114) (off := 103) dX4_person_11 (by decide) (by decide) (by decide) (by decide) ?_
  refine zw_aload_n dX4_person_114 rfl ?_
  refine zw_getR (j := 0) (kd := 4) dX4_person_115 hb.i hb.k (by decide) (by decide) fl_X4_12 rfl hb.r0 ?_
  refine zw_getR (j := 10) (kd := 3) dX4_person_118 hb.st.i hb.st.k (by decide) (by decide) fl_X4_188 rfl hb.st.r6 ?_
  refine zw_iload_n dX4_person_121 rfl ?_
  refine zw_iald dX4_person_122 hb.st.i6 hb.st.k6 hb.st.L6 rfl (by rw [hb.st.n6]; omega) ?_
  exact zw_iretE dX4_person_123 rfl (rfl) rfl (rfl)
set_option maxRecDepth 100000 in
set_option maxHeartbeats 1000000 in
theorem c_person_7 {sh : Sh} {C : Mem} {b P : Nat} (hb : IsSH sh b) (hw : Wf C (b + 1) P) {p : Nat} (hp : p < P)  : Calls mX4_person 2 0 0 [.inr (some (b)), .inl (nI (p)), .inl (nI (7))] sh C (some (.inl (C (b + 9) p))) sh (C) := by
  refine Calls.of plX4 (Nat.le_of_ble_eq_true rfl) ?_
  show WP mX4_person 2 0 0 0 [some (.inr (some (b))), some (.inl (nI (p))), some (.inl (nI (7)))] [] sh (C) (some (.inl (C (b + 9) p))) sh (C)
  have hP12 := hw.2.1
  refine zw_aload_n dX4_person_0 rfl ?_
  refine zw_iload_n dX4_person_1 rfl ?_
  refine zw_cVi dX4_person_2 (c_X4_isPerson hb hw _) rfl okX4_isPerson ml_X4_53 hb.i hb.k (by decide) rfl (Nat.le_of_ble_eq_true rfl) (Nat.le_of_ble_eq_true rfl) ?_
  refine zw_if_ne_c (tgt := 10) dX4_person_5 (by decide) (fun c5 => ?_) (fun c5 => absurd (isP_n hp) c5)
  refine zw_iload_n dX4_person_10 rfl ?_
  refine zw_tswIn (tgt := 124) (off := 113) dX4_person_11 (by decide) (by decide) (by decide) (by decide) ?_
  refine zw_aload_n dX4_person_124 rfl ?_
  refine zw_getR (j := 0) (kd := 4) dX4_person_125 hb.i hb.k (by decide) (by decide) fl_X4_12 rfl hb.r0 ?_
  refine zw_getR (j := 11) (kd := 3) dX4_person_128 hb.st.i hb.st.k (by decide) (by decide) fl_X4_191 rfl hb.st.r7 ?_
  refine zw_iload_n dX4_person_131 rfl ?_
  refine zw_iald dX4_person_132 hb.st.i7 hb.st.k7 hb.st.L7 rfl (by rw [hb.st.n7]; omega) ?_
  exact zw_iretE dX4_person_133 rfl (rfl) rfl (rfl)
set_option maxRecDepth 100000 in
set_option maxHeartbeats 1000000 in
theorem c_person_bad {sh : Sh} {C : Mem} {b P : Nat} (hb : IsSH sh b) (hw : Wf C (b + 1) P) (x y : Int32) (hx : ¬ isP P x) : Calls mX4_person 2 0 0 [.inr (some (b)), .inl (x), .inl (y)] sh C (some (.inl (-1))) sh (C) := by
  refine Calls.of plX4 (Nat.le_of_ble_eq_true rfl) ?_
  show WP mX4_person 2 0 0 0 [some (.inr (some (b))), some (.inl (x)), some (.inl (y))] [] sh (C) (some (.inl (-1))) sh (C)
  have hP12 := hw.2.1
  refine zw_aload_n dX4_person_0 rfl ?_
  refine zw_iload_n dX4_person_1 rfl ?_
  refine zw_cVi dX4_person_2 (c_X4_isPerson hb hw _) rfl okX4_isPerson ml_X4_53 hb.i hb.k (by decide) rfl (Nat.le_of_ble_eq_true rfl) (Nat.le_of_ble_eq_true rfl) ?_
  refine zw_if_ne_c (tgt := 10) dX4_person_5 (by decide) (fun c5 => absurd c5 hx) (fun c5 => ?_)
  refine zw_iconst (v := (-1)) dX4_person_8 (by decide) ?_
  exact zw_iretE dX4_person_9 rfl (rfl) rfl (rfl)
set_option maxRecDepth 100000 in
set_option maxHeartbeats 1000000 in
theorem c_person_bad2 {sh : Sh} {C : Mem} {b P : Nat} (hb : IsSH sh b) (hw : Wf C (b + 1) P) {p : Nat} (hp : p < P) (y : Int32) (hy : y.toInt < 0 ∨ 7 < y.toInt) : Calls mX4_person 2 0 0 [.inr (some (b)), .inl (nI (p)), .inl (y)] sh C (some (.inl (-1))) sh (C) := by
  refine Calls.of plX4 (Nat.le_of_ble_eq_true rfl) ?_
  show WP mX4_person 2 0 0 0 [some (.inr (some (b))), some (.inl (nI (p))), some (.inl (y))] [] sh (C) (some (.inl (-1))) sh (C)
  have hP12 := hw.2.1
  refine zw_aload_n dX4_person_0 rfl ?_
  refine zw_iload_n dX4_person_1 rfl ?_
  refine zw_cVi dX4_person_2 (c_X4_isPerson hb hw _) rfl okX4_isPerson ml_X4_53 hb.i hb.k (by decide) rfl (Nat.le_of_ble_eq_true rfl) (Nat.le_of_ble_eq_true rfl) ?_
  refine zw_if_ne_c (tgt := 10) dX4_person_5 (by decide) (fun c5 => ?_) (fun c5 => absurd (isP_n hp) c5)
  refine zw_iload_n dX4_person_10 rfl ?_
  refine zw_tswOut (tgt := 134) dX4_person_11 hy (by decide) ?_
  refine zw_iconst (v := (-1)) dX4_person_134 (by decide) ?_
  exact zw_iretE dX4_person_135 rfl (rfl) rfl (rfl)
set_option maxRecDepth 100000 in
set_option maxHeartbeats 1000000 in
theorem c_slot_0 {sh : Sh} {C : Mem} {b P : Nat} (hb : IsSH sh b) (hw : Wf C (b + 1) P) {st h : Nat} (hst : st < 4) (hh : h < 24)  : Calls mX4_slot 3 0 0 [.inr (some (b)), .inl (nI (st)), .inl (nI (h)), .inl (nI (0))] sh C (some (.inl (C (b + 11) (st * 24 + h)))) sh (C) := by
  refine Calls.of plX4 (Nat.le_of_ble_eq_true rfl) ?_
  show WP mX4_slot 3 0 0 0 [some (.inr (some (b))), some (.inl (nI (st))), some (.inl (nI (h))), some (.inl (nI (0))), none] [] sh (C) (some (.inl (C (b + 11) (st * 24 + h)))) sh (C)
  have hP12 := hw.2.1
  refine zw_iload_n dX4_slot_0 rfl ?_
  refine zw_iload_n dX4_slot_1 rfl ?_
  refine zw_cSi dX4_slot_2 (c_X4_isSlot _ _) rfl okX4_isSlot ml_X4_66 (Nat.le_of_ble_eq_true rfl) (Nat.le_of_ble_eq_true rfl) ?_
  refine zw_if_ne_c (tgt := 10) dX4_slot_5 (by decide) (fun c5 => ?_) (fun c5 => absurd (inS_n hst hh) c5)
  refine zw_iload_n dX4_slot_10 rfl ?_
  refine zw_iload_n dX4_slot_11 rfl ?_
  refine zw_cSi dX4_slot_12 (c_X4_slotAt _ _) rfl okX4_slotAt ml_X4_72 (Nat.le_of_ble_eq_true rfl) (Nat.le_of_ble_eq_true rfl) ?_
  refine zw_istore dX4_slot_15 (by decide) ?_
  refine zw_iload_n dX4_slot_17 rfl ?_
  refine zw_tswIn (tgt := 56) (off := 38) dX4_slot_18 (by decide) (by decide) (by decide) (by decide) ?_
  refine zw_aload_n dX4_slot_56 rfl ?_
  refine zw_getR (j := 0) (kd := 4) dX4_slot_57 hb.i hb.k (by decide) (by decide) fl_X4_12 rfl hb.r0 ?_
  refine zw_getR (j := 13) (kd := 3) dX4_slot_60 hb.st.i hb.st.k (by decide) (by decide) fl_X4_97 rfl hb.st.r9 ?_
  refine zw_iload dX4_slot_63 rfl ?_
  refine zw_iald dX4_slot_65 hb.st.i9 hb.st.k9 hb.st.L9 rfl (by rw [hb.st.n9]; omega) ?_
  exact zw_iretE dX4_slot_66 rfl (rfl) rfl (rfl)
set_option maxRecDepth 100000 in
set_option maxHeartbeats 1000000 in
theorem c_slot_1 {sh : Sh} {C : Mem} {b P : Nat} (hb : IsSH sh b) (hw : Wf C (b + 1) P) {st h : Nat} (hst : st < 4) (hh : h < 24)  : Calls mX4_slot 3 0 0 [.inr (some (b)), .inl (nI (st)), .inl (nI (h)), .inl (nI (1))] sh C (some (.inl (sB C (b + 1) P (st * 24 + h) (nI 0)))) sh (C) := by
  refine Calls.of plX4 (Nat.le_of_ble_eq_true rfl) ?_
  show WP mX4_slot 3 0 0 0 [some (.inr (some (b))), some (.inl (nI (st))), some (.inl (nI (h))), some (.inl (nI (1))), none] [] sh (C) (some (.inl (sB C (b + 1) P (st * 24 + h) (nI 0)))) sh (C)
  have hP12 := hw.2.1
  refine zw_iload_n dX4_slot_0 rfl ?_
  refine zw_iload_n dX4_slot_1 rfl ?_
  refine zw_cSi dX4_slot_2 (c_X4_isSlot _ _) rfl okX4_isSlot ml_X4_66 (Nat.le_of_ble_eq_true rfl) (Nat.le_of_ble_eq_true rfl) ?_
  refine zw_if_ne_c (tgt := 10) dX4_slot_5 (by decide) (fun c5 => ?_) (fun c5 => absurd (inS_n hst hh) c5)
  refine zw_iload_n dX4_slot_10 rfl ?_
  refine zw_iload_n dX4_slot_11 rfl ?_
  refine zw_cSi dX4_slot_12 (c_X4_slotAt _ _) rfl okX4_slotAt ml_X4_72 (Nat.le_of_ble_eq_true rfl) (Nat.le_of_ble_eq_true rfl) ?_
  refine zw_istore dX4_slot_15 (by decide) ?_
  refine zw_iload_n dX4_slot_17 rfl ?_
  refine zw_tswIn (tgt := 67) (off := 49) dX4_slot_18 (by decide) (by decide) (by decide) (by decide) ?_
  refine zw_aload_n dX4_slot_67 rfl ?_
  refine zw_getR (j := 0) (kd := 4) dX4_slot_68 hb.i hb.k (by decide) (by decide) fl_X4_12 rfl hb.r0 ?_
  refine zw_iload dX4_slot_71 rfl ?_
  refine zw_iconst (v := nI 0) dX4_slot_73 (by decide) ?_
  refine zw_cVi dX4_slot_74 (c_X3_sumOfBids hb.st hw (by omega) _) rfl okX3_sumOfBids ml_X4_194 hb.st.i hb.st.k (by decide) rfl (Nat.le_of_ble_eq_true rfl) (Nat.le_of_ble_eq_true rfl) ?_
  exact zw_iretE dX4_slot_77 rfl (rfl) rfl (rfl)
set_option maxRecDepth 100000 in
set_option maxHeartbeats 1000000 in
theorem c_slot_2 {sh : Sh} {C : Mem} {b P : Nat} (hb : IsSH sh b) (hw : Wf C (b + 1) P) {st h : Nat} (hst : st < 4) (hh : h < 24)  : Calls mX4_slot 3 0 0 [.inr (some (b)), .inl (nI (st)), .inl (nI (h)), .inl (nI (2))] sh C (some (.inl (sB C (b + 1) P (st * 24 + h) (nI 1)))) sh (C) := by
  refine Calls.of plX4 (Nat.le_of_ble_eq_true rfl) ?_
  show WP mX4_slot 3 0 0 0 [some (.inr (some (b))), some (.inl (nI (st))), some (.inl (nI (h))), some (.inl (nI (2))), none] [] sh (C) (some (.inl (sB C (b + 1) P (st * 24 + h) (nI 1)))) sh (C)
  have hP12 := hw.2.1
  refine zw_iload_n dX4_slot_0 rfl ?_
  refine zw_iload_n dX4_slot_1 rfl ?_
  refine zw_cSi dX4_slot_2 (c_X4_isSlot _ _) rfl okX4_isSlot ml_X4_66 (Nat.le_of_ble_eq_true rfl) (Nat.le_of_ble_eq_true rfl) ?_
  refine zw_if_ne_c (tgt := 10) dX4_slot_5 (by decide) (fun c5 => ?_) (fun c5 => absurd (inS_n hst hh) c5)
  refine zw_iload_n dX4_slot_10 rfl ?_
  refine zw_iload_n dX4_slot_11 rfl ?_
  refine zw_cSi dX4_slot_12 (c_X4_slotAt _ _) rfl okX4_slotAt ml_X4_72 (Nat.le_of_ble_eq_true rfl) (Nat.le_of_ble_eq_true rfl) ?_
  refine zw_istore dX4_slot_15 (by decide) ?_
  refine zw_iload_n dX4_slot_17 rfl ?_
  refine zw_tswIn (tgt := 78) (off := 60) dX4_slot_18 (by decide) (by decide) (by decide) (by decide) ?_
  refine zw_aload_n dX4_slot_78 rfl ?_
  refine zw_getR (j := 0) (kd := 4) dX4_slot_79 hb.i hb.k (by decide) (by decide) fl_X4_12 rfl hb.r0 ?_
  refine zw_iload dX4_slot_82 rfl ?_
  refine zw_iconst (v := nI 1) dX4_slot_84 (by decide) ?_
  refine zw_cVi dX4_slot_85 (c_X3_sumOfBids hb.st hw (by omega) _) rfl okX3_sumOfBids ml_X4_194 hb.st.i hb.st.k (by decide) rfl (Nat.le_of_ble_eq_true rfl) (Nat.le_of_ble_eq_true rfl) ?_
  exact zw_iretE dX4_slot_88 rfl (rfl) rfl (rfl)
set_option maxRecDepth 100000 in
set_option maxHeartbeats 1000000 in
theorem c_slot_3 {sh : Sh} {C : Mem} {b P : Nat} (hb : IsSH sh b) (hw : Wf C (b + 1) P) {st h : Nat} (hst : st < 4) (hh : h < 24)  : Calls mX4_slot 3 0 0 [.inr (some (b)), .inl (nI (st)), .inl (nI (h)), .inl (nI (3))] sh C (some (.inl (C (b + 12) (st * 24 + h)))) sh (C) := by
  refine Calls.of plX4 (Nat.le_of_ble_eq_true rfl) ?_
  show WP mX4_slot 3 0 0 0 [some (.inr (some (b))), some (.inl (nI (st))), some (.inl (nI (h))), some (.inl (nI (3))), none] [] sh (C) (some (.inl (C (b + 12) (st * 24 + h)))) sh (C)
  have hP12 := hw.2.1
  refine zw_iload_n dX4_slot_0 rfl ?_
  refine zw_iload_n dX4_slot_1 rfl ?_
  refine zw_cSi dX4_slot_2 (c_X4_isSlot _ _) rfl okX4_isSlot ml_X4_66 (Nat.le_of_ble_eq_true rfl) (Nat.le_of_ble_eq_true rfl) ?_
  refine zw_if_ne_c (tgt := 10) dX4_slot_5 (by decide) (fun c5 => ?_) (fun c5 => absurd (inS_n hst hh) c5)
  refine zw_iload_n dX4_slot_10 rfl ?_
  refine zw_iload_n dX4_slot_11 rfl ?_
  refine zw_cSi dX4_slot_12 (c_X4_slotAt _ _) rfl okX4_slotAt ml_X4_72 (Nat.le_of_ble_eq_true rfl) (Nat.le_of_ble_eq_true rfl) ?_
  refine zw_istore dX4_slot_15 (by decide) ?_
  refine zw_iload_n dX4_slot_17 rfl ?_
  refine zw_tswIn (tgt := 89) (off := 71) dX4_slot_18 (by decide) (by decide) (by decide) (by decide) ?_
  refine zw_aload_n dX4_slot_89 rfl ?_
  refine zw_getR (j := 0) (kd := 4) dX4_slot_90 hb.i hb.k (by decide) (by decide) fl_X4_12 rfl hb.r0 ?_
  refine zw_getR (j := 14) (kd := 3) dX4_slot_93 hb.st.i hb.st.k (by decide) (by decide) fl_X4_197 rfl hb.st.r10 ?_
  refine zw_iload dX4_slot_96 rfl ?_
  refine zw_iald dX4_slot_98 hb.st.i10 hb.st.k10 hb.st.L10 rfl (by rw [hb.st.n10]; omega) ?_
  exact zw_iretE dX4_slot_99 rfl (rfl) rfl (rfl)
set_option maxRecDepth 100000 in
set_option maxHeartbeats 1000000 in
theorem c_slot_4 {sh : Sh} {C : Mem} {b P : Nat} (hb : IsSH sh b) (hw : Wf C (b + 1) P) {st h : Nat} (hst : st < 4) (hh : h < 24)  : Calls mX4_slot 3 0 0 [.inr (some (b)), .inl (nI (st)), .inl (nI (h)), .inl (nI (4))] sh C (some (.inl (nB C (b + 1) P (st * 24 + h)))) sh (C) := by
  refine Calls.of plX4 (Nat.le_of_ble_eq_true rfl) ?_
  show WP mX4_slot 3 0 0 0 [some (.inr (some (b))), some (.inl (nI (st))), some (.inl (nI (h))), some (.inl (nI (4))), none] [] sh (C) (some (.inl (nB C (b + 1) P (st * 24 + h)))) sh (C)
  have hP12 := hw.2.1
  refine zw_iload_n dX4_slot_0 rfl ?_
  refine zw_iload_n dX4_slot_1 rfl ?_
  refine zw_cSi dX4_slot_2 (c_X4_isSlot _ _) rfl okX4_isSlot ml_X4_66 (Nat.le_of_ble_eq_true rfl) (Nat.le_of_ble_eq_true rfl) ?_
  refine zw_if_ne_c (tgt := 10) dX4_slot_5 (by decide) (fun c5 => ?_) (fun c5 => absurd (inS_n hst hh) c5)
  refine zw_iload_n dX4_slot_10 rfl ?_
  refine zw_iload_n dX4_slot_11 rfl ?_
  refine zw_cSi dX4_slot_12 (c_X4_slotAt _ _) rfl okX4_slotAt ml_X4_72 (Nat.le_of_ble_eq_true rfl) (Nat.le_of_ble_eq_true rfl) ?_
  refine zw_istore dX4_slot_15 (by decide) ?_
  refine zw_iload_n dX4_slot_17 rfl ?_
  refine zw_tswIn (tgt := 100) (off := 82) dX4_slot_18 (by decide) (by decide) (by decide) (by decide) ?_
  refine zw_aload_n dX4_slot_100 rfl ?_
  refine zw_getR (j := 0) (kd := 4) dX4_slot_101 hb.i hb.k (by decide) (by decide) fl_X4_12 rfl hb.r0 ?_
  refine zw_iload dX4_slot_104 rfl ?_
  refine zw_cVi dX4_slot_106 (c_X3_bidsFor hb.st hw (by omega)) rfl okX3_bidsFor ml_X4_200 hb.st.i hb.st.k (by decide) rfl (Nat.le_of_ble_eq_true rfl) (Nat.le_of_ble_eq_true rfl) ?_
  exact zw_iretE dX4_slot_109 rfl (rfl) rfl (rfl)
set_option maxRecDepth 100000 in
set_option maxHeartbeats 1000000 in
theorem c_slot_5 {sh : Sh} {C : Mem} {b P : Nat} (hb : IsSH sh b) (hw : Wf C (b + 1) P) {st h : Nat} (hst : st < 4) (hh : h < 24)  : Calls mX4_slot 3 0 0 [.inr (some (b)), .inl (nI (st)), .inl (nI (h)), .inl (nI (5))] sh C (some (.inl (C (b + 15) (st * 24 + h)))) sh (C) := by
  refine Calls.of plX4 (Nat.le_of_ble_eq_true rfl) ?_
  show WP mX4_slot 3 0 0 0 [some (.inr (some (b))), some (.inl (nI (st))), some (.inl (nI (h))), some (.inl (nI (5))), none] [] sh (C) (some (.inl (C (b + 15) (st * 24 + h)))) sh (C)
  have hP12 := hw.2.1
  refine zw_iload_n dX4_slot_0 rfl ?_
  refine zw_iload_n dX4_slot_1 rfl ?_
  refine zw_cSi dX4_slot_2 (c_X4_isSlot _ _) rfl okX4_isSlot ml_X4_66 (Nat.le_of_ble_eq_true rfl) (Nat.le_of_ble_eq_true rfl) ?_
  refine zw_if_ne_c (tgt := 10) dX4_slot_5 (by decide) (fun c5 => ?_) (fun c5 => absurd (inS_n hst hh) c5)
  refine zw_iload_n dX4_slot_10 rfl ?_
  refine zw_iload_n dX4_slot_11 rfl ?_
  refine zw_cSi dX4_slot_12 (c_X4_slotAt _ _) rfl okX4_slotAt ml_X4_72 (Nat.le_of_ble_eq_true rfl) (Nat.le_of_ble_eq_true rfl) ?_
  refine zw_istore dX4_slot_15 (by decide) ?_
  refine zw_iload_n dX4_slot_17 rfl ?_
  refine zw_tswIn (tgt := 110) (off := 92) dX4_slot_18 (by decide) (by decide) (by decide) (by decide) ?_
  refine zw_aload_n dX4_slot_110 rfl ?_
  refine zw_getR (j := 0) (kd := 4) dX4_slot_111 hb.i hb.k (by decide) (by decide) fl_X4_12 rfl hb.r0 ?_
  refine zw_getR (j := 17) (kd := 3) dX4_slot_114 hb.st.i hb.st.k (by decide) (by decide) fl_X4_203 rfl hb.st.r13 ?_
  refine zw_iload dX4_slot_117 rfl ?_
  refine zw_iald dX4_slot_119 hb.st.i13 hb.st.k13 hb.st.L13 rfl (by rw [hb.st.n13]; omega) ?_
  exact zw_iretE dX4_slot_120 rfl (rfl) rfl (rfl)
set_option maxRecDepth 100000 in
set_option maxHeartbeats 1000000 in
theorem c_slot_bad {sh : Sh} {C : Mem} {b P : Nat} (hb : IsSH sh b) (hw : Wf C (b + 1) P) (x y w : Int32) (hx : ¬ inS x y) : Calls mX4_slot 3 0 0 [.inr (some (b)), .inl (x), .inl (y), .inl (w)] sh C (some (.inl (-1))) sh (C) := by
  refine Calls.of plX4 (Nat.le_of_ble_eq_true rfl) ?_
  show WP mX4_slot 3 0 0 0 [some (.inr (some (b))), some (.inl (x)), some (.inl (y)), some (.inl (w)), none] [] sh (C) (some (.inl (-1))) sh (C)
  have hP12 := hw.2.1
  refine zw_iload_n dX4_slot_0 rfl ?_
  refine zw_iload_n dX4_slot_1 rfl ?_
  refine zw_cSi dX4_slot_2 (c_X4_isSlot _ _) rfl okX4_isSlot ml_X4_66 (Nat.le_of_ble_eq_true rfl) (Nat.le_of_ble_eq_true rfl) ?_
  refine zw_if_ne_c (tgt := 10) dX4_slot_5 (by decide) (fun c5 => absurd c5 hx) (fun c5 => ?_)
  refine zw_iconst (v := (-1)) dX4_slot_8 (by decide) ?_
  exact zw_iretE dX4_slot_9 rfl (rfl) rfl (rfl)
set_option maxRecDepth 100000 in
set_option maxHeartbeats 1000000 in
theorem c_slot_bad2 {sh : Sh} {C : Mem} {b P : Nat} (hb : IsSH sh b) (hw : Wf C (b + 1) P) {st h : Nat} (hst : st < 4) (hh : h < 24) (w : Int32) (hy : w.toInt < 0 ∨ 5 < w.toInt) : Calls mX4_slot 3 0 0 [.inr (some (b)), .inl (nI (st)), .inl (nI (h)), .inl (w)] sh C (some (.inl (-1))) sh (C) := by
  refine Calls.of plX4 (Nat.le_of_ble_eq_true rfl) ?_
  show WP mX4_slot 3 0 0 0 [some (.inr (some (b))), some (.inl (nI (st))), some (.inl (nI (h))), some (.inl (w)), none] [] sh (C) (some (.inl (-1))) sh (C)
  have hP12 := hw.2.1
  refine zw_iload_n dX4_slot_0 rfl ?_
  refine zw_iload_n dX4_slot_1 rfl ?_
  refine zw_cSi dX4_slot_2 (c_X4_isSlot _ _) rfl okX4_isSlot ml_X4_66 (Nat.le_of_ble_eq_true rfl) (Nat.le_of_ble_eq_true rfl) ?_
  refine zw_if_ne_c (tgt := 10) dX4_slot_5 (by decide) (fun c5 => ?_) (fun c5 => absurd (inS_n hst hh) c5)
  refine zw_iload_n dX4_slot_10 rfl ?_
  refine zw_iload_n dX4_slot_11 rfl ?_
  refine zw_cSi dX4_slot_12 (c_X4_slotAt _ _) rfl okX4_slotAt ml_X4_72 (Nat.le_of_ble_eq_true rfl) (Nat.le_of_ble_eq_true rfl) ?_
  refine zw_istore dX4_slot_15 (by decide) ?_
  refine zw_iload_n dX4_slot_17 rfl ?_
  refine zw_tswOut (tgt := 121) dX4_slot_18 hy (by decide) ?_
  refine zw_iconst (v := (-1)) dX4_slot_121 (by decide) ?_
  exact zw_iretE dX4_slot_122 rfl (rfl) rfl (rfl)
set_option maxRecDepth 100000 in
set_option maxHeartbeats 1000000 in
theorem c_bidOf_bad {sh : Sh} {C : Mem} {b P : Nat} (hb : IsSH sh b) (hw : Wf C (b + 1) P) (x a h : Int32) (hx : ¬ (isP P x ∧ inS a h)) : Calls mX4_bidOf 3 0 0 [.inr (some (b)), .inl (x), .inl (a), .inl (h)] sh C (some (.inl (-1))) sh (C) := by
  refine Calls.of plX4 (Nat.le_of_ble_eq_true rfl) ?_
  show WP mX4_bidOf 3 0 0 0 [some (.inr (some (b))), some (.inl (x)), some (.inl (a)), some (.inl (h)), none] [] sh (C) (some (.inl (-1))) sh (C)
  have hP12 := hw.2.1
  refine zw_aload_n dX4_bidOf_0 rfl ?_
  refine zw_iload_n dX4_bidOf_1 rfl ?_
  refine zw_cVi dX4_bidOf_2 (c_X4_isPerson hb hw _) rfl okX4_isPerson ml_X4_53 hb.i hb.k (by decide) rfl (Nat.le_of_ble_eq_true rfl) (Nat.le_of_ble_eq_true rfl) ?_
  refine zw_if_eq_c (tgt := 16) dX4_bidOf_5 (by decide) (fun c5 => ?_) (fun c5 => ?_)
  · refine zw_iconst (v := (-1)) dX4_bidOf_16 (by decide) ?_
    exact zw_iretE dX4_bidOf_17 rfl (rfl) rfl (rfl)
  · refine zw_iload_n dX4_bidOf_8 rfl ?_
    refine zw_iload_n dX4_bidOf_9 rfl ?_
    refine zw_cSi dX4_bidOf_10 (c_X4_isSlot _ _) rfl okX4_isSlot ml_X4_66 (Nat.le_of_ble_eq_true rfl) (Nat.le_of_ble_eq_true rfl) ?_
    refine zw_if_ne_c (tgt := 18) dX4_bidOf_13 (by decide) (fun c13 => absurd (And.intro c5 c13) hx) (fun c13 => ?_)
    refine zw_iconst (v := (-1)) dX4_bidOf_16 (by decide) ?_
    exact zw_iretE dX4_bidOf_17 rfl (rfl) rfl (rfl)
set_option maxRecDepth 100000 in
set_option maxHeartbeats 1000000 in
theorem c_bidOf_ok {sh : Sh} {C : Mem} {b P : Nat} (hb : IsSH sh b) (hw : Wf C (b + 1) P) {p : Nat} (hp : p < P) {st h : Nat} (hst : st < 4) (hh : h < 24)  : Calls mX4_bidOf 3 0 0 [.inr (some (b)), .inl (nI (p)), .inl (nI (st)), .inl (nI (h))] sh C (some (.inl (if bm C (b + 1) p (st * 24 + h) = 0 then (-9) else bm C (b + 1) p (st * 24 + h)))) sh (C) := by
  refine Calls.of plX4 (Nat.le_of_ble_eq_true rfl) ?_
  show WP mX4_bidOf 3 0 0 0 [some (.inr (some (b))), some (.inl (nI (p))), some (.inl (nI (st))), some (.inl (nI (h))), none] [] sh (C) (some (.inl (if bm C (b + 1) p (st * 24 + h) = 0 then (-9) else bm C (b + 1) p (st * 24 + h)))) sh (C)
  have hP12 := hw.2.1
  refine zw_aload_n dX4_bidOf_0 rfl ?_
  refine zw_iload_n dX4_bidOf_1 rfl ?_
  refine zw_cVi dX4_bidOf_2 (c_X4_isPerson hb hw _) rfl okX4_isPerson ml_X4_53 hb.i hb.k (by decide) rfl (Nat.le_of_ble_eq_true rfl) (Nat.le_of_ble_eq_true rfl) ?_
  refine zw_if_eq_c (tgt := 16) dX4_bidOf_5 (by decide) (fun c5 => absurd (isP_n hp) c5) (fun c5 => ?_)
  refine zw_iload_n dX4_bidOf_8 rfl ?_
  refine zw_iload_n dX4_bidOf_9 rfl ?_
  refine zw_cSi dX4_bidOf_10 (c_X4_isSlot _ _) rfl okX4_isSlot ml_X4_66 (Nat.le_of_ble_eq_true rfl) (Nat.le_of_ble_eq_true rfl) ?_
  refine zw_if_ne_c (tgt := 18) dX4_bidOf_13 (by decide) (fun c13 => ?_) (fun c13 => absurd (inS_n hst hh) c13)
  refine zw_aload_n dX4_bidOf_18 rfl ?_
  refine zw_getR (j := 0) (kd := 4) dX4_bidOf_19 hb.i hb.k (by decide) (by decide) fl_X4_12 rfl hb.r0 ?_
  refine zw_iload_n dX4_bidOf_22 rfl ?_
  refine zw_iload_n dX4_bidOf_23 rfl ?_
  refine zw_iload_n dX4_bidOf_24 rfl ?_
  refine zw_cSi dX4_bidOf_25 (c_X4_slotAt _ _) rfl okX4_slotAt ml_X4_72 (Nat.le_of_ble_eq_true rfl) (Nat.le_of_ble_eq_true rfl) ?_
  refine zw_cVi dX4_bidOf_28 (c_X3_markedBid hb.st (by omega) (by omega)) rfl okX3_markedBid ml_X4_206 hb.st.i hb.st.k (by decide) rfl (Nat.le_of_ble_eq_true rfl) (Nat.le_of_ble_eq_true rfl) ?_
  refine zw_istore dX4_bidOf_31 (by decide) ?_
  refine zw_iload dX4_bidOf_33 rfl ?_
  refine zw_if_ne (tgt := 43) dX4_bidOf_35 (by decide) (fun c35 => ?_) (fun c35 => ?_)
  · refine zw_iload dX4_bidOf_43 rfl ?_
    exact zw_iretE dX4_bidOf_45 rfl (by rw [if_neg c35]) rfl (rfl)
  · refine zw_bipush (v := (-9)) dX4_bidOf_38 (by decide) ?_
    refine zw_goto (tgt := 45) dX4_bidOf_40 (by decide) ?_
    exact zw_iretE dX4_bidOf_45 rfl (by rw [if_pos c35]) rfl (rfl)
set_option maxRecDepth 100000 in
set_option maxHeartbeats 1000000 in
theorem c_fund_bad {sh : Sh} {C : Mem} {b : Nat} (hb : IsSH sh b) (x : Int32) (hx : ¬ (nI 0 ≤ x ∧ x ≤ nI 3)) : Calls mX4_fund 2 0 0 [.inr (some (b)), .inl (x)] sh C (some (.inl (-1))) sh (C) := by
  refine Calls.of plX4 (Nat.le_of_ble_eq_true rfl) ?_
  show WP mX4_fund 2 0 0 0 [some (.inr (some (b))), some (.inl (x))] [] sh (C) (some (.inl (-1))) sh (C)
  refine zw_iload_n dX4_fund_0 rfl ?_
  refine zw_cSi dX4_fund_1 (c_X4_isStreet _) rfl okX4_isStreet ml_X4_209 (Nat.le_of_ble_eq_true rfl) (Nat.le_of_ble_eq_true rfl) ?_
  refine zw_if_eq_b (tgt := 19) dX4_fund_4 (by decide) (fun c4 => ?_) (fun c4 => absurd c4 hx)
  refine zw_iconst (v := (-1)) dX4_fund_19 (by decide) ?_
  exact zw_iretE dX4_fund_20 rfl (rfl) rfl (rfl)
set_option maxRecDepth 100000 in
set_option maxHeartbeats 1000000 in
theorem c_fund_ok {sh : Sh} {C : Mem} {b : Nat} (hb : IsSH sh b) {st : Nat} (hst : st < 4) : Calls mX4_fund 2 0 0 [.inr (some (b)), .inl (nI (st))] sh C (some (.inl (C (b + 16) st))) sh (C) := by
  refine Calls.of plX4 (Nat.le_of_ble_eq_true rfl) ?_
  show WP mX4_fund 2 0 0 0 [some (.inr (some (b))), some (.inl (nI (st)))] [] sh (C) (some (.inl (C (b + 16) st))) sh (C)
  refine zw_iload_n dX4_fund_0 rfl ?_
  refine zw_cSi dX4_fund_1 (c_X4_isStreet _) rfl okX4_isStreet ml_X4_209 (Nat.le_of_ble_eq_true rfl) (Nat.le_of_ble_eq_true rfl) ?_
  refine zw_if_eq_b (tgt := 19) dX4_fund_4 (by decide) (fun c4 => absurd (isSt_n hst) c4) (fun c4 => ?_)
  refine zw_aload_n dX4_fund_7 rfl ?_
  refine zw_getR (j := 0) (kd := 4) dX4_fund_8 hb.i hb.k (by decide) (by decide) fl_X4_12 rfl hb.r0 ?_
  refine zw_getR (j := 18) (kd := 3) dX4_fund_11 hb.st.i hb.st.k (by decide) (by decide) fl_X4_212 rfl hb.st.r14 ?_
  refine zw_iload_n dX4_fund_14 rfl ?_
  refine zw_iald dX4_fund_15 hb.st.i14 hb.st.k14 hb.st.L14 rfl (by rw [hb.st.n14]; omega) ?_
  refine zw_goto (tgt := 20) dX4_fund_16 (by decide) ?_
  exact zw_iretE dX4_fund_20 rfl (rfl) rfl (rfl)
set_option maxRecDepth 100000 in
set_option maxHeartbeats 1000000 in
theorem c_winner_bad {sh : Sh} {C : Mem} {b P : Nat} (hb : IsSH sh b) (hw : Wf C (b + 1) P) (x y : Int32) (hx : ¬ inS x y) : Calls mX4_winner 4 0 0 [.inr (some (b)), .inl (x), .inl (y)] sh C (some (.inl (-1))) sh (C) := by
  refine Calls.of plX4 (Nat.le_of_ble_eq_true rfl) ?_
  show WP mX4_winner 4 0 0 0 [some (.inr (some (b))), some (.inl (x)), some (.inl (y))] [] sh (C) (some (.inl (-1))) sh (C)
  have hP12 := hw.2.1
  refine zw_iload_n dX4_winner_0 rfl ?_
  refine zw_iload_n dX4_winner_1 rfl ?_
  refine zw_cSi dX4_winner_2 (c_X4_isSlot _ _) rfl okX4_isSlot ml_X4_66 (Nat.le_of_ble_eq_true rfl) (Nat.le_of_ble_eq_true rfl) ?_
  refine zw_if_eq_c (tgt := 23) dX4_winner_5 (by decide) (fun c5 => ?_) (fun c5 => absurd c5 hx)
  refine zw_iconst (v := (-1)) dX4_winner_23 (by decide) ?_
  exact zw_iretE dX4_winner_24 rfl (rfl) rfl (rfl)
set_option maxRecDepth 100000 in
set_option maxHeartbeats 1000000 in
theorem c_winner_ok {sh : Sh} {C : Mem} {b P : Nat} (hb : IsSH sh b) (hw : Wf C (b + 1) P) {st h : Nat} (hst : st < 4) (hh : h < 24)  : Calls mX4_winner 4 0 0 [.inr (some (b)), .inl (nI (st)), .inl (nI (h))] sh C (some (.inl (oT C (b + 1) P (st * 24 + h)))) sh (C) := by
  refine Calls.of plX4 (Nat.le_of_ble_eq_true rfl) ?_
  show WP mX4_winner 4 0 0 0 [some (.inr (some (b))), some (.inl (nI (st))), some (.inl (nI (h)))] [] sh (C) (some (.inl (oT C (b + 1) P (st * 24 + h)))) sh (C)
  have hP12 := hw.2.1
  refine zw_iload_n dX4_winner_0 rfl ?_
  refine zw_iload_n dX4_winner_1 rfl ?_
  refine zw_cSi dX4_winner_2 (c_X4_isSlot _ _) rfl okX4_isSlot ml_X4_66 (Nat.le_of_ble_eq_true rfl) (Nat.le_of_ble_eq_true rfl) ?_
  refine zw_if_eq_c (tgt := 23) dX4_winner_5 (by decide) (fun c5 => absurd (inS_n hst hh) c5) (fun c5 => ?_)
  refine zw_aload_n dX4_winner_8 rfl ?_
  refine zw_getR (j := 0) (kd := 4) dX4_winner_9 hb.i hb.k (by decide) (by decide) fl_X4_12 rfl hb.r0 ?_
  refine zw_iload_n dX4_winner_12 rfl ?_
  refine zw_iload_n dX4_winner_13 rfl ?_
  refine zw_cSi dX4_winner_14 (c_X4_slotAt _ _) rfl okX4_slotAt ml_X4_72 (Nat.le_of_ble_eq_true rfl) (Nat.le_of_ble_eq_true rfl) ?_
  refine zw_cVi dX4_winner_17 (c_X3_ownerThen hb.st hw (by omega)) rfl okX3_ownerThen ml_X4_215 hb.st.i hb.st.k (by decide) rfl (Nat.le_of_ble_eq_true rfl) (Nat.le_of_ble_eq_true rfl) ?_
  refine zw_goto (tgt := 24) dX4_winner_20 (by decide) ?_
  exact zw_iretE dX4_winner_24 rfl (rfl) rfl (rfl)
set_option maxRecDepth 100000 in
set_option maxHeartbeats 1000000 in
theorem c_needed_bad {sh : Sh} {C : Mem} {b P : Nat} (hb : IsSH sh b) (hw : Wf C (b + 1) P) (x y sd : Int32) (hx : ¬ (inS x y ∧ (sd = 0 ∨ sd = nI 1))) : Calls mX4_needed 5 0 0 [.inr (some (b)), .inl (x), .inl (y), .inl (sd)] sh C (some (.inl (-1))) sh (C) := by
  refine Calls.of plX4 (Nat.le_of_ble_eq_true rfl) ?_
  show WP mX4_needed 5 0 0 0 [some (.inr (some (b))), some (.inl (x)), some (.inl (y)), some (.inl (sd))] [] sh (C) (some (.inl (-1))) sh (C)
  have hP12 := hw.2.1
  refine zw_iload_n dX4_needed_0 rfl ?_
  refine zw_iload_n dX4_needed_1 rfl ?_
  refine zw_cSi dX4_needed_2 (c_X4_isSlot _ _) rfl okX4_isSlot ml_X4_66 (Nat.le_of_ble_eq_true rfl) (Nat.le_of_ble_eq_true rfl) ?_
  refine zw_if_eq_c (tgt := 15) dX4_needed_5 (by decide) (fun c5 => ?_) (fun c5 => ?_)
  · refine zw_iconst (v := (-1)) dX4_needed_15 (by decide) ?_
    exact zw_iretE dX4_needed_16 rfl (rfl) rfl (rfl)
  · refine zw_iload_n dX4_needed_8 rfl ?_
    refine zw_cSi dX4_needed_9 (c_X4_isSide _) rfl okX4_isSide ml_X4_69 (Nat.le_of_ble_eq_true rfl) (Nat.le_of_ble_eq_true rfl) ?_
    refine zw_if_ne_c (tgt := 17) dX4_needed_12 (by decide) (fun c12 => absurd (And.intro c5 c12) hx) (fun c12 => ?_)
    refine zw_iconst (v := (-1)) dX4_needed_15 (by decide) ?_
    exact zw_iretE dX4_needed_16 rfl (rfl) rfl (rfl)
set_option maxRecDepth 100000 in
set_option maxHeartbeats 1000000 in
theorem c_needed_ok {sh : Sh} {C : Mem} {b P : Nat} (hb : IsSH sh b) (hw : Wf C (b + 1) P) {st h : Nat} (hst : st < 4) (hh : h < 24) (sd : Int32) (hsd : (sd = 0 ∨ sd = nI 1)) : Calls mX4_needed 5 0 0 [.inr (some (b)), .inl (nI (st)), .inl (nI (h)), .inl (sd)] sh C (some (.inl (mF C (b + 1) P (st * 24 + h) sd))) sh (C) := by
  refine Calls.of plX4 (Nat.le_of_ble_eq_true rfl) ?_
  show WP mX4_needed 5 0 0 0 [some (.inr (some (b))), some (.inl (nI (st))), some (.inl (nI (h))), some (.inl (sd))] [] sh (C) (some (.inl (mF C (b + 1) P (st * 24 + h) sd))) sh (C)
  have hP12 := hw.2.1
  refine zw_iload_n dX4_needed_0 rfl ?_
  refine zw_iload_n dX4_needed_1 rfl ?_
  refine zw_cSi dX4_needed_2 (c_X4_isSlot _ _) rfl okX4_isSlot ml_X4_66 (Nat.le_of_ble_eq_true rfl) (Nat.le_of_ble_eq_true rfl) ?_
  refine zw_if_eq_c (tgt := 15) dX4_needed_5 (by decide) (fun c5 => absurd (inS_n hst hh) c5) (fun c5 => ?_)
  refine zw_iload_n dX4_needed_8 rfl ?_
  refine zw_cSi dX4_needed_9 (c_X4_isSide _) rfl okX4_isSide ml_X4_69 (Nat.le_of_ble_eq_true rfl) (Nat.le_of_ble_eq_true rfl) ?_
  refine zw_if_ne_c (tgt := 17) dX4_needed_12 (by decide) (fun c12 => ?_) (fun c12 => absurd hsd c12)
  refine zw_aload_n dX4_needed_17 rfl ?_
  refine zw_getR (j := 0) (kd := 4) dX4_needed_18 hb.i hb.k (by decide) (by decide) fl_X4_12 rfl hb.r0 ?_
  refine zw_iload_n dX4_needed_21 rfl ?_
  refine zw_iload_n dX4_needed_22 rfl ?_
  refine zw_cSi dX4_needed_23 (c_X4_slotAt _ _) rfl okX4_slotAt ml_X4_72 (Nat.le_of_ble_eq_true rfl) (Nat.le_of_ble_eq_true rfl) ?_
  refine zw_iload_n dX4_needed_26 rfl ?_
  refine zw_cVi dX4_needed_27 (c_X3_missingFor hb.st hw (by omega) _) rfl okX3_missingFor ml_X4_218 hb.st.i hb.st.k (by decide) rfl (Nat.le_of_ble_eq_true rfl) (Nat.le_of_ble_eq_true rfl) ?_
  exact zw_iretE dX4_needed_30 rfl (rfl) rfl (rfl)
set_option maxRecDepth 100000 in
set_option maxHeartbeats 1000000 in
theorem c_quiet_bad {sh : Sh} {C : Mem} {b : Nat} (hb : IsSH sh b) (x y : Int32) (hx : ¬ (nI 0 ≤ x ∧ x ≤ nI 3)) : Calls mX4_quiet 3 0 0 [.inr (some (b)), .inl (x), .inl (y)] sh C (some (.inl (-1))) sh (C) := by
  refine Calls.of plX4 (Nat.le_of_ble_eq_true rfl) ?_
  show WP mX4_quiet 3 0 0 0 [some (.inr (some (b))), some (.inl (x)), some (.inl (y))] [] sh (C) (some (.inl (-1))) sh (C)
  refine zw_iload_n dX4_quiet_0 rfl ?_
  refine zw_cSi dX4_quiet_1 (c_X4_isStreet _) rfl okX4_isStreet ml_X4_209 (Nat.le_of_ble_eq_true rfl) (Nat.le_of_ble_eq_true rfl) ?_
  refine zw_if_ne_b (tgt := 9) dX4_quiet_4 (by decide) (fun c4 => absurd c4 hx) (fun c4 => ?_)
  refine zw_iconst (v := (-1)) dX4_quiet_7 (by decide) ?_
  exact zw_iretE dX4_quiet_8 rfl (rfl) rfl (rfl)
set_option maxRecDepth 100000 in
set_option maxHeartbeats 1000000 in
theorem c_quiet_bad2 {sh : Sh} {C : Mem} {b : Nat} (hb : IsSH sh b) {st : Nat} (hst : st < 4) (y : Int32) (hy : y.toInt < 0 ∨ 2 < y.toInt) : Calls mX4_quiet 3 0 0 [.inr (some (b)), .inl (nI (st)), .inl (y)] sh C (some (.inl (-1))) sh (C) := by
  refine Calls.of plX4 (Nat.le_of_ble_eq_true rfl) ?_
  show WP mX4_quiet 3 0 0 0 [some (.inr (some (b))), some (.inl (nI (st))), some (.inl (y))] [] sh (C) (some (.inl (-1))) sh (C)
  refine zw_iload_n dX4_quiet_0 rfl ?_
  refine zw_cSi dX4_quiet_1 (c_X4_isStreet _) rfl okX4_isStreet ml_X4_209 (Nat.le_of_ble_eq_true rfl) (Nat.le_of_ble_eq_true rfl) ?_
  refine zw_if_ne_b (tgt := 9) dX4_quiet_4 (by decide) (fun c4 => ?_) (fun c4 => absurd (isSt_n hst) c4)
  refine zw_iload_n dX4_quiet_9 rfl ?_
  refine zw_tswOut (tgt := 63) dX4_quiet_10 hy (by decide) ?_
  refine zw_iconst (v := (-1)) dX4_quiet_63 (by decide) ?_
  exact zw_iretE dX4_quiet_64 rfl (rfl) rfl (rfl)
set_option maxRecDepth 100000 in
set_option maxHeartbeats 1000000 in
theorem c_quiet_0 {sh : Sh} {C : Mem} {b : Nat} (hb : IsSH sh b) {st : Nat} (hst : st < 4) : Calls mX4_quiet 3 0 0 [.inr (some (b)), .inl (nI (st)), .inl (nI (0))] sh C (some (.inl (qh C (b + 1) st))) sh (C) := by
  refine Calls.of plX4 (Nat.le_of_ble_eq_true rfl) ?_
  show WP mX4_quiet 3 0 0 0 [some (.inr (some (b))), some (.inl (nI (st))), some (.inl (nI (0)))] [] sh (C) (some (.inl (qh C (b + 1) st))) sh (C)
  refine zw_iload_n dX4_quiet_0 rfl ?_
  refine zw_cSi dX4_quiet_1 (c_X4_isStreet _) rfl okX4_isStreet ml_X4_209 (Nat.le_of_ble_eq_true rfl) (Nat.le_of_ble_eq_true rfl) ?_
  refine zw_if_ne_b (tgt := 9) dX4_quiet_4 (by decide) (fun c4 => ?_) (fun c4 => absurd (isSt_n hst) c4)
  refine zw_iload_n dX4_quiet_9 rfl ?_
  refine zw_tswIn (tgt := 36) (off := 26) dX4_quiet_10 (by decide) (by decide) (by decide) (by decide) ?_
  refine zw_aload_n dX4_quiet_36 rfl ?_
  refine zw_getR (j := 0) (kd := 4) dX4_quiet_37 hb.i hb.k (by decide) (by decide) fl_X4_12 rfl hb.r0 ?_
  refine zw_iload_n dX4_quiet_40 rfl ?_
  refine zw_cVi dX4_quiet_41 (c_X3_quietHours hb.st (by omega)) rfl okX3_quietHours ml_X4_221 hb.st.i hb.st.k (by decide) rfl (Nat.le_of_ble_eq_true rfl) (Nat.le_of_ble_eq_true rfl) ?_
  exact zw_iretE dX4_quiet_44 rfl (rfl) rfl (rfl)
set_option maxRecDepth 100000 in
set_option maxHeartbeats 1000000 in
theorem c_quiet_1 {sh : Sh} {C : Mem} {b : Nat} (hb : IsSH sh b) {st : Nat} (hst : st < 4) : Calls mX4_quiet 3 0 0 [.inr (some (b)), .inl (nI (st)), .inl (nI (1))] sh C (some (.inl (nI (lqn (owr C (b + 1) st) 24)))) sh (C) := by
  refine Calls.of plX4 (Nat.le_of_ble_eq_true rfl) ?_
  show WP mX4_quiet 3 0 0 0 [some (.inr (some (b))), some (.inl (nI (st))), some (.inl (nI (1)))] [] sh (C) (some (.inl (nI (lqn (owr C (b + 1) st) 24)))) sh (C)
  refine zw_iload_n dX4_quiet_0 rfl ?_
  refine zw_cSi dX4_quiet_1 (c_X4_isStreet _) rfl okX4_isStreet ml_X4_209 (Nat.le_of_ble_eq_true rfl) (Nat.le_of_ble_eq_true rfl) ?_
  refine zw_if_ne_b (tgt := 9) dX4_quiet_4 (by decide) (fun c4 => ?_) (fun c4 => absurd (isSt_n hst) c4)
  refine zw_iload_n dX4_quiet_9 rfl ?_
  refine zw_tswIn (tgt := 45) (off := 35) dX4_quiet_10 (by decide) (by decide) (by decide) (by decide) ?_
  refine zw_aload_n dX4_quiet_45 rfl ?_
  refine zw_getR (j := 0) (kd := 4) dX4_quiet_46 hb.i hb.k (by decide) (by decide) fl_X4_12 rfl hb.r0 ?_
  refine zw_iload_n dX4_quiet_49 rfl ?_
  refine zw_cVi dX4_quiet_50 (c_X3_longestQuiet hb.st (by omega)) rfl okX3_longestQuiet ml_X4_224 hb.st.i hb.st.k (by decide) rfl (Nat.le_of_ble_eq_true rfl) (Nat.le_of_ble_eq_true rfl) ?_
  exact zw_iretE dX4_quiet_53 rfl (rfl) rfl (rfl)
set_option maxRecDepth 100000 in
set_option maxHeartbeats 1000000 in
theorem c_quiet_2 {sh : Sh} {C : Mem} {b : Nat} (hb : IsSH sh b) {st : Nat} (hst : st < 4) : Calls mX4_quiet 3 0 0 [.inr (some (b)), .inl (nI (st)), .inl (nI (2))] sh C (some (.inl (lqs (owr C (b + 1) st) 24))) sh (C) := by
  refine Calls.of plX4 (Nat.le_of_ble_eq_true rfl) ?_
  show WP mX4_quiet 3 0 0 0 [some (.inr (some (b))), some (.inl (nI (st))), some (.inl (nI (2)))] [] sh (C) (some (.inl (lqs (owr C (b + 1) st) 24))) sh (C)
  refine zw_iload_n dX4_quiet_0 rfl ?_
  refine zw_cSi dX4_quiet_1 (c_X4_isStreet _) rfl okX4_isStreet ml_X4_209 (Nat.le_of_ble_eq_true rfl) (Nat.le_of_ble_eq_true rfl) ?_
  refine zw_if_ne_b (tgt := 9) dX4_quiet_4 (by decide) (fun c4 => ?_) (fun c4 => absurd (isSt_n hst) c4)
  refine zw_iload_n dX4_quiet_9 rfl ?_
  refine zw_tswIn (tgt := 54) (off := 44) dX4_quiet_10 (by decide) (by decide) (by decide) (by decide) ?_
  refine zw_aload_n dX4_quiet_54 rfl ?_
  refine zw_getR (j := 0) (kd := 4) dX4_quiet_55 hb.i hb.k (by decide) (by decide) fl_X4_12 rfl hb.r0 ?_
  refine zw_iload_n dX4_quiet_58 rfl ?_
  refine zw_cVi dX4_quiet_59 (c_X3_longestQuietStart hb.st (by omega)) rfl okX3_longestQuietStart ml_X4_227 hb.st.i hb.st.k (by decide) rfl (Nat.le_of_ble_eq_true rfl) (Nat.le_of_ble_eq_true rfl) ?_
  exact zw_iretE dX4_quiet_62 rfl (rfl) rfl (rfl)
set_option maxRecDepth 100000 in
set_option maxHeartbeats 1000000 in
theorem c_purseThen_bad {sh : Sh} {C : Mem} {b P : Nat} (hb : IsSH sh b) (hw : Wf C (b + 1) P) (x : Int32) (hx : ¬ isP P x) : Calls mX4_purseThen 6 0 0 [.inr (some (b)), .inl (x)] sh C (some (.inl (-1))) sh (C) := by
  refine Calls.of plX4 (Nat.le_of_ble_eq_true rfl) ?_
  show WP mX4_purseThen 6 0 0 0 [some (.inr (some (b))), some (.inl (x))] [] sh (C) (some (.inl (-1))) sh (C)
  have hP12 := hw.2.1
  refine zw_aload_n dX4_purseThen_0 rfl ?_
  refine zw_iload_n dX4_purseThen_1 rfl ?_
  refine zw_cVi dX4_purseThen_2 (c_X4_isPerson hb hw _) rfl okX4_isPerson ml_X4_53 hb.i hb.k (by decide) rfl (Nat.le_of_ble_eq_true rfl) (Nat.le_of_ble_eq_true rfl) ?_
  refine zw_if_ne_c (tgt := 10) dX4_purseThen_5 (by decide) (fun c5 => absurd c5 hx) (fun c5 => ?_)
  refine zw_iconst (v := (-1)) dX4_purseThen_8 (by decide) ?_
  exact zw_iretE dX4_purseThen_9 rfl (rfl) rfl (rfl)
theorem Wf.cp {C : Mem} {f q P : Nat} (h : Wf C f P) (hd : f + 16 ≤ q) : Wf (cpM C f q) q P := by
  have e3 : cpM C f q q 3 = C f 3 := by
    show cpy (cpy (cpy (cpy (cpy (cpy (cpy (cpy (cpy (cpy (cpy (cpy (cpy (cpy (cpy (up (up (up (up C q 0 _) q 1 _) q 2 _) q 3 _) _ _ _ _ _) _ _ _ _ _) _ _ _ _ _) _ _ _ _ _) _ _ _ _ _) _ _ _ _ _) _ _ _ _ _) _ _ _ _ _) _ _ _ _ _) _ _ _ _ _) _ _ _ _ _) _ _ _ _ _) _ _ _ _ _) _ _ _ _ _) _ _ _ _ _ q 3 = C f 3
    rw [cpy_ne (by omega), cpy_ne (by omega), cpy_ne (by omega), cpy_ne (by omega), cpy_ne (by omega), cpy_ne (by omega), cpy_ne (by omega), cpy_ne (by omega), cpy_ne (by omega), cpy_ne (by omega), cpy_ne (by omega), cpy_ne (by omega), cpy_ne (by omega), cpy_ne (by omega), cpy_ne (by omega), up_eq, up_ne (by omega), up_ne (by omega), up_ne (by omega)]
  have e4 : ∀ p, p < 12 → cpM C f q (q + 4) p = C (f + 4) p := by
    intro p hp
    show cpy (cpy (cpy (cpy (cpy (cpy (cpy (cpy (cpy (cpy (cpy (cpy (cpy (cpy (cpy (up (up (up (up C q 0 _) q 1 _) q 2 _) q 3 _) _ _ _ _ _) _ _ _ _ _) _ _ _ _ _) _ _ _ _ _) _ _ _ _ _) _ _ _ _ _) _ _ _ _ _) _ _ _ _ _) _ _ _ _ _) _ _ _ _ _) _ _ _ _ _) _ _ _ _ _) _ _ _ _ _) _ _ _ _ _) _ _ _ _ _ (q + 4) p = _
    rw [cpy_ne (by omega), cpy_ne (by omega), cpy_ne (by omega), cpy_ne (by omega), cpy_ne (by omega), cpy_ne (by omega), cpy_ne (by omega), cpy_ne (by omega), cpy_ne (by omega), cpy_ne (by omega), cpy_ne (by omega)]
    simp only [cpy, if_true]
    rw [pk_cpy_in (Nat.zero_le p) (by omega)]
    simp only [Nat.zero_add, Nat.sub_zero]
    have n1 : ∀ k : Nat, k = 1 ∨ k = 2 ∨ k = 3 → (f + 4 = q + k) = False := fun k hk => eq_false (by omega)
    simp only [n1 1 (by omega), n1 2 (by omega), n1 3 (by omega), if_false]
    rw [up_ne (by omega), up_ne (by omega), up_ne (by omega), up_ne (by omega)]
  exact ⟨by rw [e3]; exact h.1, h.2.1, fun p hp => by rw [e4 p hp]; exact h.2.2 p hp⟩
set_option maxRecDepth 100000 in
set_option maxHeartbeats 1000000 in
theorem c_purseThen_ok {sh : Sh} {C : Mem} {b P : Nat} (hb : IsSH sh b) (hw : Wf C (b + 1) P) {p : Nat} (hp : p < P)  : Calls mX4_purseThen 6 0 0 [.inr (some (b)), .inl (nI (p))] sh C (some (.inl (sdD (cpM C (b + 1) (b + 17)) (b + 17) P (b + 18) p))) sh (sdD (cpM C (b + 1) (b + 17)) (b + 17) P) := by
  refine Calls.of plX4 (Nat.le_of_ble_eq_true rfl) ?_
  show WP mX4_purseThen 6 0 0 0 [some (.inr (some (b))), some (.inl (nI (p)))] [] sh (C) (some (.inl (sdD (cpM C (b + 1) (b + 17)) (b + 17) P (b + 18) p))) sh (sdD (cpM C (b + 1) (b + 17)) (b + 17) P)
  have hP12 := hw.2.1
  refine zw_aload_n dX4_purseThen_0 rfl ?_
  refine zw_iload_n dX4_purseThen_1 rfl ?_
  refine zw_cVi dX4_purseThen_2 (c_X4_isPerson hb hw _) rfl okX4_isPerson ml_X4_53 hb.i hb.k (by decide) rfl (Nat.le_of_ble_eq_true rfl) (Nat.le_of_ble_eq_true rfl) ?_
  refine zw_if_ne_c (tgt := 10) dX4_purseThen_5 (by decide) (fun c5 => ?_) (fun c5 => absurd (isP_n hp) c5)
  refine zw_aload_n dX4_purseThen_10 rfl ?_
  refine zw_getR (j := 1) (kd := 4) dX4_purseThen_11 hb.i hb.k (by decide) (by decide) fl_X4_16 rfl hb.r1 ?_
  refine zw_aload_n dX4_purseThen_14 rfl ?_
  refine zw_getR (j := 0) (kd := 4) dX4_purseThen_15 hb.i hb.k (by decide) (by decide) fl_X4_12 rfl hb.r0 ?_
  refine zw_cVv dX4_purseThen_18 (c_X3_copyFrom hb.sp hb.st) rfl okX3_copyFrom ml_X4_129 hb.sp.i hb.sp.k (by decide) rfl (Nat.le_of_ble_eq_true rfl) (Nat.le_of_ble_eq_true rfl) ?_
  refine zw_aload_n dX4_purseThen_21 rfl ?_
  refine zw_getR (j := 1) (kd := 4) dX4_purseThen_22 hb.i hb.k (by decide) (by decide) fl_X4_16 rfl hb.r1 ?_
  refine zw_cVv dX4_purseThen_25 (c_X3_settleDay hb.sp (Wf.cp hw (by omega))) rfl okX3_settleDay ml_X4_90 hb.sp.i hb.sp.k (by decide) rfl (Nat.le_of_ble_eq_true rfl) (Nat.le_of_ble_eq_true rfl) ?_
  refine zw_aload_n dX4_purseThen_28 rfl ?_
  refine zw_getR (j := 1) (kd := 4) dX4_purseThen_29 hb.i hb.k (by decide) (by decide) fl_X4_16 rfl hb.r1 ?_
  refine zw_getR (j := 4) (kd := 3) dX4_purseThen_32 hb.sp.i hb.sp.k (by decide) (by decide) fl_X4_50 rfl hb.sp.r0 ?_
  refine zw_iload_n dX4_purseThen_35 rfl ?_
  refine zw_iald dX4_purseThen_36 hb.sp.i0 hb.sp.k0 hb.sp.L0 rfl (by rw [hb.sp.n0]; omega) ?_
  exact zw_iretE dX4_purseThen_37 rfl (rfl) rfl (rfl)
