/-! ===== the reference: its reads ===== -/
def Wm (D : Mem) (m P : Nat) : Prop := D (m + 1) 1 = nI P ∧ P ≤ 12 ∧ ∀ p, p < 12 → vp_in (D (m + 1) (8 + 7 * p + 6)) 4
theorem Wm.of {D D' : Mem} {m P : Nat} (h : Wm D m P) (h1 : D' (m + 1) 1 = D (m + 1) 1) (h2 : ∀ p, p < 12 → D' (m + 1) (8 + 7 * p + 6) = D (m + 1) (8 + 7 * p + 6)) : Wm D' m P := ⟨by rw [h1]; exact h.1, h.2.1, fun p hp => by rw [h2 p hp]; exact h.2.2 p hp⟩
theorem Wm.wr {D : Mem} {m P a j : Nat} {x : Int32} (h : Wm D m P) (h1 : m + 1 ≠ a) : Wm (up D a j x) m P := h.of (by rw [up_ne h1]) (fun p hp => by rw [up_ne h1])
theorem Wm.wj {D : Mem} {m P j : Nat} {x : Int32} (h : Wm D m P) (h1 : j ≠ 1) (h2 : ∀ p, p < 12 → 8 + 7 * p + 6 ≠ j) : Wm (up D (m + 1) j x) m P := h.of (up_ne2 (Ne.symm h1)) (fun p hp => up_ne2 (h2 p hp))
def aF (b sd : Int32) : Int32 := if b = 0 then nI 0 else if (if nI 1000 < b then nI 1 else nI 0) = sd then b - nI 1000 * sd else nI 0
def p01 (x : Int32) : Int32 := if 0 < x then nI 1 else nI 0
abbrev dm (D : Mem) (m p s : Nat) : Int32 := D (m + 1) (572 + 96 * p + s)
set_option maxRecDepth 100000 in
set_option maxHeartbeats 4000000 in
theorem c_X5_in {sh : Sh} {D : Mem} (v lo hi : Int32) : Calls mX5_in 0 0 0 [.inl (v), .inl (lo), .inl (hi)] sh (D) (some (.inl (b01 (lo ≤ v ∧ v ≤ hi)))) sh (D) := by
  refine Calls.of plX5 (Nat.le_of_ble_eq_true rfl) ?_
  show WP mX5_in 0 0 0 0 [some (.inl (v)), some (.inl (lo)), some (.inl (hi))] [] sh (D) (some (.inl (b01 (lo ≤ v ∧ v ≤ hi)))) sh (D)
  refine zw_iload_n dX5_in_0 rfl ?_
  refine zw_iload_n dX5_in_1 rfl ?_
  refine zw_icmp_lt (tgt := 14) dX5_in_2 (by decide) (fun c2 => ?_) (fun c2 => ?_)
  · refine zw_iconst (v := nI 0) dX5_in_14 (by decide) ?_
    exact zw_zretE dX5_in_15 rfl (Or.inl rfl) (by rw [isW_f1 c2]) rfl (rfl)
  · refine zw_iload_n dX5_in_5 rfl ?_
    refine zw_iload_n dX5_in_6 rfl ?_
    refine zw_icmp_gt (tgt := 14) dX5_in_7 (by decide) (fun c7 => ?_) (fun c7 => ?_)
    · refine zw_iconst (v := nI 0) dX5_in_14 (by decide) ?_
      exact zw_zretE dX5_in_15 rfl (Or.inl rfl) (by rw [isW_f2 c7]) rfl (rfl)
    · refine zw_iconst (v := nI 1) dX5_in_10 (by decide) ?_
      refine zw_goto (tgt := 15) dX5_in_11 (by decide) ?_
      exact zw_zretE dX5_in_15 rfl (Or.inr rfl) (by rw [isW_t c2 c7]) rfl (rfl)
set_option maxRecDepth 100000 in
set_option maxHeartbeats 4000000 in
theorem c_X5_isPerson {sh : Sh} {D : Mem} {m P : Nat} (hm : IsMo sh m) (hw : Wm D m P) (x : Int32) : Calls mX5_isPerson 1 0 0 [.inr (some (m)), .inl (x)] sh (D) (some (.inl (b01c (isP P x)))) sh (D) := by
  refine Calls.of plX5 (Nat.le_of_ble_eq_true rfl) ?_
  have hP12 := hw.2.1
  show WP mX5_isPerson 1 0 0 0 [some (.inr (some (m))), some (.inl (x))] [] sh (D) (some (.inl (b01c (isP P x)))) sh (D)
  refine zw_iload_n dX5_isPerson_0 rfl ?_
  refine zw_iconst (v := nI 0) dX5_isPerson_1 (by decide) ?_
  refine zw_aload_n dX5_isPerson_2 rfl ?_
  refine zw_getR (j := 0) (kd := 5) dX5_isPerson_3 hm.i hm.k (by decide) (by decide) fl_X5_7 rfl hm.r0 ?_
  refine zw_iconst (v := nI 1) dX5_isPerson_6 (by decide) ?_
  refine zw_ialdv (v := (nI (P))) dX5_isPerson_7 hm.i0 hm.k0 hm.L0 rfl (by rw [hm.n0]; omega) hw.1 ?_
  refine zw_iconst (v := nI 1) dX5_isPerson_8 (by decide) ?_
  refine zw_isub dX5_isPerson_9 ?_
  refine zw_cSi dX5_isPerson_10 (c_X5_in _ _ _) rfl okX5_in ml_X5_31 (Nat.le_of_ble_eq_true rfl) (Nat.le_of_ble_eq_true rfl) ?_
  exact zw_zretE dX5_isPerson_13 rfl b01_01 (by rw [b01_c (isP_iff hw.2.1)]) rfl (rfl)
set_option maxRecDepth 100000 in
set_option maxHeartbeats 4000000 in
theorem c_X5_isSlot {sh : Sh} {D : Mem} (a b : Int32) : Calls mX5_isSlot 1 0 0 [.inl (a), .inl (b)] sh (D) (some (.inl (b01c (inS a b)))) sh (D) := by
  refine Calls.of plX5 (Nat.le_of_ble_eq_true rfl) ?_
  show WP mX5_isSlot 1 0 0 0 [some (.inl (a)), some (.inl (b))] [] sh (D) (some (.inl (b01c (inS a b)))) sh (D)
  refine zw_iload_n dX5_isSlot_0 rfl ?_
  refine zw_iconst (v := nI 0) dX5_isSlot_1 (by decide) ?_
  refine zw_iconst (v := nI 3) dX5_isSlot_2 (by decide) ?_
  refine zw_cSi dX5_isSlot_3 (c_X5_in _ _ _) rfl okX5_in ml_X5_31 (Nat.le_of_ble_eq_true rfl) (Nat.le_of_ble_eq_true rfl) ?_
  refine zw_if_eq_b (tgt := 23) dX5_isSlot_6 (by decide) (fun c6 => ?_) (fun c6 => ?_)
  · refine zw_iconst (v := nI 0) dX5_isSlot_23 (by decide) ?_
    exact zw_zretE dX5_isSlot_24 rfl (Or.inl rfl) (by rw [b01c_f (fun z => c6 z.1)]) rfl (rfl)
  · refine zw_iload_n dX5_isSlot_9 rfl ?_
    refine zw_iconst (v := nI 0) dX5_isSlot_10 (by decide) ?_
    refine zw_bipush (v := nI 23) dX5_isSlot_11 (by decide) ?_
    refine zw_cSi dX5_isSlot_13 (c_X5_in _ _ _) rfl okX5_in ml_X5_31 (Nat.le_of_ble_eq_true rfl) (Nat.le_of_ble_eq_true rfl) ?_
    refine zw_if_eq_b (tgt := 23) dX5_isSlot_16 (by decide) (fun c16 => ?_) (fun c16 => ?_)
    · refine zw_iconst (v := nI 0) dX5_isSlot_23 (by decide) ?_
      exact zw_zretE dX5_isSlot_24 rfl (Or.inl rfl) (by rw [b01c_f (fun z => c16 z.2)]) rfl (rfl)
    · refine zw_iconst (v := nI 1) dX5_isSlot_19 (by decide) ?_
      refine zw_goto (tgt := 24) dX5_isSlot_20 (by decide) ?_
      exact zw_zretE dX5_isSlot_24 rfl (Or.inr rfl) (by rw [b01c_t ⟨c6, c16⟩]) rfl (rfl)
set_option maxRecDepth 100000 in
set_option maxHeartbeats 4000000 in
theorem c_X5_of {sh : Sh} {D : Mem} {m : Nat} (hm : IsMo sh m) {p w : Nat} (hp : p < 12) (hw7 : w < 7) : Calls mX5_of 0 0 0 [.inr (some (m)), .inl (nI (p)), .inl (nI (w))] sh (D) (some (.inl (D (m + 1) (8 + 7 * p + w)))) sh (D) := by
  refine Calls.of plX5 (Nat.le_of_ble_eq_true rfl) ?_
  show WP mX5_of 0 0 0 0 [some (.inr (some (m))), some (.inl (nI (p))), some (.inl (nI (w)))] [] sh (D) (some (.inl (D (m + 1) (8 + 7 * p + w)))) sh (D)
  refine zw_aload_n dX5_of_0 rfl ?_
  refine zw_getR (j := 0) (kd := 5) dX5_of_1 hm.i hm.k (by decide) (by decide) fl_X5_7 rfl hm.r0 ?_
  refine zw_bipush (v := nI 8) dX5_of_4 (by decide) ?_
  refine zw_bipush (v := nI 7) dX5_of_6 (by decide) ?_
  refine zw_iload_n dX5_of_8 rfl ?_
  refine zw_imuln dX5_of_9 ?_
  refine zw_iaddn dX5_of_10 ?_
  refine zw_iload_n dX5_of_11 rfl ?_
  refine zw_iaddn dX5_of_12 ?_
  refine zw_iald dX5_of_13 hm.i0 hm.k0 hm.L0 rfl (by rw [hm.n0]; omega) ?_
  exact zw_iretE dX5_of_14 rfl (rfl) rfl (rfl)
def adM (D : Mem) (m p w : Nat) (v : Int32) : Mem := up D (m + 1) (8 + 7 * p + w) (D (m + 1) (8 + 7 * p + w) + v)
set_option maxRecDepth 100000 in
set_option maxHeartbeats 4000000 in
theorem c_X5_adds {sh : Sh} {D : Mem} {m : Nat} (hm : IsMo sh m) {p w : Nat} (hp : p < 12) (hw7 : w < 7) (v : Int32) : Calls mX5_adds 0 0 0 [.inr (some (m)), .inl (nI (p)), .inl (nI (w)), .inl (v)] sh (D) (none) sh (adM D m p w v) := by
  refine Calls.of plX5 (Nat.le_of_ble_eq_true rfl) ?_
  show WP mX5_adds 0 0 0 0 [some (.inr (some (m))), some (.inl (nI (p))), some (.inl (nI (w))), some (.inl (v))] [] sh (D) (none) sh (adM D m p w v)
  refine zw_aload_n dX5_adds_0 rfl ?_
  refine zw_getR (j := 0) (kd := 5) dX5_adds_1 hm.i hm.k (by decide) (by decide) fl_X5_7 rfl hm.r0 ?_
  refine zw_bipush (v := nI 8) dX5_adds_4 (by decide) ?_
  refine zw_bipush (v := nI 7) dX5_adds_6 (by decide) ?_
  refine zw_iload_n dX5_adds_8 rfl ?_
  refine zw_imuln dX5_adds_9 ?_
  refine zw_iaddn dX5_adds_10 ?_
  refine zw_iload_n dX5_adds_11 rfl ?_
  refine zw_iaddn dX5_adds_12 ?_
  refine zw_dup2 dX5_adds_13 ?_
  refine zw_iald dX5_adds_14 hm.i0 hm.k0 hm.L0 rfl (by rw [hm.n0]; omega) ?_
  refine zw_iload_n dX5_adds_15 rfl ?_
  refine zw_iadd dX5_adds_16 ?_
  refine zw_iast dX5_adds_17 hm.i0 hm.k0 hm.L0 rfl (by rw [hm.n0]; omega) ?_
  exact zw_vretE dX5_adds_18 rfl rfl rfl (rfl)
set_option maxRecDepth 100000 in
set_option maxHeartbeats 4000000 in
theorem c_X5_slotOf {sh : Sh} {D : Mem} {m : Nat} (hm : IsMo sh m) {s w : Nat} (hs : s < 96) (hw5 : w < 5) : Calls mX5_slotOf 0 0 0 [.inr (some (m)), .inl (nI (s)), .inl (nI (w))] sh (D) (some (.inl (D (m + 1) (92 + 5 * s + w)))) sh (D) := by
  refine Calls.of plX5 (Nat.le_of_ble_eq_true rfl) ?_
  show WP mX5_slotOf 0 0 0 0 [some (.inr (some (m))), some (.inl (nI (s))), some (.inl (nI (w)))] [] sh (D) (some (.inl (D (m + 1) (92 + 5 * s + w)))) sh (D)
  refine zw_aload_n dX5_slotOf_0 rfl ?_
  refine zw_getR (j := 0) (kd := 5) dX5_slotOf_1 hm.i hm.k (by decide) (by decide) fl_X5_7 rfl hm.r0 ?_
  refine zw_bipush (v := nI 92) dX5_slotOf_4 (by decide) ?_
  refine zw_iconst (v := nI 5) dX5_slotOf_6 (by decide) ?_
  refine zw_iload_n dX5_slotOf_7 rfl ?_
  refine zw_imuln dX5_slotOf_8 ?_
  refine zw_iaddn dX5_slotOf_9 ?_
  refine zw_iload_n dX5_slotOf_10 rfl ?_
  refine zw_iaddn dX5_slotOf_11 ?_
  refine zw_iald dX5_slotOf_12 hm.i0 hm.k0 hm.L0 rfl (by rw [hm.n0]; omega) ?_
  exact zw_iretE dX5_slotOf_13 rfl (rfl) rfl (rfl)
def puM (D : Mem) (m s w : Nat) (v : Int32) : Mem := up D (m + 1) (92 + 5 * s + w) v
set_option maxRecDepth 100000 in
set_option maxHeartbeats 4000000 in
theorem c_X5_puts {sh : Sh} {D : Mem} {m : Nat} (hm : IsMo sh m) {s w : Nat} (hs : s < 96) (hw5 : w < 5) (v : Int32) : Calls mX5_puts 0 0 0 [.inr (some (m)), .inl (nI (s)), .inl (nI (w)), .inl (v)] sh (D) (none) sh (puM D m s w v) := by
  refine Calls.of plX5 (Nat.le_of_ble_eq_true rfl) ?_
  show WP mX5_puts 0 0 0 0 [some (.inr (some (m))), some (.inl (nI (s))), some (.inl (nI (w))), some (.inl (v))] [] sh (D) (none) sh (puM D m s w v)
  refine zw_aload_n dX5_puts_0 rfl ?_
  refine zw_getR (j := 0) (kd := 5) dX5_puts_1 hm.i hm.k (by decide) (by decide) fl_X5_7 rfl hm.r0 ?_
  refine zw_bipush (v := nI 92) dX5_puts_4 (by decide) ?_
  refine zw_iconst (v := nI 5) dX5_puts_6 (by decide) ?_
  refine zw_iload_n dX5_puts_7 rfl ?_
  refine zw_imuln dX5_puts_8 ?_
  refine zw_iaddn dX5_puts_9 ?_
  refine zw_iload_n dX5_puts_10 rfl ?_
  refine zw_iaddn dX5_puts_11 ?_
  refine zw_iload_n dX5_puts_12 rfl ?_
  refine zw_iast dX5_puts_13 hm.i0 hm.k0 hm.L0 rfl (by rw [hm.n0]; omega) ?_
  exact zw_vretE dX5_puts_14 rfl rfl rfl (rfl)
set_option maxRecDepth 100000 in
set_option maxHeartbeats 4000000 in
theorem c_X5_bidAt {sh : Sh} {D : Mem} {m : Nat} (hm : IsMo sh m) {p s : Nat} (hp : p < 12) (hs : s < 96) : Calls mX5_bidAt 0 0 0 [.inr (some (m)), .inl (nI (p)), .inl (nI (s))] sh (D) (some (.inl (dm D m p s))) sh (D) := by
  refine Calls.of plX5 (Nat.le_of_ble_eq_true rfl) ?_
  show WP mX5_bidAt 0 0 0 0 [some (.inr (some (m))), some (.inl (nI (p))), some (.inl (nI (s)))] [] sh (D) (some (.inl (dm D m p s))) sh (D)
  refine zw_aload_n dX5_bidAt_0 rfl ?_
  refine zw_getR (j := 0) (kd := 5) dX5_bidAt_1 hm.i hm.k (by decide) (by decide) fl_X5_7 rfl hm.r0 ?_
  refine zw_sipush (v := nI 572) dX5_bidAt_4 (by decide) ?_
  refine zw_bipush (v := nI 96) dX5_bidAt_7 (by decide) ?_
  refine zw_iload_n dX5_bidAt_9 rfl ?_
  refine zw_imuln dX5_bidAt_10 ?_
  refine zw_iaddn dX5_bidAt_11 ?_
  refine zw_iload_n dX5_bidAt_12 rfl ?_
  refine zw_iaddn dX5_bidAt_13 ?_
  refine zw_iald dX5_bidAt_14 hm.i0 hm.k0 hm.L0 rfl (by rw [hm.n0]; omega) ?_
  exact zw_iretE dX5_bidAt_15 rfl (rfl) rfl (rfl)
set_option maxRecDepth 100000 in
set_option maxHeartbeats 4000000 in
theorem c_X5_amount {sh : Sh} {D : Mem} {m : Nat} (hm : IsMo sh m) {p s : Nat} (hp : p < 12) (hs : s < 96) (sd : Int32) : Calls mX5_amount 1 0 0 [.inr (some (m)), .inl (nI (p)), .inl (nI (s)), .inl (sd)] sh (D) (some (.inl (aF (dm D m p s) sd))) sh (D) := by
  refine Calls.of plX5 (Nat.le_of_ble_eq_true rfl) ?_
  show WP mX5_amount 1 0 0 0 [some (.inr (some (m))), some (.inl (nI (p))), some (.inl (nI (s))), some (.inl (sd)), none] [] sh (D) (some (.inl (aF (dm D m p s) sd))) sh (D)
  refine zw_aload_n dX5_amount_0 rfl ?_
  refine zw_iload_n dX5_amount_1 rfl ?_
  refine zw_iload_n dX5_amount_2 rfl ?_
  refine zw_cVi dX5_amount_3 (c_X5_bidAt hm (by omega) (by omega)) rfl okX5_bidAt ml_X5_35 hm.i hm.k (by decide) rfl (Nat.le_of_ble_eq_true rfl) (Nat.le_of_ble_eq_true rfl) ?_
  refine zw_istore dX5_amount_6 (by decide) ?_
  refine zw_iload dX5_amount_8 rfl ?_
  refine zw_if_eq (tgt := 30) dX5_amount_10 (by decide) (fun c10 => ?_) (fun c10 => ?_)
  · refine zw_iconst (v := nI 0) dX5_amount_30 (by decide) ?_
    exact zw_iretE dX5_amount_31 rfl (by simp only [aF]; rw [if_pos c10]) rfl (rfl)
  · refine zw_iload dX5_amount_13 rfl ?_
    refine zw_sipush (v := nI 1000) dX5_amount_15 (by decide) ?_
    refine zw_icmp_le (tgt := 25) dX5_amount_18 (by decide) (fun c18 => ?_) (fun c18 => ?_)
    · refine zw_iconst (v := nI 0) dX5_amount_25 (by decide) ?_
      refine zw_iload_n dX5_amount_26 rfl ?_
      refine zw_icmp_eq (tgt := 32) dX5_amount_27 (by decide) (fun c27 => ?_) (fun c27 => ?_)
      · refine zw_iload dX5_amount_32 rfl ?_
        refine zw_sipush (v := nI 1000) dX5_amount_34 (by decide) ?_
        refine zw_iload_n dX5_amount_37 rfl ?_
        refine zw_imul dX5_amount_38 ?_
        refine zw_isub dX5_amount_39 ?_
        exact zw_iretE dX5_amount_40 rfl (by simp only [aF]; rw [if_neg c10, if_neg c18, if_pos c27]) rfl (rfl)
      · refine zw_iconst (v := nI 0) dX5_amount_30 (by decide) ?_
        exact zw_iretE dX5_amount_31 rfl (by simp only [aF]; rw [if_neg c10, if_neg c18, if_neg c27]) rfl (rfl)
    · refine zw_iconst (v := nI 1) dX5_amount_21 (by decide) ?_
      refine zw_goto (tgt := 26) dX5_amount_22 (by decide) ?_
      refine zw_iload_n dX5_amount_26 rfl ?_
      refine zw_icmp_eq (tgt := 32) dX5_amount_27 (by decide) (fun c27 => ?_) (fun c27 => ?_)
      · refine zw_iload dX5_amount_32 rfl ?_
        refine zw_sipush (v := nI 1000) dX5_amount_34 (by decide) ?_
        refine zw_iload_n dX5_amount_37 rfl ?_
        refine zw_imul dX5_amount_38 ?_
        refine zw_isub dX5_amount_39 ?_
        exact zw_iretE dX5_amount_40 rfl (by simp only [aF]; rw [if_neg c10, if_pos c18, if_pos c27]) rfl (rfl)
      · refine zw_iconst (v := nI 0) dX5_amount_30 (by decide) ?_
        exact zw_iretE dX5_amount_31 rfl (by simp only [aF]; rw [if_neg c10, if_pos c18, if_neg c27]) rfl (rfl)
set_option maxRecDepth 100000 in
set_option maxHeartbeats 4000000 in
theorem c_X5_sumOf {sh : Sh} {D : Mem} {m P : Nat} (hm : IsMo sh m) (hw : Wm D m P) {s : Nat} (hs : s < 96) (sd : Int32) : Calls mX5_sumOf 2 0 0 [.inr (some (m)), .inl (nI (s)), .inl (sd)] sh (D) (some (.inl (sm (fun p => aF (dm D m p s) sd) P))) sh (D) := by
  refine Calls.of plX5 (Nat.le_of_ble_eq_true rfl) ?_
  have hP12 := hw.2.1
  show WP mX5_sumOf 2 0 0 0 [some (.inr (some (m))), some (.inl (nI (s))), some (.inl (sd)), none, none] [] sh (D) (some (.inl (sm (fun p => aF (dm D m p s) sd) P))) sh (D)
  refine zw_iconst (v := nI 0) dX5_sumOf_0 (by decide) ?_
  refine zw_istore_n dX5_sumOf_1 (by decide) ?_
  refine zw_iconst (v := nI 0) dX5_sumOf_2 (by decide) ?_
  refine zw_istore dX5_sumOf_3 (by decide) ?_
  have L5 : ∀ (n_5 k : Nat), k + n_5 = P → WP mX5_sumOf 2 0 0 5 [some (.inr (some (m))), some (.inl (nI (s))), some (.inl (sd)), some (.inl (sm (fun p => aF (dm D m p s) sd) (k))), some (.inl (nI (k)))] [] sh (D) (some (.inl (sm (fun p => aF (dm D m p s) sd) P))) sh (D) := by
    intro n_5
    induction n_5 with
    | zero =>
      intro k hk5
      have ek5 : P = k := by omega
      subst ek5
      refine zw_iload dX5_sumOf_5 rfl ?_
      refine zw_aload_n dX5_sumOf_7 rfl ?_
      refine zw_getR (j := 0) (kd := 5) dX5_sumOf_8 hm.i hm.k (by decide) (by decide) fl_X5_7 rfl hm.r0 ?_
      refine zw_iconst (v := nI 1) dX5_sumOf_11 (by decide) ?_
      refine zw_ialdv (v := (nI (P))) dX5_sumOf_12 hm.i0 hm.k0 hm.L0 rfl (by rw [hm.n0]; omega) hw.1 ?_
      refine zw_icmp_ge_n (tgt := 33) dX5_sumOf_13 (by decide) (by omega) (by omega) (fun c13 => ?_) (fun c13 => by omega)
      refine zw_iload_n dX5_sumOf_33 rfl ?_
      exact zw_iretE dX5_sumOf_34 rfl (rfl) rfl (rfl)
    | succ n_5 ih5 =>
      intro k hk5
      have hlt5 : k < P := by omega
      refine zw_iload dX5_sumOf_5 rfl ?_
      refine zw_aload_n dX5_sumOf_7 rfl ?_
      refine zw_getR (j := 0) (kd := 5) dX5_sumOf_8 hm.i hm.k (by decide) (by decide) fl_X5_7 rfl hm.r0 ?_
      refine zw_iconst (v := nI 1) dX5_sumOf_11 (by decide) ?_
      refine zw_ialdv (v := (nI (P))) dX5_sumOf_12 hm.i0 hm.k0 hm.L0 rfl (by rw [hm.n0]; omega) hw.1 ?_
      refine zw_icmp_ge_n (tgt := 33) dX5_sumOf_13 (by decide) (by omega) (by omega) (fun c13 => by omega) (fun c13 => ?_)
      refine zw_iload_n dX5_sumOf_16 rfl ?_
      refine zw_aload_n dX5_sumOf_17 rfl ?_
      refine zw_iload dX5_sumOf_18 rfl ?_
      refine zw_iload_n dX5_sumOf_20 rfl ?_
      refine zw_iload_n dX5_sumOf_21 rfl ?_
      refine zw_cVi dX5_sumOf_22 (c_X5_amount hm (by omega) (by omega) _) rfl okX5_amount ml_X5_39 hm.i hm.k (by decide) rfl (Nat.le_of_ble_eq_true rfl) (Nat.le_of_ble_eq_true rfl) ?_
      refine zw_iadd dX5_sumOf_25 ?_
      refine zw_istore_n dX5_sumOf_26 (by decide) ?_
      refine zw_iincn dX5_sumOf_27 rfl (by decide) ?_
      refine zw_goto (tgt := 5) dX5_sumOf_30 (by decide) ?_
      exact WP.sub (ih5 (k + 1) (by omega)) ⟨rfl, rfl, rfl, rfl, rfl, trivial⟩
  exact WP.sub (L5 (P) 0 (by omega)) ⟨rfl, rfl, rfl, rfl, rfl, trivial⟩
set_option maxRecDepth 100000 in
set_option maxHeartbeats 4000000 in
theorem c_X5_bidsFor {sh : Sh} {D : Mem} {m P : Nat} (hm : IsMo sh m) (hw : Wm D m P) {s : Nat} (hs : s < 96) : Calls mX5_bidsFor 1 0 0 [.inr (some (m)), .inl (nI (s))] sh (D) (some (.inl (sm (fun p => p01 (dm D m p s)) P))) sh (D) := by
  refine Calls.of plX5 (Nat.le_of_ble_eq_true rfl) ?_
  have hP12 := hw.2.1
  show WP mX5_bidsFor 1 0 0 0 [some (.inr (some (m))), some (.inl (nI (s))), none, none] [] sh (D) (some (.inl (sm (fun p => p01 (dm D m p s)) P))) sh (D)
  refine zw_iconst (v := nI 0) dX5_bidsFor_0 (by decide) ?_
  refine zw_istore_n dX5_bidsFor_1 (by decide) ?_
  refine zw_iconst (v := nI 0) dX5_bidsFor_2 (by decide) ?_
  refine zw_istore_n dX5_bidsFor_3 (by decide) ?_
  have L4 : ∀ (n_4 k : Nat), k + n_4 = P → WP mX5_bidsFor 1 0 0 4 [some (.inr (some (m))), some (.inl (nI (s))), some (.inl (sm (fun p => p01 (dm D m p s)) (k))), some (.inl (nI (k)))] [] sh (D) (some (.inl (sm (fun p => p01 (dm D m p s)) P))) sh (D) := by
    intro n_4
    induction n_4 with
    | zero =>
      intro k hk4
      have ek4 : P = k := by omega
      subst ek4
      refine zw_iload_n dX5_bidsFor_4 rfl ?_
      refine zw_aload_n dX5_bidsFor_5 rfl ?_
      refine zw_getR (j := 0) (kd := 5) dX5_bidsFor_6 hm.i hm.k (by decide) (by decide) fl_X5_7 rfl hm.r0 ?_
      refine zw_iconst (v := nI 1) dX5_bidsFor_9 (by decide) ?_
      refine zw_ialdv (v := (nI (P))) dX5_bidsFor_10 hm.i0 hm.k0 hm.L0 rfl (by rw [hm.n0]; omega) hw.1 ?_
      refine zw_icmp_ge_n (tgt := 37) dX5_bidsFor_11 (by decide) (by omega) (by omega) (fun c11 => ?_) (fun c11 => by omega)
      refine zw_iload_n dX5_bidsFor_37 rfl ?_
      exact zw_iretE dX5_bidsFor_38 rfl (rfl) rfl (rfl)
    | succ n_4 ih4 =>
      intro k hk4
      have hlt4 : k < P := by omega
      refine zw_iload_n dX5_bidsFor_4 rfl ?_
      refine zw_aload_n dX5_bidsFor_5 rfl ?_
      refine zw_getR (j := 0) (kd := 5) dX5_bidsFor_6 hm.i hm.k (by decide) (by decide) fl_X5_7 rfl hm.r0 ?_
      refine zw_iconst (v := nI 1) dX5_bidsFor_9 (by decide) ?_
      refine zw_ialdv (v := (nI (P))) dX5_bidsFor_10 hm.i0 hm.k0 hm.L0 rfl (by rw [hm.n0]; omega) hw.1 ?_
      refine zw_icmp_ge_n (tgt := 37) dX5_bidsFor_11 (by decide) (by omega) (by omega) (fun c11 => by omega) (fun c11 => ?_)
      refine zw_iload_n dX5_bidsFor_14 rfl ?_
      refine zw_aload_n dX5_bidsFor_15 rfl ?_
      refine zw_iload_n dX5_bidsFor_16 rfl ?_
      refine zw_iload_n dX5_bidsFor_17 rfl ?_
      refine zw_cVi dX5_bidsFor_18 (c_X5_bidAt hm (by omega) (by omega)) rfl okX5_bidAt ml_X5_35 hm.i hm.k (by decide) rfl (Nat.le_of_ble_eq_true rfl) (Nat.le_of_ble_eq_true rfl) ?_
      refine zw_if_le (tgt := 28) dX5_bidsFor_21 (by decide) (fun c21 => ?_) (fun c21 => ?_)
      · refine zw_iconst (v := nI 0) dX5_bidsFor_28 (by decide) ?_
        refine zw_iadd dX5_bidsFor_29 ?_
        refine zw_istore_n dX5_bidsFor_30 (by decide) ?_
        refine zw_iincn dX5_bidsFor_31 rfl (by decide) ?_
        refine zw_goto (tgt := 4) dX5_bidsFor_34 (by decide) ?_
        exact WP.sub (ih4 (k + 1) (by omega)) ⟨rfl, rfl, (hd_eq (by simp [sm, p01, *])), rfl, trivial⟩
      · refine zw_iconst (v := nI 1) dX5_bidsFor_24 (by decide) ?_
        refine zw_goto (tgt := 29) dX5_bidsFor_25 (by decide) ?_
        refine zw_iadd dX5_bidsFor_29 ?_
        refine zw_istore_n dX5_bidsFor_30 (by decide) ?_
        refine zw_iincn dX5_bidsFor_31 rfl (by decide) ?_
        refine zw_goto (tgt := 4) dX5_bidsFor_34 (by decide) ?_
        exact WP.sub (ih4 (k + 1) (by omega)) ⟨rfl, rfl, (hd_eq (by simp [sm, p01, *])), rfl, trivial⟩
  exact WP.sub (L4 (P) 0 (by omega)) ⟨rfl, rfl, rfl, rfl, trivial⟩
set_option maxRecDepth 100000 in
set_option maxHeartbeats 4000000 in
theorem c_X5_bidsBy {sh : Sh} {D : Mem} {m : Nat} (hm : IsMo sh m) {p : Nat} (hp : p < 12) : Calls mX5_bidsBy 1 0 0 [.inr (some (m)), .inl (nI (p))] sh (D) (some (.inl (sm (fun s => p01 (dm D m p s)) 96))) sh (D) := by
  refine Calls.of plX5 (Nat.le_of_ble_eq_true rfl) ?_
  show WP mX5_bidsBy 1 0 0 0 [some (.inr (some (m))), some (.inl (nI (p))), none, none] [] sh (D) (some (.inl (sm (fun s => p01 (dm D m p s)) 96))) sh (D)
  refine zw_iconst (v := nI 0) dX5_bidsBy_0 (by decide) ?_
  refine zw_istore_n dX5_bidsBy_1 (by decide) ?_
  refine zw_iconst (v := nI 0) dX5_bidsBy_2 (by decide) ?_
  refine zw_istore_n dX5_bidsBy_3 (by decide) ?_
  have L4 : ∀ (n_4 k : Nat), k + n_4 = 96 → WP mX5_bidsBy 1 0 0 4 [some (.inr (some (m))), some (.inl (nI (p))), some (.inl (sm (fun s => p01 (dm D m p s)) (k))), some (.inl (nI (k)))] [] sh (D) (some (.inl (sm (fun s => p01 (dm D m p s)) 96))) sh (D) := by
    intro n_4
    induction n_4 with
    | zero =>
      intro k hk4
      have ek4 : 96 = k := by omega
      subst ek4
      refine zw_iload_n dX5_bidsBy_4 rfl ?_
      refine zw_bipush (v := nI 96) dX5_bidsBy_5 (by decide) ?_
      refine zw_icmp_ge_n (tgt := 33) dX5_bidsBy_7 (by decide) (by omega) (by omega) (fun c7 => ?_) (fun c7 => by omega)
      refine zw_iload_n dX5_bidsBy_33 rfl ?_
      exact zw_iretE dX5_bidsBy_34 rfl (rfl) rfl (rfl)
    | succ n_4 ih4 =>
      intro k hk4
      have hlt4 : k < 96 := by omega
      refine zw_iload_n dX5_bidsBy_4 rfl ?_
      refine zw_bipush (v := nI 96) dX5_bidsBy_5 (by decide) ?_
      refine zw_icmp_ge_n (tgt := 33) dX5_bidsBy_7 (by decide) (by omega) (by omega) (fun c7 => by omega) (fun c7 => ?_)
      refine zw_iload_n dX5_bidsBy_10 rfl ?_
      refine zw_aload_n dX5_bidsBy_11 rfl ?_
      refine zw_iload_n dX5_bidsBy_12 rfl ?_
      refine zw_iload_n dX5_bidsBy_13 rfl ?_
      refine zw_cVi dX5_bidsBy_14 (c_X5_bidAt hm (by omega) (by omega)) rfl okX5_bidAt ml_X5_35 hm.i hm.k (by decide) rfl (Nat.le_of_ble_eq_true rfl) (Nat.le_of_ble_eq_true rfl) ?_
      refine zw_if_le (tgt := 24) dX5_bidsBy_17 (by decide) (fun c17 => ?_) (fun c17 => ?_)
      · refine zw_iconst (v := nI 0) dX5_bidsBy_24 (by decide) ?_
        refine zw_iadd dX5_bidsBy_25 ?_
        refine zw_istore_n dX5_bidsBy_26 (by decide) ?_
        refine zw_iincn dX5_bidsBy_27 rfl (by decide) ?_
        refine zw_goto (tgt := 4) dX5_bidsBy_30 (by decide) ?_
        exact WP.sub (ih4 (k + 1) (by omega)) ⟨rfl, rfl, (hd_eq (by simp [sm, p01, *])), rfl, trivial⟩
      · refine zw_iconst (v := nI 1) dX5_bidsBy_20 (by decide) ?_
        refine zw_goto (tgt := 25) dX5_bidsBy_21 (by decide) ?_
        refine zw_iadd dX5_bidsBy_25 ?_
        refine zw_istore_n dX5_bidsBy_26 (by decide) ?_
        refine zw_iincn dX5_bidsBy_27 rfl (by decide) ?_
        refine zw_goto (tgt := 4) dX5_bidsBy_30 (by decide) ?_
        exact WP.sub (ih4 (k + 1) (by omega)) ⟨rfl, rfl, (hd_eq (by simp [sm, p01, *])), rfl, trivial⟩
  exact WP.sub (L4 (96) 0 (by omega)) ⟨rfl, rfl, rfl, rfl, trivial⟩
def frL (D : Mem) (m p : Nat) : Nat → Int32
  | 0 => D (m + 1) (8 + 7 * p + 0)
  | s + 1 => frL D m p s - (aF (dm D m p s) (nI 0) + aF (dm D m p s) (nI 1))
set_option maxRecDepth 100000 in
set_option maxHeartbeats 4000000 in
theorem c_X5_free {sh : Sh} {D : Mem} {m : Nat} (hm : IsMo sh m) {p : Nat} (hp : p < 12) : Calls mX5_free 2 0 0 [.inr (some (m)), .inl (nI (p))] sh (D) (some (.inl (frL D m p 96))) sh (D) := by
  refine Calls.of plX5 (Nat.le_of_ble_eq_true rfl) ?_
  show WP mX5_free 2 0 0 0 [some (.inr (some (m))), some (.inl (nI (p))), none, none] [] sh (D) (some (.inl (frL D m p 96))) sh (D)
  refine zw_aload_n dX5_free_0 rfl ?_
  refine zw_iload_n dX5_free_1 rfl ?_
  refine zw_iconst (v := nI 0) dX5_free_2 (by decide) ?_
  refine zw_cVi dX5_free_3 (c_X5_of hm (by omega) (by omega)) rfl okX5_of ml_X5_43 hm.i hm.k (by decide) rfl (Nat.le_of_ble_eq_true rfl) (Nat.le_of_ble_eq_true rfl) ?_
  refine zw_istore_n dX5_free_6 (by decide) ?_
  refine zw_iconst (v := nI 0) dX5_free_7 (by decide) ?_
  refine zw_istore_n dX5_free_8 (by decide) ?_
  have L9 : ∀ (n_9 k : Nat), k + n_9 = 96 → WP mX5_free 2 0 0 9 [some (.inr (some (m))), some (.inl (nI (p))), some (.inl (frL D m p (k))), some (.inl (nI (k)))] [] sh (D) (some (.inl (frL D m p 96))) sh (D) := by
    intro n_9
    induction n_9 with
    | zero =>
      intro k hk9
      have ek9 : 96 = k := by omega
      subst ek9
      refine zw_iload_n dX5_free_9 rfl ?_
      refine zw_bipush (v := nI 96) dX5_free_10 (by decide) ?_
      refine zw_icmp_ge_n (tgt := 39) dX5_free_12 (by decide) (by omega) (by omega) (fun c12 => ?_) (fun c12 => by omega)
      refine zw_iload_n dX5_free_39 rfl ?_
      exact zw_iretE dX5_free_40 rfl (rfl) rfl (rfl)
    | succ n_9 ih9 =>
      intro k hk9
      have hlt9 : k < 96 := by omega
      refine zw_iload_n dX5_free_9 rfl ?_
      refine zw_bipush (v := nI 96) dX5_free_10 (by decide) ?_
      refine zw_icmp_ge_n (tgt := 39) dX5_free_12 (by decide) (by omega) (by omega) (fun c12 => by omega) (fun c12 => ?_)
      refine zw_iload_n dX5_free_15 rfl ?_
      refine zw_aload_n dX5_free_16 rfl ?_
      refine zw_iload_n dX5_free_17 rfl ?_
      refine zw_iload_n dX5_free_18 rfl ?_
      refine zw_iconst (v := nI 0) dX5_free_19 (by decide) ?_
      refine zw_cVi dX5_free_20 (c_X5_amount hm (by omega) (by omega) _) rfl okX5_amount ml_X5_39 hm.i hm.k (by decide) rfl (Nat.le_of_ble_eq_true rfl) (Nat.le_of_ble_eq_true rfl) ?_
      refine zw_aload_n dX5_free_23 rfl ?_
      refine zw_iload_n dX5_free_24 rfl ?_
      refine zw_iload_n dX5_free_25 rfl ?_
      refine zw_iconst (v := nI 1) dX5_free_26 (by decide) ?_
      refine zw_cVi dX5_free_27 (c_X5_amount hm (by omega) (by omega) _) rfl okX5_amount ml_X5_39 hm.i hm.k (by decide) rfl (Nat.le_of_ble_eq_true rfl) (Nat.le_of_ble_eq_true rfl) ?_
      refine zw_iadd dX5_free_30 ?_
      refine zw_isub dX5_free_31 ?_
      refine zw_istore_n dX5_free_32 (by decide) ?_
      refine zw_iincn dX5_free_33 rfl (by decide) ?_
      refine zw_goto (tgt := 9) dX5_free_36 (by decide) ?_
      exact WP.sub (ih9 (k + 1) (by omega)) ⟨rfl, rfl, rfl, rfl, trivial⟩
  exact WP.sub (L9 (96) 0 (by omega)) ⟨rfl, rfl, rfl, rfl, trivial⟩
set_option maxRecDepth 100000 in
set_option maxHeartbeats 4000000 in
theorem c_X5_noisy {sh : Sh} {D : Mem} {m : Nat} (hm : IsMo sh m)  : Calls mX5_noisy 1 0 0 [.inr (some (m))] sh (D) (some (.inl (sm (fun s => D (m + 1) (92 + 5 * s + 0)) 96))) sh (D) := by
  refine Calls.of plX5 (Nat.le_of_ble_eq_true rfl) ?_
  show WP mX5_noisy 1 0 0 0 [some (.inr (some (m))), none, none] [] sh (D) (some (.inl (sm (fun s => D (m + 1) (92 + 5 * s + 0)) 96))) sh (D)
  refine zw_iconst (v := nI 0) dX5_noisy_0 (by decide) ?_
  refine zw_istore_n dX5_noisy_1 (by decide) ?_
  refine zw_iconst (v := nI 0) dX5_noisy_2 (by decide) ?_
  refine zw_istore_n dX5_noisy_3 (by decide) ?_
  have L4 : ∀ (n_4 k : Nat), k + n_4 = 96 → WP mX5_noisy 1 0 0 4 [some (.inr (some (m))), some (.inl (sm (fun s => D (m + 1) (92 + 5 * s + 0)) (k))), some (.inl (nI (k)))] [] sh (D) (some (.inl (sm (fun s => D (m + 1) (92 + 5 * s + 0)) 96))) sh (D) := by
    intro n_4
    induction n_4 with
    | zero =>
      intro k hk4
      have ek4 : 96 = k := by omega
      subst ek4
      refine zw_iload_n dX5_noisy_4 rfl ?_
      refine zw_bipush (v := nI 96) dX5_noisy_5 (by decide) ?_
      refine zw_icmp_ge_n (tgt := 25) dX5_noisy_7 (by decide) (by omega) (by omega) (fun c7 => ?_) (fun c7 => by omega)
      refine zw_iload_n dX5_noisy_25 rfl ?_
      exact zw_iretE dX5_noisy_26 rfl (rfl) rfl (rfl)
    | succ n_4 ih4 =>
      intro k hk4
      have hlt4 : k < 96 := by omega
      refine zw_iload_n dX5_noisy_4 rfl ?_
      refine zw_bipush (v := nI 96) dX5_noisy_5 (by decide) ?_
      refine zw_icmp_ge_n (tgt := 25) dX5_noisy_7 (by decide) (by omega) (by omega) (fun c7 => by omega) (fun c7 => ?_)
      refine zw_iload_n dX5_noisy_10 rfl ?_
      refine zw_aload_n dX5_noisy_11 rfl ?_
      refine zw_iload_n dX5_noisy_12 rfl ?_
      refine zw_iconst (v := nI 0) dX5_noisy_13 (by decide) ?_
      refine zw_cVi dX5_noisy_14 (c_X5_slotOf hm (by omega) (by omega)) rfl okX5_slotOf ml_X5_46 hm.i hm.k (by decide) rfl (Nat.le_of_ble_eq_true rfl) (Nat.le_of_ble_eq_true rfl) ?_
      refine zw_iadd dX5_noisy_17 ?_
      refine zw_istore_n dX5_noisy_18 (by decide) ?_
      refine zw_iincn dX5_noisy_19 rfl (by decide) ?_
      refine zw_goto (tgt := 4) dX5_noisy_22 (by decide) ?_
      exact WP.sub (ih4 (k + 1) (by omega)) ⟨rfl, rfl, rfl, trivial⟩
  exact WP.sub (L4 (96) 0 (by omega)) ⟨rfl, rfl, rfl, trivial⟩
/-! ===== the reference: rows that are copied ===== -/
/-- row a becomes g in its first n places, from off on -/
def fcO (D : Mem) (a off : Nat) (g : Nat → Int32) (n : Nat) : Mem := fun b => if b = a then (fun j => if off ≤ j ∧ j < off + n then g (j - off) else D a j) else D b
theorem fcO_0 {D : Mem} {a off : Nat} {g : Nat → Int32} : fcO D a off g 0 = D := by
  funext b j
  by_cases h : b = a
  · subst h
    have e : ¬ (off ≤ j ∧ j < off + 0) := by omega
    simp only [fcO, if_true, if_neg e]
  · simp [fcO, h]
theorem fcO_s {D : Mem} {a off n : Nat} {g : Nat → Int32} {x : Int32} (hx : x = g n) : up (fcO D a off g n) a (off + n) x = fcO D a off g (n + 1) := by
  subst hx
  funext b j
  by_cases h : b = a
  · subst h
    by_cases hj : j = off + n
    · subst hj
      have e : off ≤ off + n ∧ off + n < off + (n + 1) := by omega
      simp only [up, upd, fcO, if_true, if_pos e, Nat.add_sub_cancel_left]
    · have e : (off ≤ j ∧ j < off + (n + 1)) ↔ (off ≤ j ∧ j < off + n) := by omega
      simp only [up, upd, fcO, if_true, if_neg hj]
      by_cases h2 : off ≤ j ∧ j < off + n
      · rw [if_pos h2, if_pos (e.mpr h2)]
      · rw [if_neg h2, if_neg (fun z => h2 (e.mp z))]
  · simp [up, fcO, h]
theorem fcO_ne {D : Mem} {a off n b : Nat} {g : Nat → Int32} (h : b ≠ a) : fcO D a off g n b = D b := by simp [fcO, h]
theorem fcO_in {D : Mem} {a off n j : Nat} {g : Nat → Int32} (h : off ≤ j ∧ j < off + n) : fcO D a off g n a j = g (j - off) := by simp only [fcO, if_true, if_pos h]
theorem fcO_out {D : Mem} {a off n j : Nat} {g : Nat → Int32} (h : ¬ (off ≤ j ∧ j < off + n)) : fcO D a off g n a j = D a j := by simp only [fcO, if_true, if_neg h]
theorem fcO_s0 {D : Mem} {a n : Nat} {g : Nat → Int32} {x : Int32} (hx : x = g n) : up (fcO D a 0 g n) a n x = fcO D a 0 g (n + 1) := by
  have h := fcO_s (D := D) (a := a) (off := 0) (n := n) hx
  rw [Nat.zero_add] at h
  exact h
def asM (D : Mem) (m : Nat) : Mem := fcO D (m + 3) 0 (D (m + 1)) 1724
def baM (D : Mem) (m : Nat) : Mem := fcO D (m + 1) 0 (D (m + 3)) 1724
set_option maxRecDepth 100000 in
set_option maxHeartbeats 4000000 in
theorem c_X5_asides {sh : Sh} {D : Mem} {m : Nat} (hm : IsMo sh m)  : Calls mX5_asides 0 0 0 [.inr (some (m))] sh (D) (none) sh (asM D m) := by
  refine Calls.of plX5 (Nat.le_of_ble_eq_true rfl) ?_
  show WP mX5_asides 0 0 0 0 [some (.inr (some (m))), none] [] sh (D) (none) sh (asM D m)
  refine zw_iconst (v := nI 0) dX5_asides_0 (by decide) ?_
  refine zw_istore_n dX5_asides_1 (by decide) ?_
  refine zw_mem (C2 := fcO D (m + 3) 0 (D (m + 1)) 0) fcO_0.symm ?_
  have L2 : ∀ (n_2 k : Nat), k + n_2 = 1724 → WP mX5_asides 0 0 0 2 [some (.inr (some (m))), some (.inl (nI (k)))] [] sh (fcO D (m + 3) 0 (D (m + 1)) (k)) (none) sh (asM D m) := by
    intro n_2
    induction n_2 with
    | zero =>
      intro k hk2
      have ek2 : 1724 = k := by omega
      subst ek2
      refine zw_iload_n dX5_asides_2 rfl ?_
      refine zw_sipush (v := nI 1724) dX5_asides_3 (by decide) ?_
      refine zw_icmp_ge_n (tgt := 27) dX5_asides_6 (by decide) (by omega) (by omega) (fun c6 => ?_) (fun c6 => by omega)
      exact zw_vretE dX5_asides_27 rfl rfl rfl (rfl)
    | succ n_2 ih2 =>
      intro k hk2
      have hlt2 : k < 1724 := by omega
      refine zw_iload_n dX5_asides_2 rfl ?_
      refine zw_sipush (v := nI 1724) dX5_asides_3 (by decide) ?_
      refine zw_icmp_ge_n (tgt := 27) dX5_asides_6 (by decide) (by omega) (by omega) (fun c6 => by omega) (fun c6 => ?_)
      refine zw_aload_n dX5_asides_9 rfl ?_
      refine zw_getR (j := 3) (kd := 5) dX5_asides_10 hm.i hm.k (by decide) (by decide) fl_X5_16 rfl hm.r3 ?_
      refine zw_iload_n dX5_asides_13 rfl ?_
      refine zw_aload_n dX5_asides_14 rfl ?_
      refine zw_getR (j := 0) (kd := 5) dX5_asides_15 hm.i hm.k (by decide) (by decide) fl_X5_7 rfl hm.r0 ?_
      refine zw_iload_n dX5_asides_18 rfl ?_
      refine zw_iald dX5_asides_19 hm.i0 hm.k0 hm.L0 rfl (by rw [hm.n0]; omega) ?_
      refine zw_iast dX5_asides_20 hm.i3 hm.k3 hm.L3 rfl (by rw [hm.n3]; omega) ?_
      refine zw_iincn dX5_asides_21 rfl (by decide) ?_
      refine zw_goto (tgt := 2) dX5_asides_24 (by decide) ?_
      refine zw_mem (C2 := fcO D (m + 3) 0 (D (m + 1)) (k + 1)) (fcO_s0 (by rw [fcO_ne (by omega)])) ?_
      exact WP.sub (ih2 (k + 1) (by omega)) ⟨rfl, rfl, trivial⟩
  exact WP.sub (L2 (1724) 0 (by omega)) ⟨rfl, rfl, trivial⟩
set_option maxRecDepth 100000 in
set_option maxHeartbeats 4000000 in
theorem c_X5_backs {sh : Sh} {D : Mem} {m : Nat} (hm : IsMo sh m)  : Calls mX5_backs 0 0 0 [.inr (some (m))] sh (D) (none) sh (baM D m) := by
  refine Calls.of plX5 (Nat.le_of_ble_eq_true rfl) ?_
  show WP mX5_backs 0 0 0 0 [some (.inr (some (m))), none] [] sh (D) (none) sh (baM D m)
  refine zw_iconst (v := nI 0) dX5_backs_0 (by decide) ?_
  refine zw_istore_n dX5_backs_1 (by decide) ?_
  refine zw_mem (C2 := fcO D (m + 1) 0 (D (m + 3)) 0) fcO_0.symm ?_
  have L2 : ∀ (n_2 k : Nat), k + n_2 = 1724 → WP mX5_backs 0 0 0 2 [some (.inr (some (m))), some (.inl (nI (k)))] [] sh (fcO D (m + 1) 0 (D (m + 3)) (k)) (none) sh (baM D m) := by
    intro n_2
    induction n_2 with
    | zero =>
      intro k hk2
      have ek2 : 1724 = k := by omega
      subst ek2
      refine zw_iload_n dX5_backs_2 rfl ?_
      refine zw_sipush (v := nI 1724) dX5_backs_3 (by decide) ?_
      refine zw_icmp_ge_n (tgt := 27) dX5_backs_6 (by decide) (by omega) (by omega) (fun c6 => ?_) (fun c6 => by omega)
      exact zw_vretE dX5_backs_27 rfl rfl rfl (rfl)
    | succ n_2 ih2 =>
      intro k hk2
      have hlt2 : k < 1724 := by omega
      refine zw_iload_n dX5_backs_2 rfl ?_
      refine zw_sipush (v := nI 1724) dX5_backs_3 (by decide) ?_
      refine zw_icmp_ge_n (tgt := 27) dX5_backs_6 (by decide) (by omega) (by omega) (fun c6 => by omega) (fun c6 => ?_)
      refine zw_aload_n dX5_backs_9 rfl ?_
      refine zw_getR (j := 0) (kd := 5) dX5_backs_10 hm.i hm.k (by decide) (by decide) fl_X5_7 rfl hm.r0 ?_
      refine zw_iload_n dX5_backs_13 rfl ?_
      refine zw_aload_n dX5_backs_14 rfl ?_
      refine zw_getR (j := 3) (kd := 5) dX5_backs_15 hm.i hm.k (by decide) (by decide) fl_X5_16 rfl hm.r3 ?_
      refine zw_iload_n dX5_backs_18 rfl ?_
      refine zw_iald dX5_backs_19 hm.i3 hm.k3 hm.L3 rfl (by rw [hm.n3]; omega) ?_
      refine zw_iast dX5_backs_20 hm.i0 hm.k0 hm.L0 rfl (by rw [hm.n0]; omega) ?_
      refine zw_iincn dX5_backs_21 rfl (by decide) ?_
      refine zw_goto (tgt := 2) dX5_backs_24 (by decide) ?_
      refine zw_mem (C2 := fcO D (m + 1) 0 (D (m + 3)) (k + 1)) (fcO_s0 (by rw [fcO_ne (by omega)])) ?_
      exact WP.sub (ih2 (k + 1) (by omega)) ⟨rfl, rfl, trivial⟩
  exact WP.sub (L2 (1724) 0 (by omega)) ⟨rfl, rfl, trivial⟩
def swN (D : Mem) (m n : Nat) : Mem := fcO (fcO D (m + 1) 0 (D (m + 3)) n) (m + 3) 0 (D (m + 1)) n
theorem swN_0 {D : Mem} {m : Nat} : swN D m 0 = D := by unfold swN; rw [fcO_0, fcO_0]
theorem fc_comm {D : Mem} {a b n j off : Nat} {g : Nat → Int32} {x : Int32} (h : a ≠ b) : up (fcO D b off g n) a j x = fcO (up D a j x) b off g n := by
  funext c i
  by_cases hc : c = a
  · subst hc
    simp [up, upd, fcO, h]
  · by_cases hb : c = b
    · subst hb
      simp [up, fcO, hc]
    · simp [up, fcO, hc, hb]
theorem swN_s {D : Mem} {m n : Nat} : up (up (swN D m n) (m + 1) n (swN D m n (m + 3) n)) (m + 3) n (swN D m n (m + 1) n) = swN D m (n + 1) := by
  have e3 : swN D m n (m + 3) n = D (m + 3) n := by
    unfold swN
    rw [fcO_out (by omega), fcO_ne (by omega)]
  have e1 : swN D m n (m + 1) n = D (m + 1) n := by
    unfold swN
    rw [fcO_ne (by omega), fcO_out (by omega)]
  rw [e3, e1]
  unfold swN
  rw [fc_comm (by omega), fcO_s0 (n := n) (g := D (m + 3)) rfl, fcO_s0 (n := n) (g := D (m + 1)) rfl]
def swM (D : Mem) (m : Nat) : Mem := swN D m 1724
set_option maxRecDepth 100000 in
set_option maxHeartbeats 4000000 in
theorem c_X5_swaps {sh : Sh} {D : Mem} {m : Nat} (hm : IsMo sh m)  : Calls mX5_swaps 0 0 0 [.inr (some (m))] sh (D) (none) sh (swM D m) := by
  refine Calls.of plX5 (Nat.le_of_ble_eq_true rfl) ?_
  show WP mX5_swaps 0 0 0 0 [some (.inr (some (m))), none, none] [] sh (D) (none) sh (swM D m)
  refine zw_iconst (v := nI 0) dX5_swaps_0 (by decide) ?_
  refine zw_istore_n dX5_swaps_1 (by decide) ?_
  refine zw_mem (C2 := swN D m 0) swN_0.symm ?_
  have L2 : ∀ (n_2 k : Nat), k + n_2 = 1724 → WP mX5_swaps 0 0 0 2 [some (.inr (some (m))), some (.inl (nI (k))), none] [] sh (swN D m (k)) (none) sh (swM D m) := by
    intro n_2
    induction n_2 with
    | zero =>
      intro k hk2
      have ek2 : 1724 = k := by omega
      subst ek2
      refine zw_iload_n dX5_swaps_2 rfl ?_
      refine zw_sipush (v := nI 1724) dX5_swaps_3 (by decide) ?_
      refine zw_icmp_ge_n (tgt := 41) dX5_swaps_6 (by decide) (by omega) (by omega) (fun c6 => ?_) (fun c6 => by omega)
      exact zw_vretE dX5_swaps_41 rfl rfl rfl (rfl)
    | succ n_2 ih2 =>
      intro k hk2
      have hlt2 : k < 1724 := by omega
      refine zw_iload_n dX5_swaps_2 rfl ?_
      refine zw_sipush (v := nI 1724) dX5_swaps_3 (by decide) ?_
      refine zw_icmp_ge_n (tgt := 41) dX5_swaps_6 (by decide) (by omega) (by omega) (fun c6 => by omega) (fun c6 => ?_)
      refine zw_aload_n dX5_swaps_9 rfl ?_
      refine zw_getR (j := 0) (kd := 5) dX5_swaps_10 hm.i hm.k (by decide) (by decide) fl_X5_7 rfl hm.r0 ?_
      refine zw_iload_n dX5_swaps_13 rfl ?_
      refine zw_iald dX5_swaps_14 hm.i0 hm.k0 hm.L0 rfl (by rw [hm.n0]; omega) ?_
      refine zw_istore_n dX5_swaps_15 (by decide) ?_
      refine zw_aload_n dX5_swaps_16 rfl ?_
      refine zw_getR (j := 0) (kd := 5) dX5_swaps_17 hm.i hm.k (by decide) (by decide) fl_X5_7 rfl hm.r0 ?_
      refine zw_iload_n dX5_swaps_20 rfl ?_
      refine zw_aload_n dX5_swaps_21 rfl ?_
      refine zw_getR (j := 3) (kd := 5) dX5_swaps_22 hm.i hm.k (by decide) (by decide) fl_X5_16 rfl hm.r3 ?_
      refine zw_iload_n dX5_swaps_25 rfl ?_
      refine zw_iald dX5_swaps_26 hm.i3 hm.k3 hm.L3 rfl (by rw [hm.n3]; omega) ?_
      refine zw_iast dX5_swaps_27 hm.i0 hm.k0 hm.L0 rfl (by rw [hm.n0]; omega) ?_
      refine zw_aload_n dX5_swaps_28 rfl ?_
      refine zw_getR (j := 3) (kd := 5) dX5_swaps_29 hm.i hm.k (by decide) (by decide) fl_X5_16 rfl hm.r3 ?_
      refine zw_iload_n dX5_swaps_32 rfl ?_
      refine zw_iload_n dX5_swaps_33 rfl ?_
      refine zw_iast dX5_swaps_34 hm.i3 hm.k3 hm.L3 rfl (by rw [hm.n3]; omega) ?_
      refine zw_iincn dX5_swaps_35 rfl (by decide) ?_
      refine zw_goto (tgt := 2) dX5_swaps_38 (by decide) ?_
      refine zw_mem (C2 := swN D m (k + 1)) (by rw [← swN_s]) ?_
      exact WP.sub (ih2 (k + 1) (by omega)) ⟨rfl, rfl, trivial⟩
  exact WP.sub (L2 (1724) 0 (by omega)) ⟨rfl, rfl, trivial⟩
def ntS (D : Mem) (m : Nat) (z : Nat) : Mem := if z = 5 then up (fcO D (m + 2) 0 (fun j => D (m + 2) (j + 1724)) 6896) m 2 (nI 4) else D
def ntZ (z : Nat) : Nat := if z = 5 then 4 else z
def ntM (D : Mem) (m z : Nat) : Mem := up (fcO (ntS D m z) (m + 2) (1724 * ntZ z) (ntS D m z (m + 1)) 1724) m 2 (nI (ntZ z + 1))
set_option maxRecDepth 100000 in
set_option maxHeartbeats 4000000 in
theorem c_X5_notes {sh : Sh} {D : Mem} {m : Nat} (hm : IsMo sh m) {z : Nat} (hz : D m 2 = nI z) (hz5 : z ≤ 5) : Calls mX5_notes 0 0 0 [.inr (some (m))] sh (D) (none) sh (ntM D m z) := by
  refine Calls.of plX5 (Nat.le_of_ble_eq_true rfl) ?_
  show WP mX5_notes 0 0 0 0 [some (.inr (some (m))), none] [] sh (D) (none) sh (ntM D m z)
  refine zw_aload_n dX5_notes_0 rfl ?_
  refine zw_getIv (j := 2) (kd := 5) (v := (nI (z))) dX5_notes_1 hm.i hm.k (by decide) (by decide) fl_X5_49 rfl hz ?_
  refine zw_iconst (v := nI 5) dX5_notes_4 (by decide) ?_
  refine zw_icmp_ne_n (tgt := 46) dX5_notes_5 (by decide) (by omega) (by omega) (fun c5 => ?_) (fun c5 => ?_)
  · refine zw_iconst (v := nI 0) dX5_notes_46 (by decide) ?_
    refine zw_istore_n dX5_notes_47 (by decide) ?_
    refine zw_mem (C2 := fcO (ntS D m z) (m + 2) (1724 * ntZ z) (ntS D m z (m + 1)) 0) ?_ ?_
    · rw [fcO_0]; unfold ntS; rw [if_neg (by omega)]
    have hz4 : ntZ z = z := by unfold ntZ; rw [if_neg (by omega)]
    have L48 : ∀ (n_48 k : Nat), k + n_48 = 1724 → WP mX5_notes 0 0 0 48 [some (.inr (some (m))), some (.inl (nI (k)))] [] sh (fcO (ntS D m z) (m + 2) (1724 * ntZ z) (ntS D m z (m + 1)) (k)) (none) sh (ntM D m z) := by
      intro n_48
      induction n_48 with
      | zero =>
        intro k hk48
        have ek48 : 1724 = k := by omega
        subst ek48
        refine zw_iload_n dX5_notes_48 rfl ?_
        refine zw_sipush (v := nI 1724) dX5_notes_49 (by decide) ?_
        refine zw_icmp_ge_n (tgt := 82) dX5_notes_52 (by decide) (by omega) (by omega) (fun c52 => ?_) (fun c52 => by omega)
        refine zw_aload_n dX5_notes_82 rfl ?_
        refine zw_dup dX5_notes_83 ?_
        refine zw_getIv (j := 2) (kd := 5) (v := (nI (ntZ z))) dX5_notes_84 hm.i hm.k (by decide) (by decide) fl_X5_49 rfl (by rw [fcO_ne (by omega)]; unfold ntS; rw [if_neg (by omega), hz4]; exact hz) ?_
        refine zw_iconst (v := nI 1) dX5_notes_87 (by decide) ?_
        refine zw_iaddn dX5_notes_88 ?_
        refine zw_putI (j := 2) (kd := 5) dX5_notes_89 hm.i hm.k (by decide) (by decide) fl_X5_49 rfl rfl rfl ?_
        exact zw_vretE dX5_notes_92 rfl rfl rfl (rfl)
      | succ n_48 ih48 =>
        intro k hk48
        have hlt48 : k < 1724 := by omega
        refine zw_iload_n dX5_notes_48 rfl ?_
        refine zw_sipush (v := nI 1724) dX5_notes_49 (by decide) ?_
        refine zw_icmp_ge_n (tgt := 82) dX5_notes_52 (by decide) (by omega) (by omega) (fun c52 => by omega) (fun c52 => ?_)
        refine zw_aload_n dX5_notes_55 rfl ?_
        refine zw_getR (j := 1) (kd := 5) dX5_notes_56 hm.i hm.k (by decide) (by decide) fl_X5_13 rfl hm.r1 ?_
        refine zw_sipush (v := nI 1724) dX5_notes_59 (by decide) ?_
        refine zw_aload_n dX5_notes_62 rfl ?_
        refine zw_getIv (j := 2) (kd := 5) (v := (nI (ntZ z))) dX5_notes_63 hm.i hm.k (by decide) (by decide) fl_X5_49 rfl (by rw [fcO_ne (by omega)]; unfold ntS; rw [if_neg (by omega), hz4]; exact hz) ?_
        refine zw_imuln dX5_notes_66 ?_
        refine zw_iload_n dX5_notes_67 rfl ?_
        refine zw_iaddn dX5_notes_68 ?_
        refine zw_aload_n dX5_notes_69 rfl ?_
        refine zw_getR (j := 0) (kd := 5) dX5_notes_70 hm.i hm.k (by decide) (by decide) fl_X5_7 rfl hm.r0 ?_
        refine zw_iload_n dX5_notes_73 rfl ?_
        refine zw_iald dX5_notes_74 hm.i0 hm.k0 hm.L0 rfl (by rw [hm.n0]; omega) ?_
        refine zw_iast dX5_notes_75 hm.i1 hm.k1 hm.L1 rfl (by rw [hm.n1]; omega) ?_
        refine zw_iincn dX5_notes_76 rfl (by decide) ?_
        refine zw_goto (tgt := 48) dX5_notes_79 (by decide) ?_
        refine zw_mem (C2 := fcO (ntS D m z) (m + 2) (1724 * ntZ z) (ntS D m z (m + 1)) (k + 1)) (fcO_s (by rw [fcO_ne (by omega)])) ?_
        exact WP.sub (ih48 (k + 1) (by omega)) ⟨rfl, rfl, trivial⟩
    exact WP.sub (L48 (1724) 0 (by omega)) ⟨rfl, rfl, trivial⟩
  · refine zw_sipush (v := nI 1724) dX5_notes_8 (by decide) ?_
    refine zw_istore_n dX5_notes_11 (by decide) ?_
    refine zw_mem (C2 := fcO D (m + 2) 0 (fun j => D (m + 2) (j + 1724)) 0) fcO_0.symm ?_
    have L12 : ∀ (n_12 k : Nat), k + n_12 = 6896 → WP mX5_notes 0 0 0 12 [some (.inr (some (m))), some (.inl (nI (k + 1724)))] [] sh (fcO D (m + 2) 0 (fun j => D (m + 2) (j + 1724)) (k)) (none) sh (ntM D m z) := by
      intro n_12
      induction n_12 with
      | zero =>
        intro k hk12
        have ek12 : 6896 = k := by omega
        subst ek12
        refine zw_iload_n dX5_notes_12 rfl ?_
        refine zw_sipush (v := nI 8620) dX5_notes_13 (by decide) ?_
        refine zw_icmp_ge_n (tgt := 41) dX5_notes_16 (by decide) (by omega) (by omega) (fun c16 => ?_) (fun c16 => by omega)
        refine zw_aload_n dX5_notes_41 rfl ?_
        refine zw_iconst (v := nI 4) dX5_notes_42 (by decide) ?_
        refine zw_putI (j := 2) (kd := 5) dX5_notes_43 hm.i hm.k (by decide) (by decide) fl_X5_49 rfl rfl rfl ?_
        refine zw_iconst (v := nI 0) dX5_notes_46 (by decide) ?_
        refine zw_istore_n dX5_notes_47 (by decide) ?_
        refine zw_mem (C2 := fcO (ntS D m z) (m + 2) (1724 * ntZ z) (ntS D m z (m + 1)) 0) ?_ ?_
        · rw [fcO_0]; unfold ntS; rw [if_pos (by omega)]
        have hz4 : ntZ z = 4 := by unfold ntZ; rw [if_pos (by omega)]
        have L48 : ∀ (n_48 k : Nat), k + n_48 = 1724 → WP mX5_notes 0 0 0 48 [some (.inr (some (m))), some (.inl (nI (k)))] [] sh (fcO (ntS D m z) (m + 2) (1724 * ntZ z) (ntS D m z (m + 1)) (k)) (none) sh (ntM D m z) := by
          intro n_48
          induction n_48 with
          | zero =>
            intro k hk48
            have ek48 : 1724 = k := by omega
            subst ek48
            refine zw_iload_n dX5_notes_48 rfl ?_
            refine zw_sipush (v := nI 1724) dX5_notes_49 (by decide) ?_
            refine zw_icmp_ge_n (tgt := 82) dX5_notes_52 (by decide) (by omega) (by omega) (fun c52 => ?_) (fun c52 => by omega)
            refine zw_aload_n dX5_notes_82 rfl ?_
            refine zw_dup dX5_notes_83 ?_
            refine zw_getIv (j := 2) (kd := 5) (v := (nI (ntZ z))) dX5_notes_84 hm.i hm.k (by decide) (by decide) fl_X5_49 rfl (by rw [fcO_ne (by omega)]; unfold ntS; rw [if_pos (by omega), hz4]; exact up_eq) ?_
            refine zw_iconst (v := nI 1) dX5_notes_87 (by decide) ?_
            refine zw_iaddn dX5_notes_88 ?_
            refine zw_putI (j := 2) (kd := 5) dX5_notes_89 hm.i hm.k (by decide) (by decide) fl_X5_49 rfl rfl rfl ?_
            exact zw_vretE dX5_notes_92 rfl rfl rfl (rfl)
          | succ n_48 ih48 =>
            intro k hk48
            have hlt48 : k < 1724 := by omega
            refine zw_iload_n dX5_notes_48 rfl ?_
            refine zw_sipush (v := nI 1724) dX5_notes_49 (by decide) ?_
            refine zw_icmp_ge_n (tgt := 82) dX5_notes_52 (by decide) (by omega) (by omega) (fun c52 => by omega) (fun c52 => ?_)
            refine zw_aload_n dX5_notes_55 rfl ?_
            refine zw_getR (j := 1) (kd := 5) dX5_notes_56 hm.i hm.k (by decide) (by decide) fl_X5_13 rfl hm.r1 ?_
            refine zw_sipush (v := nI 1724) dX5_notes_59 (by decide) ?_
            refine zw_aload_n dX5_notes_62 rfl ?_
            refine zw_getIv (j := 2) (kd := 5) (v := (nI (ntZ z))) dX5_notes_63 hm.i hm.k (by decide) (by decide) fl_X5_49 rfl (by rw [fcO_ne (by omega)]; unfold ntS; rw [if_pos (by omega), hz4]; exact up_eq) ?_
            refine zw_imuln dX5_notes_66 ?_
            refine zw_iload_n dX5_notes_67 rfl ?_
            refine zw_iaddn dX5_notes_68 ?_
            refine zw_aload_n dX5_notes_69 rfl ?_
            refine zw_getR (j := 0) (kd := 5) dX5_notes_70 hm.i hm.k (by decide) (by decide) fl_X5_7 rfl hm.r0 ?_
            refine zw_iload_n dX5_notes_73 rfl ?_
            refine zw_iald dX5_notes_74 hm.i0 hm.k0 hm.L0 rfl (by rw [hm.n0]; omega) ?_
            refine zw_iast dX5_notes_75 hm.i1 hm.k1 hm.L1 rfl (by rw [hm.n1]; omega) ?_
            refine zw_iincn dX5_notes_76 rfl (by decide) ?_
            refine zw_goto (tgt := 48) dX5_notes_79 (by decide) ?_
            refine zw_mem (C2 := fcO (ntS D m z) (m + 2) (1724 * ntZ z) (ntS D m z (m + 1)) (k + 1)) (fcO_s (by rw [fcO_ne (by omega)])) ?_
            exact WP.sub (ih48 (k + 1) (by omega)) ⟨rfl, rfl, trivial⟩
        exact WP.sub (L48 (1724) 0 (by omega)) ⟨rfl, rfl, trivial⟩
      | succ n_12 ih12 =>
        intro k hk12
        have hlt12 : k < 6896 := by omega
        refine zw_iload_n dX5_notes_12 rfl ?_
        refine zw_sipush (v := nI 8620) dX5_notes_13 (by decide) ?_
        refine zw_icmp_ge_n (tgt := 41) dX5_notes_16 (by decide) (by omega) (by omega) (fun c16 => by omega) (fun c16 => ?_)
        refine zw_aload_n dX5_notes_19 rfl ?_
        refine zw_getR (j := 1) (kd := 5) dX5_notes_20 hm.i hm.k (by decide) (by decide) fl_X5_13 rfl hm.r1 ?_
        refine zw_iload_n dX5_notes_23 rfl ?_
        refine zw_sipush (v := nI 1724) dX5_notes_24 (by decide) ?_
        refine zw_isubn dX5_notes_27 (by omega) ?_
        refine zw_aload_n dX5_notes_28 rfl ?_
        refine zw_getR (j := 1) (kd := 5) dX5_notes_29 hm.i hm.k (by decide) (by decide) fl_X5_13 rfl hm.r1 ?_
        refine zw_iload_n dX5_notes_32 rfl ?_
        refine zw_iald dX5_notes_33 hm.i1 hm.k1 hm.L1 rfl (by rw [hm.n1]; omega) ?_
        refine zw_iast dX5_notes_34 hm.i1 hm.k1 hm.L1 rfl (by rw [hm.n1]; omega) ?_
        refine zw_iincn dX5_notes_35 rfl (by decide) ?_
        refine zw_goto (tgt := 12) dX5_notes_38 (by decide) ?_
        refine zw_mem (C2 := fcO D (m + 2) 0 (fun j => D (m + 2) (j + 1724)) (k + 1)) (by rw [Nat.add_sub_cancel]; exact fcO_s0 (by rw [fcO_out (by omega)])) ?_
        exact WP.sub (ih12 (k + 1) (by omega)) ⟨rfl, (hd_eq (congrArg nI (by omega))), trivial⟩
    exact WP.sub (L12 (6896) 0 (by omega)) ⟨rfl, rfl, trivial⟩
