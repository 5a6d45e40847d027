/-! ===== the static helpers ===== -/
theorem isW_t {v lo hi : Int32} (h1 : ¬ v < lo) (h2 : ¬ hi < v) : b01 (lo ≤ v ∧ v ≤ hi) = nI 1 := b01_t ⟨Int32.not_lt.mp h1, Int32.not_lt.mp h2⟩
theorem isW_f1 {v lo hi : Int32} (h1 : v < lo) : b01 (lo ≤ v ∧ v ≤ hi) = nI 0 := b01_f (fun z => absurd h1 (Int32.not_lt.mpr z.1))
theorem isW_f2 {v lo hi : Int32} (h1 : hi < v) : b01 (lo ≤ v ∧ v ≤ hi) = nI 0 := b01_f (fun z => absurd h1 (Int32.not_lt.mpr z.2))
set_option maxRecDepth 100000 in
set_option maxHeartbeats 1000000 in
theorem c_X4_isWithin {sh : Sh} {C : Mem} (v lo hi : Int32) : Calls mX4_isWithin 0 0 0 [.inl (v), .inl (lo), .inl (hi)] sh C (some (.inl (b01 (lo ≤ v ∧ v ≤ hi)))) sh (C) := by
  refine Calls.of plX4 (Nat.le_of_ble_eq_true rfl) ?_
  show WP mX4_isWithin 0 0 0 0 [some (.inl (v)), some (.inl (lo)), some (.inl (hi))] [] sh (C) (some (.inl (b01 (lo ≤ v ∧ v ≤ hi)))) sh (C)
  refine zw_iload_n dX4_isWithin_0 rfl ?_
  refine zw_iload_n dX4_isWithin_1 rfl ?_
  refine zw_icmp_lt (tgt := 14) dX4_isWithin_2 (by decide) (fun c2 => ?_) (fun c2 => ?_)
  · refine zw_iconst (v := nI 0) dX4_isWithin_14 (by decide) ?_
    exact zw_zretE dX4_isWithin_15 rfl (Or.inl rfl) (by rw [isW_f1 c2]) rfl (rfl)
  · refine zw_iload_n dX4_isWithin_5 rfl ?_
    refine zw_iload_n dX4_isWithin_6 rfl ?_
    refine zw_icmp_gt (tgt := 14) dX4_isWithin_7 (by decide) (fun c7 => ?_) (fun c7 => ?_)
    · refine zw_iconst (v := nI 0) dX4_isWithin_14 (by decide) ?_
      exact zw_zretE dX4_isWithin_15 rfl (Or.inl rfl) (by rw [isW_f2 c7]) rfl (rfl)
    · refine zw_iconst (v := nI 1) dX4_isWithin_10 (by decide) ?_
      refine zw_goto (tgt := 15) dX4_isWithin_11 (by decide) ?_
      exact zw_zretE dX4_isWithin_15 rfl (Or.inr rfl) (by rw [isW_t c2 c7]) rfl (rfl)
set_option maxRecDepth 100000 in
set_option maxHeartbeats 1000000 in
theorem c_X4_isStreet {sh : Sh} {C : Mem} (v : Int32) : Calls mX4_isStreet 1 0 0 [.inl (v)] sh C (some (.inl (b01 (nI 0 ≤ v ∧ v ≤ nI 3)))) sh (C) := by
  refine Calls.of plX4 (Nat.le_of_ble_eq_true rfl) ?_
  show WP mX4_isStreet 1 0 0 0 [some (.inl (v))] [] sh (C) (some (.inl (b01 (nI 0 ≤ v ∧ v ≤ nI 3)))) sh (C)
  refine zw_iload_n dX4_isStreet_0 rfl ?_
  refine zw_iconst (v := nI 0) dX4_isStreet_1 (by decide) ?_
  refine zw_iconst (v := nI 3) dX4_isStreet_2 (by decide) ?_
  refine zw_cSi dX4_isStreet_3 (c_X4_isWithin _ _ _) rfl okX4_isWithin ml_X4_38 (Nat.le_of_ble_eq_true rfl) (Nat.le_of_ble_eq_true rfl) ?_
  exact zw_zretE dX4_isStreet_6 rfl b01_01 (rfl) rfl (rfl)
def inS (a b : Int32) : Prop := (nI 0 ≤ a ∧ a ≤ nI 3) ∧ (nI 0 ≤ b ∧ b ≤ nI 23)
set_option maxRecDepth 100000 in
set_option maxHeartbeats 1000000 in
theorem c_X4_isSlot {sh : Sh} {C : Mem} (a b : Int32) : Calls mX4_isSlot 2 0 0 [.inl (a), .inl (b)] sh C (some (.inl (b01c (inS a b)))) sh (C) := by
  refine Calls.of plX4 (Nat.le_of_ble_eq_true rfl) ?_
  show WP mX4_isSlot 2 0 0 0 [some (.inl (a)), some (.inl (b))] [] sh (C) (some (.inl (b01c (inS a b)))) sh (C)
  refine zw_iload_n dX4_isSlot_0 rfl ?_
  refine zw_cSi dX4_isSlot_1 (c_X4_isStreet _) rfl okX4_isStreet ml_X4_209 (Nat.le_of_ble_eq_true rfl) (Nat.le_of_ble_eq_true rfl) ?_
  refine zw_if_eq_b (tgt := 21) dX4_isSlot_4 (by decide) (fun c4 => ?_) (fun c4 => ?_)
  · refine zw_iconst (v := nI 0) dX4_isSlot_21 (by decide) ?_
    exact zw_zretE dX4_isSlot_22 rfl (Or.inl rfl) (by rw [b01c_f (fun z => c4 z.1)]) rfl (rfl)
  · refine zw_iload_n dX4_isSlot_7 rfl ?_
    refine zw_iconst (v := nI 0) dX4_isSlot_8 (by decide) ?_
    refine zw_bipush (v := nI 23) dX4_isSlot_9 (by decide) ?_
    refine zw_cSi dX4_isSlot_11 (c_X4_isWithin _ _ _) rfl okX4_isWithin ml_X4_38 (Nat.le_of_ble_eq_true rfl) (Nat.le_of_ble_eq_true rfl) ?_
    refine zw_if_eq_b (tgt := 21) dX4_isSlot_14 (by decide) (fun c14 => ?_) (fun c14 => ?_)
    · refine zw_iconst (v := nI 0) dX4_isSlot_21 (by decide) ?_
      exact zw_zretE dX4_isSlot_22 rfl (Or.inl rfl) (by rw [b01c_f (fun z => c14 z.2)]) rfl (rfl)
    · refine zw_iconst (v := nI 1) dX4_isSlot_17 (by decide) ?_
      refine zw_goto (tgt := 22) dX4_isSlot_18 (by decide) ?_
      exact zw_zretE dX4_isSlot_22 rfl (Or.inr rfl) (by rw [b01c_t ⟨c4, c14⟩]) rfl (rfl)
set_option maxRecDepth 100000 in
set_option maxHeartbeats 1000000 in
theorem c_X4_isSide {sh : Sh} {C : Mem} (v : Int32) : Calls mX4_isSide 0 0 0 [.inl (v)] sh C (some (.inl (b01c (v = 0 ∨ v = nI 1)))) sh (C) := by
  refine Calls.of plX4 (Nat.le_of_ble_eq_true rfl) ?_
  show WP mX4_isSide 0 0 0 0 [some (.inl (v))] [] sh (C) (some (.inl (b01c (v = 0 ∨ v = nI 1)))) sh (C)
  refine zw_iload_n dX4_isSide_0 rfl ?_
  refine zw_if_eq (tgt := 9) dX4_isSide_1 (by decide) (fun c1 => ?_) (fun c1 => ?_)
  · refine zw_iconst (v := nI 1) dX4_isSide_9 (by decide) ?_
    refine zw_goto (tgt := 14) dX4_isSide_10 (by decide) ?_
    exact zw_zretE dX4_isSide_14 rfl (Or.inr rfl) (by rw [b01c_t (Or.inl c1)]) rfl (rfl)
  · refine zw_iload_n dX4_isSide_4 rfl ?_
    refine zw_iconst (v := nI 1) dX4_isSide_5 (by decide) ?_
    refine zw_icmp_ne (tgt := 13) dX4_isSide_6 (by decide) (fun c6 => ?_) (fun c6 => ?_)
    · refine zw_iconst (v := nI 0) dX4_isSide_13 (by decide) ?_
      exact zw_zretE dX4_isSide_14 rfl (Or.inl rfl) (by rw [b01c_f (fun z => z.elim c1 c6)]) rfl (rfl)
    · refine zw_iconst (v := nI 1) dX4_isSide_9 (by decide) ?_
      refine zw_goto (tgt := 14) dX4_isSide_10 (by decide) ?_
      exact zw_zretE dX4_isSide_14 rfl (Or.inr rfl) (by rw [b01c_t (Or.inr c6)]) rfl (rfl)
set_option maxRecDepth 100000 in
set_option maxHeartbeats 1000000 in
theorem c_X4_slotAt {sh : Sh} {C : Mem} (a b : Nat) : Calls mX4_slotAt 0 0 0 [.inl (nI (a)), .inl (nI (b))] sh C (some (.inl (nI (a * 24 + b)))) sh (C) := by
  refine Calls.of plX4 (Nat.le_of_ble_eq_true rfl) ?_
  show WP mX4_slotAt 0 0 0 0 [some (.inl (nI (a))), some (.inl (nI (b)))] [] sh (C) (some (.inl (nI (a * 24 + b)))) sh (C)
  refine zw_iload_n dX4_slotAt_0 rfl ?_
  refine zw_bipush (v := nI 24) dX4_slotAt_1 (by decide) ?_
  refine zw_imuln dX4_slotAt_3 ?_
  refine zw_iload_n dX4_slotAt_4 rfl ?_
  refine zw_iaddn dX4_slotAt_5 ?_
  exact zw_iretE dX4_slotAt_6 rfl (rfl) rfl (rfl)
def oS (x : Int32) : Int32 := if x = 0 then nI 1 else nI 0
set_option maxRecDepth 100000 in
set_option maxHeartbeats 1000000 in
theorem c_X4_otherSide {sh : Sh} {C : Mem} (v : Int32) : Calls mX4_otherSide 0 0 0 [.inl (v)] sh C (some (.inl (oS v))) sh (C) := by
  refine Calls.of plX4 (Nat.le_of_ble_eq_true rfl) ?_
  show WP mX4_otherSide 0 0 0 0 [some (.inl (v))] [] sh (C) (some (.inl (oS v))) sh (C)
  refine zw_iload_n dX4_otherSide_0 rfl ?_
  refine zw_if_ne (tgt := 8) dX4_otherSide_1 (by decide) (fun c1 => ?_) (fun c1 => ?_)
  · refine zw_iconst (v := nI 0) dX4_otherSide_8 (by decide) ?_
    exact zw_iretE dX4_otherSide_9 rfl (by simp [oS, c1]) rfl (rfl)
  · refine zw_iconst (v := nI 1) dX4_otherSide_4 (by decide) ?_
    refine zw_goto (tgt := 9) dX4_otherSide_5 (by decide) ?_
    exact zw_iretE dX4_otherSide_9 rfl (by simp [oS, c1]) rfl (rfl)
def fillM (C : Mem) (a : Nat) (v : Int32) (n : Nat) : Mem := fun b => if b = a then (fun j => if j < n then v else C a j) else C b
theorem fillM_0 {C : Mem} {a : Nat} {v : Int32} : fillM C a v 0 = C := by
  funext b j
  by_cases h : b = a <;> simp [fillM, h]
theorem fillM_s {C : Mem} {a n : Nat} {v : Int32} : up (fillM C a v n) a n v = fillM C a v (n + 1) := by
  funext b j
  by_cases h : b = a
  · subst h
    by_cases hj : j = n
    · simp [up, upd, fillM, hj]
    · have e : j < n + 1 ↔ j < n := by omega
      simp [up, upd, fillM, hj, e]
  · simp [up, fillM, h]
set_option maxRecDepth 100000 in
set_option maxHeartbeats 1000000 in
theorem c_J7_fill_53178 {sh : Sh} {C : Mem} {a N : Nat} (hi : a < sh.1) (hk : sh.2.1 a = 6) (hn : sh.2.2.1 a = N) (hL : N < 2 ^ 31) (v : Int32) : Calls mJ7_fill_53178 0 0 0 [.inr (some (a)), .inl (v)] sh C (none) sh (fillM C a v N) := by
  refine Calls.of plJ7 (Nat.le_of_ble_eq_true rfl) ?_
  show WP mJ7_fill_53178 0 0 0 0 [some (.inr (some (a))), some (.inl (v)), none, none] [] sh (C) (none) sh (fillM C a v N)
  refine zw_iconst (v := nI 0) dJ7_fill_53178_0 (by decide) ?_
  refine zw_istore_n dJ7_fill_53178_1 (by decide) ?_
  refine zw_aload_n dJ7_fill_53178_2 rfl ?_
  refine zw_alen dJ7_fill_53178_3 hi hk ?_
  rw [hn]
  refine zw_istore_n dJ7_fill_53178_4 (by decide) ?_
  refine zw_mem (C2 := fillM C a v 0) fillM_0.symm ?_
  have L5 : ∀ (n_5 k : Nat), k + n_5 = N → WP mJ7_fill_53178 0 0 0 5 [some (.inr (some (a))), some (.inl (v)), some (.inl (nI (k))), some (.inl (nI (N)))] [] sh (fillM C a v (k)) (none) sh (fillM C a v N) := by
    intro n_5
    induction n_5 with
    | zero =>
      intro k hk5
      have ek5 : N = k := by omega
      subst ek5
      refine zw_iload_n dJ7_fill_53178_5 rfl ?_
      refine zw_iload_n dJ7_fill_53178_6 rfl ?_
      refine zw_icmp_ge_n (tgt := 20) dJ7_fill_53178_7 (by decide) (by omega) (by omega) (fun c7 => ?_) (fun c7 => by omega)
      exact zw_vretE dJ7_fill_53178_20 rfl rfl rfl (rfl)
    | succ n_5 ih5 =>
      intro k hk5
      have hlt5 : k < N := by omega
      refine zw_iload_n dJ7_fill_53178_5 rfl ?_
      refine zw_iload_n dJ7_fill_53178_6 rfl ?_
      refine zw_icmp_ge_n (tgt := 20) dJ7_fill_53178_7 (by decide) (by omega) (by omega) (fun c7 => by omega) (fun c7 => ?_)
      refine zw_aload_n dJ7_fill_53178_10 rfl ?_
      refine zw_iload_n dJ7_fill_53178_11 rfl ?_
      refine zw_iload_n dJ7_fill_53178_12 rfl ?_
      refine zw_iast dJ7_fill_53178_13 hi hk (by rw [hn]; exact hL) rfl (by rw [hn]; omega) ?_
      refine zw_iincn dJ7_fill_53178_14 rfl (by decide) ?_
      refine zw_goto (tgt := 5) dJ7_fill_53178_17 (by decide) ?_
      refine zw_mem (C2 := fillM C a v (k + 1)) (fillM_s) ?_
      exact WP.sub (ih5 (k + 1) (by omega)) ⟨rfl, rfl, rfl, rfl, trivial⟩
  exact WP.sub (L5 (N) 0 (by omega)) ⟨rfl, rfl, rfl, rfl, trivial⟩
/-! ===== State ===== -/
def Wf (C : Mem) (q P : Nat) : Prop := C q 3 = nI P ∧ P ≤ 12 ∧ ∀ p, p < 12 → vp_in (C (q + 4) p) 4
theorem Wf.of {C C' : Mem} {q P : Nat} (h : Wf C q P) (h1 : C' q 3 = C q 3) (h2 : C' (q + 4) = C (q + 4)) : Wf C' q P := ⟨by rw [h1]; exact h.1, h.2.1, by rw [h2]; exact h.2.2⟩
theorem Wf.wr {C : Mem} {q P a j : Nat} {x : Int32} (h : Wf C q P) (h1 : q ≠ a) (h2 : q + 4 ≠ a) : Wf (up C a j x) q P := h.of (by rw [up_ne h1]) (up_ne h2)
theorem Wf.wrf {C : Mem} {q P j : Nat} {x : Int32} (h : Wf C q P) (h1 : j ≠ 3) : Wf (up C q j x) q P := h.of (up_ne2 (Ne.symm h1)) (up_ne (by omega))
def mn (x z : Int32) : Int32 := if z < x then z else x
def mx (x z : Int32) : Int32 := if x < z then z else x
def n01 (x : Int32) : Int32 := if x = 0 then nI 0 else nI 1
def bF (m sd : Int32) : Int32 := if sd = nI 1 then (if nI 1000 < m then m - nI 1000 else nI 0) else (if nI 1000 < m then nI 0 else m)
/-- the mark of the bid of p for s -/
abbrev bm (C : Mem) (q p s : Nat) : Int32 := C (q + 9) (p * 96 + s)
abbrev bA (C : Mem) (q p s : Nat) : Int32 := bF (bm C q p s) (nI 0) + bF (bm C q p s) (nI 1)
abbrev fM (C : Mem) (q p : Nat) : Int32 := C (q + 1) p - C (q + 2) p
set_option maxRecDepth 100000 in
set_option maxHeartbeats 1000000 in
theorem c_X3_markedBid {sh : Sh} {C : Mem} {q p s : Nat} (hq : IsSt sh q) (hp : p < 12) (hs : s < 96) : Calls mX3_markedBid 0 0 0 [.inr (some (q)), .inl (nI (p)), .inl (nI (s))] sh C (some (.inl (bm C q p s))) sh (C) := by
  refine Calls.of plX3 (Nat.le_of_ble_eq_true rfl) ?_
  show WP mX3_markedBid 0 0 0 0 [some (.inr (some (q))), some (.inl (nI (p))), some (.inl (nI (s)))] [] sh (C) (some (.inl (bm C q p s))) sh (C)
  refine zw_aload_n dX3_markedBid_0 rfl ?_
  refine zw_getR (j := 12) (kd := 3) dX3_markedBid_1 hq.i hq.k (by decide) (by decide) fl_X3_40 rfl hq.r8 ?_
  refine zw_iload_n dX3_markedBid_4 rfl ?_
  refine zw_bipush (v := nI 96) dX3_markedBid_5 (by decide) ?_
  refine zw_imuln dX3_markedBid_7 ?_
  refine zw_iload_n dX3_markedBid_8 rfl ?_
  refine zw_iaddn dX3_markedBid_9 ?_
  refine zw_iald dX3_markedBid_10 hq.i8 hq.k8 hq.L8 rfl (by rw [hq.n8]; omega) ?_
  exact zw_iretE dX3_markedBid_11 rfl (rfl) rfl (rfl)
set_option maxRecDepth 100000 in
set_option maxHeartbeats 1000000 in
theorem c_X3_bidFor {sh : Sh} {C : Mem} {q p s : Nat} (hq : IsSt sh q) (hp : p < 12) (hs : s < 96) (sd : Int32) : Calls mX3_bidFor 0 0 0 [.inr (some (q)), .inl (nI (p)), .inl (nI (s)), .inl (sd)] sh C (some (.inl (bF (bm C q p s) sd))) sh (C) := by
  refine Calls.of plX3 (Nat.le_of_ble_eq_true rfl) ?_
  show WP mX3_bidFor 0 0 0 0 [some (.inr (some (q))), some (.inl (nI (p))), some (.inl (nI (s))), some (.inl (sd)), none, none] [] sh (C) (some (.inl (bF (bm C q p s) sd))) sh (C)
  refine zw_aload_n dX3_bidFor_0 rfl ?_
  refine zw_getR (j := 12) (kd := 3) dX3_bidFor_1 hq.i hq.k (by decide) (by decide) fl_X3_40 rfl hq.r8 ?_
  refine zw_iload_n dX3_bidFor_4 rfl ?_
  refine zw_bipush (v := nI 96) dX3_bidFor_5 (by decide) ?_
  refine zw_imuln dX3_bidFor_7 ?_
  refine zw_iload_n dX3_bidFor_8 rfl ?_
  refine zw_iaddn dX3_bidFor_9 ?_
  refine zw_iald dX3_bidFor_10 hq.i8 hq.k8 hq.L8 rfl (by rw [hq.n8]; omega) ?_
  refine zw_istore dX3_bidFor_11 (by decide) ?_
  refine zw_iload dX3_bidFor_13 rfl ?_
  refine zw_sipush (v := nI 1000) dX3_bidFor_15 (by decide) ?_
  refine zw_icmp_le (tgt := 25) dX3_bidFor_18 (by decide) (fun c18 => ?_) (fun c18 => ?_)
  · refine zw_iconst (v := nI 0) dX3_bidFor_25 (by decide) ?_
    refine zw_istore dX3_bidFor_26 (by decide) ?_
    refine zw_iload_n dX3_bidFor_28 rfl ?_
    refine zw_iconst (v := nI 1) dX3_bidFor_29 (by decide) ?_
    refine zw_icmp_ne (tgt := 49) dX3_bidFor_30 (by decide) (fun c30 => ?_) (fun c30 => ?_)
    · refine zw_iload dX3_bidFor_49 rfl ?_
      refine zw_if_eq_n (tgt := 58) dX3_bidFor_51 (by decide) (by omega) (fun c51 => ?_) (fun c51 => by omega)
      refine zw_iload dX3_bidFor_58 rfl ?_
      exact zw_iretE dX3_bidFor_60 rfl (by simp [bF, bm, *]) rfl (rfl)
    · refine zw_iload dX3_bidFor_33 rfl ?_
      refine zw_if_eq_n (tgt := 47) dX3_bidFor_35 (by decide) (by omega) (fun c35 => ?_) (fun c35 => by omega)
      refine zw_iconst (v := nI 0) dX3_bidFor_47 (by decide) ?_
      exact zw_iretE dX3_bidFor_48 rfl (by simp [bF, bm, *]) rfl (rfl)
  · refine zw_iconst (v := nI 1) dX3_bidFor_21 (by decide) ?_
    refine zw_goto (tgt := 26) dX3_bidFor_22 (by decide) ?_
    refine zw_istore dX3_bidFor_26 (by decide) ?_
    refine zw_iload_n dX3_bidFor_28 rfl ?_
    refine zw_iconst (v := nI 1) dX3_bidFor_29 (by decide) ?_
    refine zw_icmp_ne (tgt := 49) dX3_bidFor_30 (by decide) (fun c30 => ?_) (fun c30 => ?_)
    · refine zw_iload dX3_bidFor_49 rfl ?_
      refine zw_if_eq_n (tgt := 58) dX3_bidFor_51 (by decide) (by omega) (fun c51 => by omega) (fun c51 => ?_)
      refine zw_iconst (v := nI 0) dX3_bidFor_54 (by decide) ?_
      refine zw_goto (tgt := 60) dX3_bidFor_55 (by decide) ?_
      exact zw_iretE dX3_bidFor_60 rfl (by simp [bF, bm, *]) rfl (rfl)
    · refine zw_iload dX3_bidFor_33 rfl ?_
      refine zw_if_eq_n (tgt := 47) dX3_bidFor_35 (by decide) (by omega) (fun c35 => by omega) (fun c35 => ?_)
      refine zw_iload dX3_bidFor_38 rfl ?_
      refine zw_sipush (v := nI 1000) dX3_bidFor_40 (by decide) ?_
      refine zw_isub dX3_bidFor_43 ?_
      refine zw_goto (tgt := 48) dX3_bidFor_44 (by decide) ?_
      exact zw_iretE dX3_bidFor_48 rfl (by simp [bF, bm, *]) rfl (rfl)
set_option maxRecDepth 100000 in
set_option maxHeartbeats 1000000 in
theorem c_X3_bidAmount {sh : Sh} {C : Mem} {q p s : Nat} (hq : IsSt sh q) (hp : p < 12) (hs : s < 96) : Calls mX3_bidAmount 1 0 0 [.inr (some (q)), .inl (nI (p)), .inl (nI (s))] sh C (some (.inl (bA C q p s))) sh (C) := by
  refine Calls.of plX3 (Nat.le_of_ble_eq_true rfl) ?_
  show WP mX3_bidAmount 1 0 0 0 [some (.inr (some (q))), some (.inl (nI (p))), some (.inl (nI (s)))] [] sh (C) (some (.inl (bA C q p s))) sh (C)
  refine zw_aload_n dX3_bidAmount_0 rfl ?_
  refine zw_iload_n dX3_bidAmount_1 rfl ?_
  refine zw_iload_n dX3_bidAmount_2 rfl ?_
  refine zw_iconst (v := nI 0) dX3_bidAmount_3 (by decide) ?_
  refine zw_cVi dX3_bidAmount_4 (c_X3_bidFor hq (by omega) (by omega) _) rfl okX3_bidFor ml_X3_76 hq.i hq.k (by decide) rfl (Nat.le_of_ble_eq_true rfl) (Nat.le_of_ble_eq_true rfl) ?_
  refine zw_aload_n dX3_bidAmount_7 rfl ?_
  refine zw_iload_n dX3_bidAmount_8 rfl ?_
  refine zw_iload_n dX3_bidAmount_9 rfl ?_
  refine zw_iconst (v := nI 1) dX3_bidAmount_10 (by decide) ?_
  refine zw_cVi dX3_bidAmount_11 (c_X3_bidFor hq (by omega) (by omega) _) rfl okX3_bidFor ml_X3_76 hq.i hq.k (by decide) rfl (Nat.le_of_ble_eq_true rfl) (Nat.le_of_ble_eq_true rfl) ?_
  refine zw_iadd dX3_bidAmount_14 ?_
  exact zw_iretE dX3_bidAmount_15 rfl (rfl) rfl (rfl)
set_option maxRecDepth 100000 in
set_option maxHeartbeats 1000000 in
theorem c_X3_freeMoney {sh : Sh} {C : Mem} {q p : Nat} (hq : IsSt sh q) (hp : p < 12) : Calls mX3_freeMoney 0 0 0 [.inr (some (q)), .inl (nI (p))] sh C (some (.inl (fM C q p))) sh (C) := by
  refine Calls.of plX3 (Nat.le_of_ble_eq_true rfl) ?_
  show WP mX3_freeMoney 0 0 0 0 [some (.inr (some (q))), some (.inl (nI (p)))] [] sh (C) (some (.inl (fM C q p))) sh (C)
  refine zw_aload_n dX3_freeMoney_0 rfl ?_
  refine zw_getR (j := 4) (kd := 3) dX3_freeMoney_1 hq.i hq.k (by decide) (by decide) fl_X3_15 rfl hq.r0 ?_
  refine zw_iload_n dX3_freeMoney_4 rfl ?_
  refine zw_iald dX3_freeMoney_5 hq.i0 hq.k0 hq.L0 rfl (by rw [hq.n0]; omega) ?_
  refine zw_aload_n dX3_freeMoney_6 rfl ?_
  refine zw_getR (j := 5) (kd := 3) dX3_freeMoney_7 hq.i hq.k (by decide) (by decide) fl_X3_19 rfl hq.r1 ?_
  refine zw_iload_n dX3_freeMoney_10 rfl ?_
  refine zw_iald dX3_freeMoney_11 hq.i1 hq.k1 hq.L1 rfl (by rw [hq.n1]; omega) ?_
  refine zw_isub dX3_freeMoney_12 ?_
  exact zw_iretE dX3_freeMoney_13 rfl (rfl) rfl (rfl)
def bE (C : Mem) (q p s : Nat) (am : Int32) : Int32 := if nI 0 ≤ am ∧ am ≤ nI 999 then (if 0 < C (q + 3) p ∨ fM C q p + bA C q p s < am then (-2) else nI 0) else (-1)
set_option maxRecDepth 100000 in
set_option maxHeartbeats 1000000 in
theorem c_X3_bidError {sh : Sh} {C : Mem} {q p s : Nat} (hq : IsSt sh q) (hp : p < 12) (hs : s < 96) (am : Int32) : Calls mX3_bidError 2 0 0 [.inr (some (q)), .inl (nI (p)), .inl (nI (s)), .inl (am)] sh C (some (.inl (bE C q p s am))) sh (C) := by
  refine Calls.of plX3 (Nat.le_of_ble_eq_true rfl) ?_
  show WP mX3_bidError 2 0 0 0 [some (.inr (some (q))), some (.inl (nI (p))), some (.inl (nI (s))), some (.inl (am)), none] [] sh (C) (some (.inl (bE C q p s am))) sh (C)
  refine zw_iload_n dX3_bidError_0 rfl ?_
  refine zw_iconst (v := nI 0) dX3_bidError_1 (by decide) ?_
  refine zw_sipush (v := nI 999) dX3_bidError_2 (by decide) ?_
  refine zw_cNi dX3_bidError_5 (c_X4_isWithin _ _ _) rfl okX4_isWithin nl_X3_80 (Nat.le_of_ble_eq_true rfl) (Nat.le_of_ble_eq_true rfl) ?_
  refine zw_if_ne_b (tgt := 13) dX3_bidError_8 (by decide) (fun c8 => ?_) (fun c8 => ?_)
  · refine zw_aload_n dX3_bidError_13 rfl ?_
    refine zw_iload_n dX3_bidError_14 rfl ?_
    refine zw_cVi dX3_bidError_15 (c_X3_freeMoney hq (by omega)) rfl okX3_freeMoney ml_X3_84 hq.i hq.k (by decide) rfl (Nat.le_of_ble_eq_true rfl) (Nat.le_of_ble_eq_true rfl) ?_
    refine zw_aload_n dX3_bidError_18 rfl ?_
    refine zw_iload_n dX3_bidError_19 rfl ?_
    refine zw_iload_n dX3_bidError_20 rfl ?_
    refine zw_cVi dX3_bidError_21 (c_X3_bidAmount hq (by omega) (by omega)) rfl okX3_bidAmount ml_X3_88 hq.i hq.k (by decide) rfl (Nat.le_of_ble_eq_true rfl) (Nat.le_of_ble_eq_true rfl) ?_
    refine zw_iadd dX3_bidError_24 ?_
    refine zw_iload_n dX3_bidError_25 rfl ?_
    refine zw_icmp_ge (tgt := 33) dX3_bidError_26 (by decide) (fun c26 => ?_) (fun c26 => ?_)
    · refine zw_iconst (v := nI 0) dX3_bidError_33 (by decide) ?_
      refine zw_istore dX3_bidError_34 (by decide) ?_
      refine zw_aload_n dX3_bidError_36 rfl ?_
      refine zw_getR (j := 6) (kd := 3) dX3_bidError_37 hq.i hq.k (by decide) (by decide) fl_X3_22 rfl hq.r2 ?_
      refine zw_iload_n dX3_bidError_40 rfl ?_
      refine zw_iald dX3_bidError_41 hq.i2 hq.k2 hq.L2 rfl (by rw [hq.n2]; omega) ?_
      refine zw_if_gt (tgt := 50) dX3_bidError_42 (by decide) (fun c42 => ?_) (fun c42 => ?_)
      · refine zw_bipush (v := (-2)) dX3_bidError_50 (by decide) ?_
        refine zw_goto (tgt := 56) dX3_bidError_52 (by decide) ?_
        exact zw_iretE dX3_bidError_56 rfl (by simp [bE, *]) rfl (rfl)
      · refine zw_iload dX3_bidError_45 rfl ?_
        refine zw_if_eq_n (tgt := 55) dX3_bidError_47 (by decide) (by omega) (fun c47 => ?_) (fun c47 => by omega)
        refine zw_iconst (v := nI 0) dX3_bidError_55 (by decide) ?_
        exact zw_iretE dX3_bidError_56 rfl (by simp [bE, *]) rfl (rfl)
    · refine zw_iconst (v := nI 1) dX3_bidError_29 (by decide) ?_
      refine zw_goto (tgt := 34) dX3_bidError_30 (by decide) ?_
      refine zw_istore dX3_bidError_34 (by decide) ?_
      refine zw_aload_n dX3_bidError_36 rfl ?_
      refine zw_getR (j := 6) (kd := 3) dX3_bidError_37 hq.i hq.k (by decide) (by decide) fl_X3_22 rfl hq.r2 ?_
      refine zw_iload_n dX3_bidError_40 rfl ?_
      refine zw_iald dX3_bidError_41 hq.i2 hq.k2 hq.L2 rfl (by rw [hq.n2]; omega) ?_
      refine zw_if_gt (tgt := 50) dX3_bidError_42 (by decide) (fun c42 => ?_) (fun c42 => ?_)
      · refine zw_bipush (v := (-2)) dX3_bidError_50 (by decide) ?_
        refine zw_goto (tgt := 56) dX3_bidError_52 (by decide) ?_
        exact zw_iretE dX3_bidError_56 rfl (by simp [bE, *]) rfl (rfl)
      · refine zw_iload dX3_bidError_45 rfl ?_
        refine zw_if_eq_n (tgt := 55) dX3_bidError_47 (by decide) (by omega) (fun c47 => by omega) (fun c47 => ?_)
        refine zw_bipush (v := (-2)) dX3_bidError_50 (by decide) ?_
        refine zw_goto (tgt := 56) dX3_bidError_52 (by decide) ?_
        exact zw_iretE dX3_bidError_56 rfl (by simp [bE, *]) rfl (rfl)
  · refine zw_iconst (v := (-1)) dX3_bidError_11 (by decide) ?_
    exact zw_iretE dX3_bidError_12 rfl (by simp [bE, *]) rfl (rfl)
def mkB (sd am : Int32) : Int32 := if sd = nI 1 ∧ 0 < am then nI 1000 + am else am
def pB (C : Mem) (q p s : Nat) (sd am : Int32) : Mem := up (up C (q + 2) p (C (q + 2) p + (am - bA C q p s))) (q + 9) (p * 96 + s) (mkB sd am)
set_option maxRecDepth 100000 in
set_option maxHeartbeats 1000000 in
theorem c_X3_placeBid {sh : Sh} {C : Mem} {q p s : Nat} (hq : IsSt sh q) (hp : p < 12) (hs : s < 96) (sd am : Int32) : Calls mX3_placeBid 2 0 0 [.inr (some (q)), .inl (nI (p)), .inl (nI (s)), .inl (sd), .inl (am)] sh C (some (.inl (fM (pB C q p s sd am) q p))) sh (pB C q p s sd am) := by
  refine Calls.of plX3 (Nat.le_of_ble_eq_true rfl) ?_
  show WP mX3_placeBid 2 0 0 0 [some (.inr (some (q))), some (.inl (nI (p))), some (.inl (nI (s))), some (.inl (sd)), some (.inl (am)), none] [] sh (C) (some (.inl (fM (pB C q p s sd am) q p))) sh (pB C q p s sd am)
  refine zw_aload_n dX3_placeBid_0 rfl ?_
  refine zw_getR (j := 5) (kd := 3) dX3_placeBid_1 hq.i hq.k (by decide) (by decide) fl_X3_19 rfl hq.r1 ?_
  refine zw_iload_n dX3_placeBid_4 rfl ?_
  refine zw_dup2 dX3_placeBid_5 ?_
  refine zw_iald dX3_placeBid_6 hq.i1 hq.k1 hq.L1 rfl (by rw [hq.n1]; omega) ?_
  refine zw_iload dX3_placeBid_7 rfl ?_
  refine zw_aload_n dX3_placeBid_9 rfl ?_
  refine zw_iload_n dX3_placeBid_10 rfl ?_
  refine zw_iload_n dX3_placeBid_11 rfl ?_
  refine zw_cVi dX3_placeBid_12 (c_X3_bidAmount hq (by omega) (by omega)) rfl okX3_bidAmount ml_X3_88 hq.i hq.k (by decide) rfl (Nat.le_of_ble_eq_true rfl) (Nat.le_of_ble_eq_true rfl) ?_
  refine zw_isub dX3_placeBid_15 ?_
  refine zw_iadd dX3_placeBid_16 ?_
  refine zw_iast dX3_placeBid_17 hq.i1 hq.k1 hq.L1 rfl (by rw [hq.n1]; omega) ?_
  refine zw_iload_n dX3_placeBid_18 rfl ?_
  refine zw_iconst (v := nI 1) dX3_placeBid_19 (by decide) ?_
  refine zw_icmp_ne (tgt := 32) dX3_placeBid_20 (by decide) (fun c20 => ?_) (fun c20 => ?_)
  · refine zw_iconst (v := nI 0) dX3_placeBid_32 (by decide) ?_
    refine zw_istore dX3_placeBid_33 (by decide) ?_
    refine zw_aload_n dX3_placeBid_35 rfl ?_
    refine zw_getR (j := 12) (kd := 3) dX3_placeBid_36 hq.i hq.k (by decide) (by decide) fl_X3_40 rfl hq.r8 ?_
    refine zw_iload_n dX3_placeBid_39 rfl ?_
    refine zw_bipush (v := nI 96) dX3_placeBid_40 (by decide) ?_
    refine zw_imuln dX3_placeBid_42 ?_
    refine zw_iload_n dX3_placeBid_43 rfl ?_
    refine zw_iaddn dX3_placeBid_44 ?_
    refine zw_iload dX3_placeBid_45 rfl ?_
    refine zw_if_eq_n (tgt := 59) dX3_placeBid_47 (by decide) (by omega) (fun c47 => ?_) (fun c47 => by omega)
    refine zw_iload dX3_placeBid_59 rfl ?_
    refine zw_iast dX3_placeBid_61 hq.i8 hq.k8 hq.L8 rfl (by rw [hq.n8]; omega) ?_
    refine zw_aload_n dX3_placeBid_62 rfl ?_
    refine zw_iload_n dX3_placeBid_63 rfl ?_
    refine zw_cVi dX3_placeBid_64 (c_X3_freeMoney hq (by omega)) rfl okX3_freeMoney ml_X3_84 hq.i hq.k (by decide) rfl (Nat.le_of_ble_eq_true rfl) (Nat.le_of_ble_eq_true rfl) ?_
    exact zw_iretE dX3_placeBid_67 rfl (by simp [pB, mkB, *]) rfl (by simp [pB, mkB, *])
  · refine zw_iload dX3_placeBid_23 rfl ?_
    refine zw_if_le (tgt := 32) dX3_placeBid_25 (by decide) (fun c25 => ?_) (fun c25 => ?_)
    · refine zw_iconst (v := nI 0) dX3_placeBid_32 (by decide) ?_
      refine zw_istore dX3_placeBid_33 (by decide) ?_
      refine zw_aload_n dX3_placeBid_35 rfl ?_
      refine zw_getR (j := 12) (kd := 3) dX3_placeBid_36 hq.i hq.k (by decide) (by decide) fl_X3_40 rfl hq.r8 ?_
      refine zw_iload_n dX3_placeBid_39 rfl ?_
      refine zw_bipush (v := nI 96) dX3_placeBid_40 (by decide) ?_
      refine zw_imuln dX3_placeBid_42 ?_
      refine zw_iload_n dX3_placeBid_43 rfl ?_
      refine zw_iaddn dX3_placeBid_44 ?_
      refine zw_iload dX3_placeBid_45 rfl ?_
      refine zw_if_eq_n (tgt := 59) dX3_placeBid_47 (by decide) (by omega) (fun c47 => ?_) (fun c47 => by omega)
      refine zw_iload dX3_placeBid_59 rfl ?_
      refine zw_iast dX3_placeBid_61 hq.i8 hq.k8 hq.L8 rfl (by rw [hq.n8]; omega) ?_
      refine zw_aload_n dX3_placeBid_62 rfl ?_
      refine zw_iload_n dX3_placeBid_63 rfl ?_
      refine zw_cVi dX3_placeBid_64 (c_X3_freeMoney hq (by omega)) rfl okX3_freeMoney ml_X3_84 hq.i hq.k (by decide) rfl (Nat.le_of_ble_eq_true rfl) (Nat.le_of_ble_eq_true rfl) ?_
      exact zw_iretE dX3_placeBid_67 rfl (by simp [pB, mkB, *]) rfl (by simp [pB, mkB, *])
    · refine zw_iconst (v := nI 1) dX3_placeBid_28 (by decide) ?_
      refine zw_goto (tgt := 33) dX3_placeBid_29 (by decide) ?_
      refine zw_istore dX3_placeBid_33 (by decide) ?_
      refine zw_aload_n dX3_placeBid_35 rfl ?_
      refine zw_getR (j := 12) (kd := 3) dX3_placeBid_36 hq.i hq.k (by decide) (by decide) fl_X3_40 rfl hq.r8 ?_
      refine zw_iload_n dX3_placeBid_39 rfl ?_
      refine zw_bipush (v := nI 96) dX3_placeBid_40 (by decide) ?_
      refine zw_imuln dX3_placeBid_42 ?_
      refine zw_iload_n dX3_placeBid_43 rfl ?_
      refine zw_iaddn dX3_placeBid_44 ?_
      refine zw_iload dX3_placeBid_45 rfl ?_
      refine zw_if_eq_n (tgt := 59) dX3_placeBid_47 (by decide) (by omega) (fun c47 => by omega) (fun c47 => ?_)
      refine zw_sipush (v := nI 1000) dX3_placeBid_50 (by decide) ?_
      refine zw_iload dX3_placeBid_53 rfl ?_
      refine zw_iadd dX3_placeBid_55 ?_
      refine zw_goto (tgt := 61) dX3_placeBid_56 (by decide) ?_
      refine zw_iast dX3_placeBid_61 hq.i8 hq.k8 hq.L8 rfl (by rw [hq.n8]; omega) ?_
      refine zw_aload_n dX3_placeBid_62 rfl ?_
      refine zw_iload_n dX3_placeBid_63 rfl ?_
      refine zw_cVi dX3_placeBid_64 (c_X3_freeMoney hq (by omega)) rfl okX3_freeMoney ml_X3_84 hq.i hq.k (by decide) rfl (Nat.le_of_ble_eq_true rfl) (Nat.le_of_ble_eq_true rfl) ?_
      exact zw_iretE dX3_placeBid_67 rfl (by simp [pB, mkB, *]) rfl (by simp [pB, mkB, *])
set_option maxRecDepth 100000 in
set_option maxHeartbeats 1000000 in
theorem c_X3_bidsBy {sh : Sh} {C : Mem} {q p : Nat} (hq : IsSt sh q) (hp : p < 12) : Calls mX3_bidsBy 1 0 0 [.inr (some (q)), .inl (nI (p))] sh C (some (.inl (sm (fun s => n01 (bm C q p s)) 96))) sh (C) := by
  refine Calls.of plX3 (Nat.le_of_ble_eq_true rfl) ?_
  show WP mX3_bidsBy 1 0 0 0 [some (.inr (some (q))), some (.inl (nI (p))), none, none] [] sh (C) (some (.inl (sm (fun s => n01 (bm C q p s)) 96))) sh (C)
  refine zw_iconst (v := nI 0) dX3_bidsBy_0 (by decide) ?_
  refine zw_istore_n dX3_bidsBy_1 (by decide) ?_
  refine zw_iconst (v := nI 0) dX3_bidsBy_2 (by decide) ?_
  refine zw_istore_n dX3_bidsBy_3 (by decide) ?_
  have L4 : ∀ (n_4 k : Nat), k + n_4 = 96 → WP mX3_bidsBy 1 0 0 4 [some (.inr (some (q))), some (.inl (nI (p))), some (.inl (sm (fun s => n01 (bm C q p s)) (k))), some (.inl (nI (k)))] [] sh (C) (some (.inl (sm (fun s => n01 (bm C q p s)) 96))) sh (C) := by
    intro n_4
    induction n_4 with
    | zero =>
      intro k hk4
      have ek4 : 96 = k := by omega
      subst ek4
      refine zw_iload_n dX3_bidsBy_4 rfl ?_
      refine zw_bipush (v := nI 96) dX3_bidsBy_5 (by decide) ?_
      refine zw_icmp_ge_n (tgt := 33) dX3_bidsBy_7 (by decide) (by omega) (by omega) (fun c7 => ?_) (fun c7 => by omega)
      refine zw_iload_n dX3_bidsBy_33 rfl ?_
      exact zw_iretE dX3_bidsBy_34 rfl (rfl) rfl (rfl)
    | succ n_4 ih4 =>
      intro k hk4
      have hlt4 : k < 96 := by omega
      refine zw_iload_n dX3_bidsBy_4 rfl ?_
      refine zw_bipush (v := nI 96) dX3_bidsBy_5 (by decide) ?_
      refine zw_icmp_ge_n (tgt := 33) dX3_bidsBy_7 (by decide) (by omega) (by omega) (fun c7 => by omega) (fun c7 => ?_)
      refine zw_iload_n dX3_bidsBy_10 rfl ?_
      refine zw_aload_n dX3_bidsBy_11 rfl ?_
      refine zw_iload_n dX3_bidsBy_12 rfl ?_
      refine zw_iload_n dX3_bidsBy_13 rfl ?_
      refine zw_cVi dX3_bidsBy_14 (c_X3_markedBid hq (by omega) (by omega)) rfl okX3_markedBid ml_X3_92 hq.i hq.k (by decide) rfl (Nat.le_of_ble_eq_true rfl) (Nat.le_of_ble_eq_true rfl) ?_
      refine zw_if_ne (tgt := 24) dX3_bidsBy_17 (by decide) (fun c17 => ?_) (fun c17 => ?_)
      · refine zw_iconst (v := nI 1) dX3_bidsBy_24 (by decide) ?_
        refine zw_iadd dX3_bidsBy_25 ?_
        refine zw_istore_n dX3_bidsBy_26 (by decide) ?_
        refine zw_iincn dX3_bidsBy_27 rfl (by decide) ?_
        refine zw_goto (tgt := 4) dX3_bidsBy_30 (by decide) ?_
        exact WP.sub (ih4 (k + 1) (by omega)) ⟨rfl, rfl, (hd_eq (by simp [sm, n01, *])), rfl, trivial⟩
      · refine zw_iconst (v := nI 0) dX3_bidsBy_20 (by decide) ?_
        refine zw_goto (tgt := 25) dX3_bidsBy_21 (by decide) ?_
        refine zw_iadd dX3_bidsBy_25 ?_
        refine zw_istore_n dX3_bidsBy_26 (by decide) ?_
        refine zw_iincn dX3_bidsBy_27 rfl (by decide) ?_
        refine zw_goto (tgt := 4) dX3_bidsBy_30 (by decide) ?_
        exact WP.sub (ih4 (k + 1) (by omega)) ⟨rfl, rfl, (hd_eq (by simp [sm, n01, *])), rfl, trivial⟩
  exact WP.sub (L4 (96) 0 (by omega)) ⟨rfl, rfl, rfl, rfl, trivial⟩
set_option maxRecDepth 100000 in
set_option maxHeartbeats 1000000 in
theorem c_X3_bidsFor {sh : Sh} {C : Mem} {q P : Nat} (hq : IsSt sh q) (hw : Wf C q P) {s : Nat} (hs : s < 96) : Calls mX3_bidsFor 1 0 0 [.inr (some (q)), .inl (nI (s))] sh C (some (.inl (sm (fun p => n01 (bm C q p s)) P))) sh (C) := by
  refine Calls.of plX3 (Nat.le_of_ble_eq_true rfl) ?_
  show WP mX3_bidsFor 1 0 0 0 [some (.inr (some (q))), some (.inl (nI (s))), none, none] [] sh (C) (some (.inl (sm (fun p => n01 (bm C q p s)) P))) sh (C)
  have hP12 := hw.2.1
  refine zw_iconst (v := nI 0) dX3_bidsFor_0 (by decide) ?_
  refine zw_istore_n dX3_bidsFor_1 (by decide) ?_
  refine zw_iconst (v := nI 0) dX3_bidsFor_2 (by decide) ?_
  refine zw_istore_n dX3_bidsFor_3 (by decide) ?_
  have L4 : ∀ (n_4 k : Nat), k + n_4 = P → WP mX3_bidsFor 1 0 0 4 [some (.inr (some (q))), some (.inl (nI (s))), some (.inl (sm (fun p => n01 (bm C q p s)) (k))), some (.inl (nI (k)))] [] sh (C) (some (.inl (sm (fun p => n01 (bm C q p s)) P))) sh (C) := by
    intro n_4
    induction n_4 with
    | zero =>
      intro k hk4
      have ek4 : P = k := by omega
      subst ek4
      refine zw_iload_n dX3_bidsFor_4 rfl ?_
      refine zw_aload_n dX3_bidsFor_5 rfl ?_
      refine zw_getIv (j := 3) (kd := 3) (v := (nI (P))) dX3_bidsFor_6 hq.i hq.k (by decide) (by decide) fl_X3_67 rfl hw.1 ?_
      refine zw_icmp_ge_n (tgt := 35) dX3_bidsFor_9 (by decide) (by omega) (by omega) (fun c9 => ?_) (fun c9 => by omega)
      refine zw_iload_n dX3_bidsFor_35 rfl ?_
      exact zw_iretE dX3_bidsFor_36 rfl (rfl) rfl (rfl)
    | succ n_4 ih4 =>
      intro k hk4
      have hlt4 : k < P := by omega
      refine zw_iload_n dX3_bidsFor_4 rfl ?_
      refine zw_aload_n dX3_bidsFor_5 rfl ?_
      refine zw_getIv (j := 3) (kd := 3) (v := (nI (P))) dX3_bidsFor_6 hq.i hq.k (by decide) (by decide) fl_X3_67 rfl hw.1 ?_
      refine zw_icmp_ge_n (tgt := 35) dX3_bidsFor_9 (by decide) (by omega) (by omega) (fun c9 => by omega) (fun c9 => ?_)
      refine zw_iload_n dX3_bidsFor_12 rfl ?_
      refine zw_aload_n dX3_bidsFor_13 rfl ?_
      refine zw_iload_n dX3_bidsFor_14 rfl ?_
      refine zw_iload_n dX3_bidsFor_15 rfl ?_
      refine zw_cVi dX3_bidsFor_16 (c_X3_markedBid hq (by omega) (by omega)) rfl okX3_markedBid ml_X3_92 hq.i hq.k (by decide) rfl (Nat.le_of_ble_eq_true rfl) (Nat.le_of_ble_eq_true rfl) ?_
      refine zw_if_ne (tgt := 26) dX3_bidsFor_19 (by decide) (fun c19 => ?_) (fun c19 => ?_)
      · refine zw_iconst (v := nI 1) dX3_bidsFor_26 (by decide) ?_
        refine zw_iadd dX3_bidsFor_27 ?_
        refine zw_istore_n dX3_bidsFor_28 (by decide) ?_
        refine zw_iincn dX3_bidsFor_29 rfl (by decide) ?_
        refine zw_goto (tgt := 4) dX3_bidsFor_32 (by decide) ?_
        exact WP.sub (ih4 (k + 1) (by omega)) ⟨rfl, rfl, (hd_eq (by simp [sm, n01, *])), rfl, trivial⟩
      · refine zw_iconst (v := nI 0) dX3_bidsFor_22 (by decide) ?_
        refine zw_goto (tgt := 27) dX3_bidsFor_23 (by decide) ?_
        refine zw_iadd dX3_bidsFor_27 ?_
        refine zw_istore_n dX3_bidsFor_28 (by decide) ?_
        refine zw_iincn dX3_bidsFor_29 rfl (by decide) ?_
        refine zw_goto (tgt := 4) dX3_bidsFor_32 (by decide) ?_
        exact WP.sub (ih4 (k + 1) (by omega)) ⟨rfl, rfl, (hd_eq (by simp [sm, n01, *])), rfl, trivial⟩
  exact WP.sub (L4 (P) 0 (by omega)) ⟨rfl, rfl, rfl, rfl, trivial⟩
abbrev sB (C : Mem) (q P s : Nat) (sd : Int32) : Int32 := sm (fun p => bF (bm C q p s) sd) P
abbrev nB (C : Mem) (q P s : Nat) : Int32 := sm (fun p => n01 (bm C q p s)) P
set_option maxRecDepth 100000 in
set_option maxHeartbeats 1000000 in
theorem c_X3_sumOfBids {sh : Sh} {C : Mem} {q P : Nat} (hq : IsSt sh q) (hw : Wf C q P) {s : Nat} (hs : s < 96) (sd : Int32) : Calls mX3_sumOfBids 1 0 0 [.inr (some (q)), .inl (nI (s)), .inl (sd)] sh C (some (.inl (sB C q P s sd))) sh (C) := by
  refine Calls.of plX3 (Nat.le_of_ble_eq_true rfl) ?_
  show WP mX3_sumOfBids 1 0 0 0 [some (.inr (some (q))), some (.inl (nI (s))), some (.inl (sd)), none, none] [] sh (C) (some (.inl (sB C q P s sd))) sh (C)
  have hP12 := hw.2.1
  refine zw_iconst (v := nI 0) dX3_sumOfBids_0 (by decide) ?_
  refine zw_istore_n dX3_sumOfBids_1 (by decide) ?_
  refine zw_iconst (v := nI 0) dX3_sumOfBids_2 (by decide) ?_
  refine zw_istore dX3_sumOfBids_3 (by decide) ?_
  have L5 : ∀ (n_5 k : Nat), k + n_5 = P → WP mX3_sumOfBids 1 0 0 5 [some (.inr (some (q))), some (.inl (nI (s))), some (.inl (sd)), some (.inl (sm (fun p => bF (bm C q p s) sd) (k))), some (.inl (nI (k)))] [] sh (C) (some (.inl (sB C q P s sd))) sh (C) := by
    intro n_5
    induction n_5 with
    | zero =>
      intro k hk5
      have ek5 : P = k := by omega
      subst ek5
      refine zw_iload dX3_sumOfBids_5 rfl ?_
      refine zw_aload_n dX3_sumOfBids_7 rfl ?_
      refine zw_getIv (j := 3) (kd := 3) (v := (nI (P))) dX3_sumOfBids_8 hq.i hq.k (by decide) (by decide) fl_X3_67 rfl hw.1 ?_
      refine zw_icmp_ge_n (tgt := 31) dX3_sumOfBids_11 (by decide) (by omega) (by omega) (fun c11 => ?_) (fun c11 => by omega)
      refine zw_iload_n dX3_sumOfBids_31 rfl ?_
      exact zw_iretE dX3_sumOfBids_32 rfl (rfl) rfl (rfl)
    | succ n_5 ih5 =>
      intro k hk5
      have hlt5 : k < P := by omega
      refine zw_iload dX3_sumOfBids_5 rfl ?_
      refine zw_aload_n dX3_sumOfBids_7 rfl ?_
      refine zw_getIv (j := 3) (kd := 3) (v := (nI (P))) dX3_sumOfBids_8 hq.i hq.k (by decide) (by decide) fl_X3_67 rfl hw.1 ?_
      refine zw_icmp_ge_n (tgt := 31) dX3_sumOfBids_11 (by decide) (by omega) (by omega) (fun c11 => by omega) (fun c11 => ?_)
      refine zw_iload_n dX3_sumOfBids_14 rfl ?_
      refine zw_aload_n dX3_sumOfBids_15 rfl ?_
      refine zw_iload dX3_sumOfBids_16 rfl ?_
      refine zw_iload_n dX3_sumOfBids_18 rfl ?_
      refine zw_iload_n dX3_sumOfBids_19 rfl ?_
      refine zw_cVi dX3_sumOfBids_20 (c_X3_bidFor hq (by omega) (by omega) _) rfl okX3_bidFor ml_X3_76 hq.i hq.k (by decide) rfl (Nat.le_of_ble_eq_true rfl) (Nat.le_of_ble_eq_true rfl) ?_
      refine zw_iadd dX3_sumOfBids_23 ?_
      refine zw_istore_n dX3_sumOfBids_24 (by decide) ?_
      refine zw_iincn dX3_sumOfBids_25 rfl (by decide) ?_
      refine zw_goto (tgt := 5) dX3_sumOfBids_28 (by decide) ?_
      exact WP.sub (ih5 (k + 1) (by omega)) ⟨rfl, rfl, rfl, rfl, rfl, trivial⟩
  exact WP.sub (L5 (P) 0 (by omega)) ⟨rfl, rfl, rfl, rfl, rfl, trivial⟩
def rcv (C : Mem) (q p : Nat) (m : Int32) : Mem :=
  let t := mn (C (q + 3) p) m
  let C1 := up C (q + 3) p (C (q + 3) p - t)
  let C2 := up C1 (q + 15) (ixN (C1 (q + 4) p)) (C1 (q + 15) (ixN (C1 (q + 4) p)) + t)
  up C2 (q + 1) p (C2 (q + 1) p + (m - t))
theorem rcv_ne {C : Mem} {q p : Nat} {m : Int32} {b : Nat} (h1 : b ≠ q + 1) (h2 : b ≠ q + 3) (h3 : b ≠ q + 15) : rcv C q p m b = C b := by
  show up (up (up C _ _ _) _ _ _) _ _ _ b = _
  rw [up_ne h1, up_ne h3, up_ne h2]
theorem Wf.rc {C : Mem} {q P p : Nat} {m : Int32} (h : Wf C q P) : Wf (rcv C q p m) q P := h.of (by rw [rcv_ne (by omega) (by omega) (by omega)]) (rcv_ne (by omega) (by omega) (by omega))
set_option maxRecDepth 100000 in
set_option maxHeartbeats 1000000 in
theorem c_X3_receive {sh : Sh} {C : Mem} {q P : Nat} (hq : IsSt sh q) (hw : Wf C q P) {p : Nat} (hp : p < 12) (m : Int32) : Calls mX3_receive 1 0 0 [.inr (some (q)), .inl (nI (p)), .inl (m)] sh C (none) sh (rcv C q p m) := by
  refine Calls.of plX3 (Nat.le_of_ble_eq_true rfl) ?_
  show WP mX3_receive 1 0 0 0 [some (.inr (some (q))), some (.inl (nI (p))), some (.inl (m)), none] [] sh (C) (none) sh (rcv C q p m)
  refine zw_aload_n dX3_receive_0 rfl ?_
  refine zw_getR (j := 6) (kd := 3) dX3_receive_1 hq.i hq.k (by decide) (by decide) fl_X3_22 rfl hq.r2 ?_
  refine zw_iload_n dX3_receive_4 rfl ?_
  refine zw_iald dX3_receive_5 hq.i2 hq.k2 hq.L2 rfl (by rw [hq.n2]; omega) ?_
  refine zw_iload_n dX3_receive_6 rfl ?_
  refine zw_mmin dX3_receive_7 ml_X3_95 (by decide) (Nat.le_of_ble_eq_true rfl) ?_
  refine zw_istore_n dX3_receive_10 (by decide) ?_
  refine zw_aload_n dX3_receive_11 rfl ?_
  refine zw_getR (j := 6) (kd := 3) dX3_receive_12 hq.i hq.k (by decide) (by decide) fl_X3_22 rfl hq.r2 ?_
  refine zw_iload_n dX3_receive_15 rfl ?_
  refine zw_dup2 dX3_receive_16 ?_
  refine zw_iald dX3_receive_17 hq.i2 hq.k2 hq.L2 rfl (by rw [hq.n2]; omega) ?_
  refine zw_iload_n dX3_receive_18 rfl ?_
  refine zw_isub dX3_receive_19 ?_
  refine zw_iast dX3_receive_20 hq.i2 hq.k2 hq.L2 rfl (by rw [hq.n2]; omega) ?_
  refine zw_aload_n dX3_receive_21 rfl ?_
  refine zw_getR (j := 18) (kd := 3) dX3_receive_22 hq.i hq.k (by decide) (by decide) fl_X3_58 rfl hq.r14 ?_
  refine zw_aload_n dX3_receive_25 rfl ?_
  refine zw_getR (j := 7) (kd := 3) dX3_receive_26 hq.i hq.k (by decide) (by decide) fl_X3_25 rfl hq.r3 ?_
  refine zw_iload_n dX3_receive_29 rfl ?_
  refine zw_iald dX3_receive_30 hq.i3 hq.k3 hq.L3 rfl (by rw [hq.n3]; omega) ?_
  refine zw_dup2 dX3_receive_31 ?_
  refine zw_ialdx dX3_receive_32 hq.i14 hq.k14 hq.L14 (by rw [hq.n14]; exact (Wf.wr hw (by omega) (by omega)).2.2 _ hp) ?_
  refine zw_iload_n dX3_receive_33 rfl ?_
  refine zw_iadd dX3_receive_34 ?_
  refine zw_iastx dX3_receive_35 hq.i14 hq.k14 hq.L14 (by rw [hq.n14]; exact (Wf.wr hw (by omega) (by omega)).2.2 _ hp) ?_
  refine zw_aload_n dX3_receive_36 rfl ?_
  refine zw_getR (j := 4) (kd := 3) dX3_receive_37 hq.i hq.k (by decide) (by decide) fl_X3_15 rfl hq.r0 ?_
  refine zw_iload_n dX3_receive_40 rfl ?_
  refine zw_dup2 dX3_receive_41 ?_
  refine zw_iald dX3_receive_42 hq.i0 hq.k0 hq.L0 rfl (by rw [hq.n0]; omega) ?_
  refine zw_iload_n dX3_receive_43 rfl ?_
  refine zw_iload_n dX3_receive_44 rfl ?_
  refine zw_isub dX3_receive_45 ?_
  refine zw_iadd dX3_receive_46 ?_
  refine zw_iast dX3_receive_47 hq.i0 hq.k0 hq.L0 rfl (by rw [hq.n0]; omega) ?_
  exact zw_vretE dX3_receive_48 rfl rfl rfl (rfl)
def cbp (C : Mem) (q p : Nat) (am : Int32) : Prop := ¬ (am < 0 ∧ (0 < C (q + 3) p ∨ fM C q p < -am)) ∧ C (q + 1) p + am - (if 0 < am then mn (C (q + 3) p) am else nI 0) ≤ nI 10000000
set_option maxRecDepth 100000 in
set_option maxHeartbeats 1000000 in
theorem c_X3_canBePaid {sh : Sh} {C : Mem} {q p : Nat} (hq : IsSt sh q) (hp : p < 12) (am : Int32) : Calls mX3_canBePaid 1 0 0 [.inr (some (q)), .inl (nI (p)), .inl (am)] sh C (some (.inl (b01c (cbp C q p am)))) sh (C) := by
  refine Calls.of plX3 (Nat.le_of_ble_eq_true rfl) ?_
  show WP mX3_canBePaid 1 0 0 0 [some (.inr (some (q))), some (.inl (nI (p))), some (.inl (am)), none] [] sh (C) (some (.inl (b01c (cbp C q p am)))) sh (C)
  refine zw_iload_n dX3_canBePaid_0 rfl ?_
  refine zw_if_ge (tgt := 25) dX3_canBePaid_1 (by decide) (fun c1 => ?_) (fun c1 => ?_)
  · refine zw_iload_n dX3_canBePaid_25 rfl ?_
    refine zw_if_le (tgt := 42) dX3_canBePaid_26 (by decide) (fun c26 => ?_) (fun c26 => ?_)
    · refine zw_iconst (v := nI 0) dX3_canBePaid_42 (by decide) ?_
      refine zw_istore_n dX3_canBePaid_43 (by decide) ?_
      refine zw_aload_n dX3_canBePaid_44 rfl ?_
      refine zw_getR (j := 4) (kd := 3) dX3_canBePaid_45 hq.i hq.k (by decide) (by decide) fl_X3_15 rfl hq.r0 ?_
      refine zw_iload_n dX3_canBePaid_48 rfl ?_
      refine zw_iald dX3_canBePaid_49 hq.i0 hq.k0 hq.L0 rfl (by rw [hq.n0]; omega) ?_
      refine zw_iload_n dX3_canBePaid_50 rfl ?_
      refine zw_iadd dX3_canBePaid_51 ?_
      refine zw_iload_n dX3_canBePaid_52 rfl ?_
      refine zw_isub dX3_canBePaid_53 ?_
      refine zw_ldc (v := nI 10000000) dX3_canBePaid_54 cs_X3_100 ?_
      refine zw_icmp_gt (tgt := 63) dX3_canBePaid_56 (by decide) (fun c56 => ?_) (fun c56 => ?_)
      · refine zw_iconst (v := nI 0) dX3_canBePaid_63 (by decide) ?_
        exact zw_zretE dX3_canBePaid_64 rfl (Or.inl rfl) (by rw [b01c_f (fun z => by have z2 := z.2; rw [(if_neg c26)] at z2; exact absurd c56 (Int32.not_lt.mpr z2))]) rfl (rfl)
      · refine zw_iconst (v := nI 1) dX3_canBePaid_59 (by decide) ?_
        refine zw_goto (tgt := 64) dX3_canBePaid_60 (by decide) ?_
        exact zw_zretE dX3_canBePaid_64 rfl (Or.inr rfl) (by rw [b01c_t ⟨(fun z => c1 z.1), by rw [(if_neg c26)]; exact Int32.not_lt.mp c56⟩]) rfl (rfl)
    · refine zw_aload_n dX3_canBePaid_29 rfl ?_
      refine zw_getR (j := 6) (kd := 3) dX3_canBePaid_30 hq.i hq.k (by decide) (by decide) fl_X3_22 rfl hq.r2 ?_
      refine zw_iload_n dX3_canBePaid_33 rfl ?_
      refine zw_iald dX3_canBePaid_34 hq.i2 hq.k2 hq.L2 rfl (by rw [hq.n2]; omega) ?_
      refine zw_iload_n dX3_canBePaid_35 rfl ?_
      refine zw_mmin dX3_canBePaid_36 ml_X3_95 (by decide) (Nat.le_of_ble_eq_true rfl) ?_
      refine zw_goto (tgt := 43) dX3_canBePaid_39 (by decide) ?_
      refine zw_istore_n dX3_canBePaid_43 (by decide) ?_
      refine zw_aload_n dX3_canBePaid_44 rfl ?_
      refine zw_getR (j := 4) (kd := 3) dX3_canBePaid_45 hq.i hq.k (by decide) (by decide) fl_X3_15 rfl hq.r0 ?_
      refine zw_iload_n dX3_canBePaid_48 rfl ?_
      refine zw_iald dX3_canBePaid_49 hq.i0 hq.k0 hq.L0 rfl (by rw [hq.n0]; omega) ?_
      refine zw_iload_n dX3_canBePaid_50 rfl ?_
      refine zw_iadd dX3_canBePaid_51 ?_
      refine zw_iload_n dX3_canBePaid_52 rfl ?_
      refine zw_isub dX3_canBePaid_53 ?_
      refine zw_ldc (v := nI 10000000) dX3_canBePaid_54 cs_X3_100 ?_
      refine zw_icmp_gt (tgt := 63) dX3_canBePaid_56 (by decide) (fun c56 => ?_) (fun c56 => ?_)
      · refine zw_iconst (v := nI 0) dX3_canBePaid_63 (by decide) ?_
        exact zw_zretE dX3_canBePaid_64 rfl (Or.inl rfl) (by rw [b01c_f (fun z => by have z2 := z.2; rw [(if_pos c26)] at z2; exact absurd c56 (Int32.not_lt.mpr z2))]) rfl (rfl)
      · refine zw_iconst (v := nI 1) dX3_canBePaid_59 (by decide) ?_
        refine zw_goto (tgt := 64) dX3_canBePaid_60 (by decide) ?_
        exact zw_zretE dX3_canBePaid_64 rfl (Or.inr rfl) (by rw [b01c_t ⟨(fun z => c1 z.1), by rw [(if_pos c26)]; exact Int32.not_lt.mp c56⟩]) rfl (rfl)
  · refine zw_aload_n dX3_canBePaid_4 rfl ?_
    refine zw_getR (j := 6) (kd := 3) dX3_canBePaid_5 hq.i hq.k (by decide) (by decide) fl_X3_22 rfl hq.r2 ?_
    refine zw_iload_n dX3_canBePaid_8 rfl ?_
    refine zw_iald dX3_canBePaid_9 hq.i2 hq.k2 hq.L2 rfl (by rw [hq.n2]; omega) ?_
    refine zw_if_gt (tgt := 23) dX3_canBePaid_10 (by decide) (fun c10 => ?_) (fun c10 => ?_)
    · refine zw_iconst (v := nI 0) dX3_canBePaid_23 (by decide) ?_
      exact zw_zretE dX3_canBePaid_24 rfl (Or.inl rfl) (by rw [b01c_f (fun z => z.1 ⟨c1, Or.inl c10⟩)]) rfl (rfl)
    · refine zw_iload_n dX3_canBePaid_13 rfl ?_
      refine zw_ineg dX3_canBePaid_14 ?_
      refine zw_aload_n dX3_canBePaid_15 rfl ?_
      refine zw_iload_n dX3_canBePaid_16 rfl ?_
      refine zw_cVi dX3_canBePaid_17 (c_X3_freeMoney hq (by omega)) rfl okX3_freeMoney ml_X3_84 hq.i hq.k (by decide) rfl (Nat.le_of_ble_eq_true rfl) (Nat.le_of_ble_eq_true rfl) ?_
      refine zw_icmp_le (tgt := 25) dX3_canBePaid_20 (by decide) (fun c20 => ?_) (fun c20 => ?_)
      · refine zw_iload_n dX3_canBePaid_25 rfl ?_
        refine zw_if_le (tgt := 42) dX3_canBePaid_26 (by decide) (fun c26 => ?_) (fun c26 => ?_)
        · refine zw_iconst (v := nI 0) dX3_canBePaid_42 (by decide) ?_
          refine zw_istore_n dX3_canBePaid_43 (by decide) ?_
          refine zw_aload_n dX3_canBePaid_44 rfl ?_
          refine zw_getR (j := 4) (kd := 3) dX3_canBePaid_45 hq.i hq.k (by decide) (by decide) fl_X3_15 rfl hq.r0 ?_
          refine zw_iload_n dX3_canBePaid_48 rfl ?_
          refine zw_iald dX3_canBePaid_49 hq.i0 hq.k0 hq.L0 rfl (by rw [hq.n0]; omega) ?_
          refine zw_iload_n dX3_canBePaid_50 rfl ?_
          refine zw_iadd dX3_canBePaid_51 ?_
          refine zw_iload_n dX3_canBePaid_52 rfl ?_
          refine zw_isub dX3_canBePaid_53 ?_
          refine zw_ldc (v := nI 10000000) dX3_canBePaid_54 cs_X3_100 ?_
          refine zw_icmp_gt (tgt := 63) dX3_canBePaid_56 (by decide) (fun c56 => ?_) (fun c56 => ?_)
          · refine zw_iconst (v := nI 0) dX3_canBePaid_63 (by decide) ?_
            exact zw_zretE dX3_canBePaid_64 rfl (Or.inl rfl) (by rw [b01c_f (fun z => by have z2 := z.2; rw [(if_neg c26)] at z2; exact absurd c56 (Int32.not_lt.mpr z2))]) rfl (rfl)
          · refine zw_iconst (v := nI 1) dX3_canBePaid_59 (by decide) ?_
            refine zw_goto (tgt := 64) dX3_canBePaid_60 (by decide) ?_
            exact zw_zretE dX3_canBePaid_64 rfl (Or.inr rfl) (by rw [b01c_t ⟨(fun z => z.2.elim c10 c20), by rw [(if_neg c26)]; exact Int32.not_lt.mp c56⟩]) rfl (rfl)
        · refine zw_aload_n dX3_canBePaid_29 rfl ?_
          refine zw_getR (j := 6) (kd := 3) dX3_canBePaid_30 hq.i hq.k (by decide) (by decide) fl_X3_22 rfl hq.r2 ?_
          refine zw_iload_n dX3_canBePaid_33 rfl ?_
          refine zw_iald dX3_canBePaid_34 hq.i2 hq.k2 hq.L2 rfl (by rw [hq.n2]; omega) ?_
          refine zw_iload_n dX3_canBePaid_35 rfl ?_
          refine zw_mmin dX3_canBePaid_36 ml_X3_95 (by decide) (Nat.le_of_ble_eq_true rfl) ?_
          refine zw_goto (tgt := 43) dX3_canBePaid_39 (by decide) ?_
          refine zw_istore_n dX3_canBePaid_43 (by decide) ?_
          refine zw_aload_n dX3_canBePaid_44 rfl ?_
          refine zw_getR (j := 4) (kd := 3) dX3_canBePaid_45 hq.i hq.k (by decide) (by decide) fl_X3_15 rfl hq.r0 ?_
          refine zw_iload_n dX3_canBePaid_48 rfl ?_
          refine zw_iald dX3_canBePaid_49 hq.i0 hq.k0 hq.L0 rfl (by rw [hq.n0]; omega) ?_
          refine zw_iload_n dX3_canBePaid_50 rfl ?_
          refine zw_iadd dX3_canBePaid_51 ?_
          refine zw_iload_n dX3_canBePaid_52 rfl ?_
          refine zw_isub dX3_canBePaid_53 ?_
          refine zw_ldc (v := nI 10000000) dX3_canBePaid_54 cs_X3_100 ?_
          refine zw_icmp_gt (tgt := 63) dX3_canBePaid_56 (by decide) (fun c56 => ?_) (fun c56 => ?_)
          · refine zw_iconst (v := nI 0) dX3_canBePaid_63 (by decide) ?_
            exact zw_zretE dX3_canBePaid_64 rfl (Or.inl rfl) (by rw [b01c_f (fun z => by have z2 := z.2; rw [(if_pos c26)] at z2; exact absurd c56 (Int32.not_lt.mpr z2))]) rfl (rfl)
          · refine zw_iconst (v := nI 1) dX3_canBePaid_59 (by decide) ?_
            refine zw_goto (tgt := 64) dX3_canBePaid_60 (by decide) ?_
            exact zw_zretE dX3_canBePaid_64 rfl (Or.inr rfl) (by rw [b01c_t ⟨(fun z => z.2.elim c10 c20), by rw [(if_pos c26)]; exact Int32.not_lt.mp c56⟩]) rfl (rfl)
      · refine zw_iconst (v := nI 0) dX3_canBePaid_23 (by decide) ?_
        exact zw_zretE dX3_canBePaid_24 rfl (Or.inl rfl) (by rw [b01c_f (fun z => z.1 ⟨c1, Or.inr c20⟩)]) rfl (rfl)
def sm2 (a : Int32) (f : Nat → Int32) : Nat → Int32
  | 0 => a
  | n + 1 => sm2 a f n + f n
set_option maxRecDepth 100000 in
set_option maxHeartbeats 1000000 in
theorem c_X3_allMoney {sh : Sh} {C : Mem} {q P : Nat} (hq : IsSt sh q) (hw : Wf C q P)  : Calls mX3_allMoney 0 0 0 [.inr (some (q))] sh C (some (.inl (sm2 (sm (fun p => C (q + 1) p) P) (fun j => C (q + 15) j) 4))) sh (C) := by
  refine Calls.of plX3 (Nat.le_of_ble_eq_true rfl) ?_
  show WP mX3_allMoney 0 0 0 0 [some (.inr (some (q))), none, none] [] sh (C) (some (.inl (sm2 (sm (fun p => C (q + 1) p) P) (fun j => C (q + 15) j) 4))) sh (C)
  have hP12 := hw.2.1
  refine zw_iconst (v := nI 0) dX3_allMoney_0 (by decide) ?_
  refine zw_istore_n dX3_allMoney_1 (by decide) ?_
  refine zw_iconst (v := nI 0) dX3_allMoney_2 (by decide) ?_
  refine zw_istore_n dX3_allMoney_3 (by decide) ?_
  have L4 : ∀ (n_4 k : Nat), k + n_4 = P → WP mX3_allMoney 0 0 0 4 [some (.inr (some (q))), some (.inl (sm (fun p => C (q + 1) p) (k))), some (.inl (nI (k)))] [] sh (C) (some (.inl (sm2 (sm (fun p => C (q + 1) p) P) (fun j => C (q + 15) j) 4))) sh (C) := by
    intro n_4
    induction n_4 with
    | zero =>
      intro k hk4
      have ek4 : P = k := by omega
      subst ek4
      refine zw_iload_n dX3_allMoney_4 rfl ?_
      refine zw_aload_n dX3_allMoney_5 rfl ?_
      refine zw_getIv (j := 3) (kd := 3) (v := (nI (P))) dX3_allMoney_6 hq.i hq.k (by decide) (by decide) fl_X3_67 rfl hw.1 ?_
      refine zw_icmp_ge_n (tgt := 27) dX3_allMoney_9 (by decide) (by omega) (by omega) (fun c9 => ?_) (fun c9 => by omega)
      refine zw_iconst (v := nI 0) dX3_allMoney_27 (by decide) ?_
      refine zw_istore_n dX3_allMoney_28 (by decide) ?_
      have L29 : ∀ (n_29 k : Nat), k + n_29 = 4 → WP mX3_allMoney 0 0 0 29 [some (.inr (some (q))), some (.inl (sm2 (sm (fun p => C (q + 1) p) P) (fun j => C (q + 15) j) (k))), some (.inl (nI (k)))] [] sh (C) (some (.inl (sm2 (sm (fun p => C (q + 1) p) P) (fun j => C (q + 15) j) 4))) sh (C) := by
        intro n_29
        induction n_29 with
        | zero =>
          intro k hk29
          have ek29 : 4 = k := by omega
          subst ek29
          refine zw_iload_n dX3_allMoney_29 rfl ?_
          refine zw_iconst (v := nI 4) dX3_allMoney_30 (by decide) ?_
          refine zw_icmp_ge_n (tgt := 49) dX3_allMoney_31 (by decide) (by omega) (by omega) (fun c31 => ?_) (fun c31 => by omega)
          refine zw_iload_n dX3_allMoney_49 rfl ?_
          exact zw_iretE dX3_allMoney_50 rfl (rfl) rfl (rfl)
        | succ n_29 ih29 =>
          intro k hk29
          have hlt29 : k < 4 := by omega
          refine zw_iload_n dX3_allMoney_29 rfl ?_
          refine zw_iconst (v := nI 4) dX3_allMoney_30 (by decide) ?_
          refine zw_icmp_ge_n (tgt := 49) dX3_allMoney_31 (by decide) (by omega) (by omega) (fun c31 => by omega) (fun c31 => ?_)
          refine zw_iload_n dX3_allMoney_34 rfl ?_
          refine zw_aload_n dX3_allMoney_35 rfl ?_
          refine zw_getR (j := 18) (kd := 3) dX3_allMoney_36 hq.i hq.k (by decide) (by decide) fl_X3_58 rfl hq.r14 ?_
          refine zw_iload_n dX3_allMoney_39 rfl ?_
          refine zw_iald dX3_allMoney_40 hq.i14 hq.k14 hq.L14 rfl (by rw [hq.n14]; omega) ?_
          refine zw_iadd dX3_allMoney_41 ?_
          refine zw_istore_n dX3_allMoney_42 (by decide) ?_
          refine zw_iincn dX3_allMoney_43 rfl (by decide) ?_
          refine zw_goto (tgt := 29) dX3_allMoney_46 (by decide) ?_
          exact WP.sub (ih29 (k + 1) (by omega)) ⟨rfl, rfl, rfl, trivial⟩
      exact WP.sub (L29 (4) 0 (by omega)) ⟨rfl, rfl, rfl, trivial⟩
    | succ n_4 ih4 =>
      intro k hk4
      have hlt4 : k < P := by omega
      refine zw_iload_n dX3_allMoney_4 rfl ?_
      refine zw_aload_n dX3_allMoney_5 rfl ?_
      refine zw_getIv (j := 3) (kd := 3) (v := (nI (P))) dX3_allMoney_6 hq.i hq.k (by decide) (by decide) fl_X3_67 rfl hw.1 ?_
      refine zw_icmp_ge_n (tgt := 27) dX3_allMoney_9 (by decide) (by omega) (by omega) (fun c9 => by omega) (fun c9 => ?_)
      refine zw_iload_n dX3_allMoney_12 rfl ?_
      refine zw_aload_n dX3_allMoney_13 rfl ?_
      refine zw_getR (j := 4) (kd := 3) dX3_allMoney_14 hq.i hq.k (by decide) (by decide) fl_X3_15 rfl hq.r0 ?_
      refine zw_iload_n dX3_allMoney_17 rfl ?_
      refine zw_iald dX3_allMoney_18 hq.i0 hq.k0 hq.L0 rfl (by rw [hq.n0]; omega) ?_
      refine zw_iadd dX3_allMoney_19 ?_
      refine zw_istore_n dX3_allMoney_20 (by decide) ?_
      refine zw_iincn dX3_allMoney_21 rfl (by decide) ?_
      refine zw_goto (tgt := 4) dX3_allMoney_24 (by decide) ?_
      exact WP.sub (ih4 (k + 1) (by omega)) ⟨rfl, rfl, rfl, trivial⟩
  exact WP.sub (L4 (P) 0 (by omega)) ⟨rfl, rfl, rfl, trivial⟩
set_option maxRecDepth 100000 in
set_option maxHeartbeats 1000000 in
theorem c_X3_allDebts {sh : Sh} {C : Mem} {q P : Nat} (hq : IsSt sh q) (hw : Wf C q P)  : Calls mX3_allDebts 0 0 0 [.inr (some (q))] sh C (some (.inl (sm (fun p => C (q + 3) p) P))) sh (C) := by
  refine Calls.of plX3 (Nat.le_of_ble_eq_true rfl) ?_
  show WP mX3_allDebts 0 0 0 0 [some (.inr (some (q))), none, none] [] sh (C) (some (.inl (sm (fun p => C (q + 3) p) P))) sh (C)
  have hP12 := hw.2.1
  refine zw_iconst (v := nI 0) dX3_allDebts_0 (by decide) ?_
  refine zw_istore_n dX3_allDebts_1 (by decide) ?_
  refine zw_iconst (v := nI 0) dX3_allDebts_2 (by decide) ?_
  refine zw_istore_n dX3_allDebts_3 (by decide) ?_
  have L4 : ∀ (n_4 k : Nat), k + n_4 = P → WP mX3_allDebts 0 0 0 4 [some (.inr (some (q))), some (.inl (sm (fun p => C (q + 3) p) (k))), some (.inl (nI (k)))] [] sh (C) (some (.inl (sm (fun p => C (q + 3) p) P))) sh (C) := by
    intro n_4
    induction n_4 with
    | zero =>
      intro k hk4
      have ek4 : P = k := by omega
      subst ek4
      refine zw_iload_n dX3_allDebts_4 rfl ?_
      refine zw_aload_n dX3_allDebts_5 rfl ?_
      refine zw_getIv (j := 3) (kd := 3) (v := (nI (P))) dX3_allDebts_6 hq.i hq.k (by decide) (by decide) fl_X3_67 rfl hw.1 ?_
      refine zw_icmp_ge_n (tgt := 27) dX3_allDebts_9 (by decide) (by omega) (by omega) (fun c9 => ?_) (fun c9 => by omega)
      refine zw_iload_n dX3_allDebts_27 rfl ?_
      exact zw_iretE dX3_allDebts_28 rfl (rfl) rfl (rfl)
    | succ n_4 ih4 =>
      intro k hk4
      have hlt4 : k < P := by omega
      refine zw_iload_n dX3_allDebts_4 rfl ?_
      refine zw_aload_n dX3_allDebts_5 rfl ?_
      refine zw_getIv (j := 3) (kd := 3) (v := (nI (P))) dX3_allDebts_6 hq.i hq.k (by decide) (by decide) fl_X3_67 rfl hw.1 ?_
      refine zw_icmp_ge_n (tgt := 27) dX3_allDebts_9 (by decide) (by omega) (by omega) (fun c9 => by omega) (fun c9 => ?_)
      refine zw_iload_n dX3_allDebts_12 rfl ?_
      refine zw_aload_n dX3_allDebts_13 rfl ?_
      refine zw_getR (j := 6) (kd := 3) dX3_allDebts_14 hq.i hq.k (by decide) (by decide) fl_X3_22 rfl hq.r2 ?_
      refine zw_iload_n dX3_allDebts_17 rfl ?_
      refine zw_iald dX3_allDebts_18 hq.i2 hq.k2 hq.L2 rfl (by rw [hq.n2]; omega) ?_
      refine zw_iadd dX3_allDebts_19 ?_
      refine zw_istore_n dX3_allDebts_20 (by decide) ?_
      refine zw_iincn dX3_allDebts_21 rfl (by decide) ?_
      refine zw_goto (tgt := 4) dX3_allDebts_24 (by decide) ?_
      exact WP.sub (ih4 (k + 1) (by omega)) ⟨rfl, rfl, rfl, trivial⟩
  exact WP.sub (L4 (P) 0 (by omega)) ⟨rfl, rfl, rfl, trivial⟩
set_option maxRecDepth 100000 in
set_option maxHeartbeats 1000000 in
theorem c_X3_allBids {sh : Sh} {C : Mem} {q P : Nat} (hq : IsSt sh q) (hw : Wf C q P)  : Calls mX3_allBids 2 0 0 [.inr (some (q))] sh C (some (.inl (sm (fun p => sm (fun s => n01 (bm C q p s)) 96) P))) sh (C) := by
  refine Calls.of plX3 (Nat.le_of_ble_eq_true rfl) ?_
  show WP mX3_allBids 2 0 0 0 [some (.inr (some (q))), none, none] [] sh (C) (some (.inl (sm (fun p => sm (fun s => n01 (bm C q p s)) 96) P))) sh (C)
  have hP12 := hw.2.1
  refine zw_iconst (v := nI 0) dX3_allBids_0 (by decide) ?_
  refine zw_istore_n dX3_allBids_1 (by decide) ?_
  refine zw_iconst (v := nI 0) dX3_allBids_2 (by decide) ?_
  refine zw_istore_n dX3_allBids_3 (by decide) ?_
  have L4 : ∀ (n_4 k : Nat), k + n_4 = P → WP mX3_allBids 2 0 0 4 [some (.inr (some (q))), some (.inl (sm (fun p => sm (fun s => n01 (bm C q p s)) 96) (k))), some (.inl (nI (k)))] [] sh (C) (some (.inl (sm (fun p => sm (fun s => n01 (bm C q p s)) 96) P))) sh (C) := by
    intro n_4
    induction n_4 with
    | zero =>
      intro k hk4
      have ek4 : P = k := by omega
      subst ek4
      refine zw_iload_n dX3_allBids_4 rfl ?_
      refine zw_aload_n dX3_allBids_5 rfl ?_
      refine zw_getIv (j := 3) (kd := 3) (v := (nI (P))) dX3_allBids_6 hq.i hq.k (by decide) (by decide) fl_X3_67 rfl hw.1 ?_
      refine zw_icmp_ge_n (tgt := 26) dX3_allBids_9 (by decide) (by omega) (by omega) (fun c9 => ?_) (fun c9 => by omega)
      refine zw_iload_n dX3_allBids_26 rfl ?_
      exact zw_iretE dX3_allBids_27 rfl (rfl) rfl (rfl)
    | succ n_4 ih4 =>
      intro k hk4
      have hlt4 : k < P := by omega
      refine zw_iload_n dX3_allBids_4 rfl ?_
      refine zw_aload_n dX3_allBids_5 rfl ?_
      refine zw_getIv (j := 3) (kd := 3) (v := (nI (P))) dX3_allBids_6 hq.i hq.k (by decide) (by decide) fl_X3_67 rfl hw.1 ?_
      refine zw_icmp_ge_n (tgt := 26) dX3_allBids_9 (by decide) (by omega) (by omega) (fun c9 => by omega) (fun c9 => ?_)
      refine zw_iload_n dX3_allBids_12 rfl ?_
      refine zw_aload_n dX3_allBids_13 rfl ?_
      refine zw_iload_n dX3_allBids_14 rfl ?_
      refine zw_cVi dX3_allBids_15 (c_X3_bidsBy hq (by omega)) rfl okX3_bidsBy ml_X3_101 hq.i hq.k (by decide) rfl (Nat.le_of_ble_eq_true rfl) (Nat.le_of_ble_eq_true rfl) ?_
      refine zw_iadd dX3_allBids_18 ?_
      refine zw_istore_n dX3_allBids_19 (by decide) ?_
      refine zw_iincn dX3_allBids_20 rfl (by decide) ?_
      refine zw_goto (tgt := 4) dX3_allBids_23 (by decide) ?_
      exact WP.sub (ih4 (k + 1) (by omega)) ⟨rfl, rfl, rfl, trivial⟩
  exact WP.sub (L4 (P) 0 (by omega)) ⟨rfl, rfl, rfl, trivial⟩
def stg (C : Mem) (q P s : Nat) (sd : Int32) : Int32 := sB C q P s sd + (if sd = 0 then C (q + 11) s else nI 0)
set_option maxRecDepth 100000 in
set_option maxHeartbeats 1000000 in
theorem c_X3_strength {sh : Sh} {C : Mem} {q P : Nat} (hq : IsSt sh q) (hw : Wf C q P) {s : Nat} (hs : s < 96) (sd : Int32) : Calls mX3_strength 2 0 0 [.inr (some (q)), .inl (nI (s)), .inl (sd)] sh C (some (.inl (stg C q P s sd))) sh (C) := by
  refine Calls.of plX3 (Nat.le_of_ble_eq_true rfl) ?_
  show WP mX3_strength 2 0 0 0 [some (.inr (some (q))), some (.inl (nI (s))), some (.inl (sd))] [] sh (C) (some (.inl (stg C q P s sd))) sh (C)
  refine zw_aload_n dX3_strength_0 rfl ?_
  refine zw_iload_n dX3_strength_1 rfl ?_
  refine zw_iload_n dX3_strength_2 rfl ?_
  refine zw_cVi dX3_strength_3 (c_X3_sumOfBids hq hw (by omega) _) rfl okX3_sumOfBids ml_X3_104 hq.i hq.k (by decide) rfl (Nat.le_of_ble_eq_true rfl) (Nat.le_of_ble_eq_true rfl) ?_
  refine zw_iload_n dX3_strength_6 rfl ?_
  refine zw_if_ne (tgt := 19) dX3_strength_7 (by decide) (fun c7 => ?_) (fun c7 => ?_)
  · refine zw_iconst (v := nI 0) dX3_strength_19 (by decide) ?_
    refine zw_iadd dX3_strength_20 ?_
    exact zw_iretE dX3_strength_21 rfl (by simp [stg, *]) rfl (rfl)
  · refine zw_aload_n dX3_strength_10 rfl ?_
    refine zw_getR (j := 14) (kd := 3) dX3_strength_11 hq.i hq.k (by decide) (by decide) fl_X3_46 rfl hq.r10 ?_
    refine zw_iload_n dX3_strength_14 rfl ?_
    refine zw_iald dX3_strength_15 hq.i10 hq.k10 hq.L10 rfl (by rw [hq.n10]; omega) ?_
    refine zw_goto (tgt := 20) dX3_strength_16 (by decide) ?_
    refine zw_iadd dX3_strength_20 ?_
    exact zw_iretE dX3_strength_21 rfl (by simp [stg, *]) rfl (rfl)
def oT (C : Mem) (q P s : Nat) : Int32 := if nB C q P s = 0 then C (q + 10) s else if stg C q P s (nI 0) = stg C q P s (nI 1) then C (q + 12) s else if stg C q P s (nI 1) < stg C q P s (nI 0) then nI 0 else nI 1
set_option maxRecDepth 100000 in
set_option maxHeartbeats 1000000 in
theorem c_X3_ownerThen {sh : Sh} {C : Mem} {q P : Nat} (hq : IsSt sh q) (hw : Wf C q P) {s : Nat} (hs : s < 96) : Calls mX3_ownerThen 3 0 0 [.inr (some (q)), .inl (nI (s))] sh C (some (.inl (oT C q P s))) sh (C) := by
  refine Calls.of plX3 (Nat.le_of_ble_eq_true rfl) ?_
  show WP mX3_ownerThen 3 0 0 0 [some (.inr (some (q))), some (.inl (nI (s))), none, none] [] sh (C) (some (.inl (oT C q P s))) sh (C)
  refine zw_aload_n dX3_ownerThen_0 rfl ?_
  refine zw_iload_n dX3_ownerThen_1 rfl ?_
  refine zw_cVi dX3_ownerThen_2 (c_X3_bidsFor hq hw (by omega)) rfl okX3_bidsFor ml_X3_107 hq.i hq.k (by decide) rfl (Nat.le_of_ble_eq_true rfl) (Nat.le_of_ble_eq_true rfl) ?_
  refine zw_if_ne (tgt := 15) dX3_ownerThen_5 (by decide) (fun c5 => ?_) (fun c5 => ?_)
  · refine zw_aload_n dX3_ownerThen_15 rfl ?_
    refine zw_iload_n dX3_ownerThen_16 rfl ?_
    refine zw_iconst (v := nI 0) dX3_ownerThen_17 (by decide) ?_
    refine zw_cVi dX3_ownerThen_18 (c_X3_strength hq hw (by omega) _) rfl okX3_strength ml_X3_110 hq.i hq.k (by decide) rfl (Nat.le_of_ble_eq_true rfl) (Nat.le_of_ble_eq_true rfl) ?_
    refine zw_istore_n dX3_ownerThen_21 (by decide) ?_
    refine zw_aload_n dX3_ownerThen_22 rfl ?_
    refine zw_iload_n dX3_ownerThen_23 rfl ?_
    refine zw_iconst (v := nI 1) dX3_ownerThen_24 (by decide) ?_
    refine zw_cVi dX3_ownerThen_25 (c_X3_strength hq hw (by omega) _) rfl okX3_strength ml_X3_110 hq.i hq.k (by decide) rfl (Nat.le_of_ble_eq_true rfl) (Nat.le_of_ble_eq_true rfl) ?_
    refine zw_istore_n dX3_ownerThen_28 (by decide) ?_
    refine zw_iload_n dX3_ownerThen_29 rfl ?_
    refine zw_iload_n dX3_ownerThen_30 rfl ?_
    refine zw_icmp_ne (tgt := 41) dX3_ownerThen_31 (by decide) (fun c31 => ?_) (fun c31 => ?_)
    · refine zw_iload_n dX3_ownerThen_41 rfl ?_
      refine zw_iload_n dX3_ownerThen_42 rfl ?_
      refine zw_icmp_le (tgt := 50) dX3_ownerThen_43 (by decide) (fun c43 => ?_) (fun c43 => ?_)
      · refine zw_iconst (v := nI 1) dX3_ownerThen_50 (by decide) ?_
        exact zw_iretE dX3_ownerThen_51 rfl (by simp [oT, *]) rfl (rfl)
      · refine zw_iconst (v := nI 0) dX3_ownerThen_46 (by decide) ?_
        refine zw_goto (tgt := 51) dX3_ownerThen_47 (by decide) ?_
        exact zw_iretE dX3_ownerThen_51 rfl (by simp [oT, *]) rfl (rfl)
    · refine zw_aload_n dX3_ownerThen_34 rfl ?_
      refine zw_getR (j := 15) (kd := 3) dX3_ownerThen_35 hq.i hq.k (by decide) (by decide) fl_X3_49 rfl hq.r11 ?_
      refine zw_iload_n dX3_ownerThen_38 rfl ?_
      refine zw_iald dX3_ownerThen_39 hq.i11 hq.k11 hq.L11 rfl (by rw [hq.n11]; omega) ?_
      exact zw_iretE dX3_ownerThen_40 rfl (by simp [oT, *]) rfl (rfl)
  · refine zw_aload_n dX3_ownerThen_8 rfl ?_
    refine zw_getR (j := 13) (kd := 3) dX3_ownerThen_9 hq.i hq.k (by decide) (by decide) fl_X3_43 rfl hq.r9 ?_
    refine zw_iload_n dX3_ownerThen_12 rfl ?_
    refine zw_iald dX3_ownerThen_13 hq.i9 hq.k9 hq.L9 rfl (by rw [hq.n9]; omega) ?_
    exact zw_iretE dX3_ownerThen_14 rfl (by simp [oT, *]) rfl (rfl)
def mF (C : Mem) (q P s : Nat) (sd : Int32) : Int32 := if oT C q P s = sd then nI 0 else mx (nI 1) (if C (q + 12) s = sd then stg C q P s (oS sd) - stg C q P s sd else stg C q P s (oS sd) - stg C q P s sd + nI 1)
set_option maxRecDepth 100000 in
set_option maxHeartbeats 1000000 in
theorem c_X3_missingFor {sh : Sh} {C : Mem} {q P : Nat} (hq : IsSt sh q) (hw : Wf C q P) {s : Nat} (hs : s < 96) (sd : Int32) : Calls mX3_missingFor 4 0 0 [.inr (some (q)), .inl (nI (s)), .inl (sd)] sh C (some (.inl (mF C q P s sd))) sh (C) := by
  refine Calls.of plX3 (Nat.le_of_ble_eq_true rfl) ?_
  show WP mX3_missingFor 4 0 0 0 [some (.inr (some (q))), some (.inl (nI (s))), some (.inl (sd)), none, none] [] sh (C) (some (.inl (mF C q P s sd))) sh (C)
  refine zw_aload_n dX3_missingFor_0 rfl ?_
  refine zw_iload_n dX3_missingFor_1 rfl ?_
  refine zw_cVi dX3_missingFor_2 (c_X3_ownerThen hq hw (by omega)) rfl okX3_ownerThen ml_X3_113 hq.i hq.k (by decide) rfl (Nat.le_of_ble_eq_true rfl) (Nat.le_of_ble_eq_true rfl) ?_
  refine zw_iload_n dX3_missingFor_5 rfl ?_
  refine zw_icmp_ne (tgt := 11) dX3_missingFor_6 (by decide) (fun c6 => ?_) (fun c6 => ?_)
  · refine zw_aload_n dX3_missingFor_11 rfl ?_
    refine zw_iload_n dX3_missingFor_12 rfl ?_
    refine zw_iload_n dX3_missingFor_13 rfl ?_
    refine zw_cNi dX3_missingFor_14 (c_X4_otherSide _) rfl okX4_otherSide nl_X3_116 (Nat.le_of_ble_eq_true rfl) (Nat.le_of_ble_eq_true rfl) ?_
    refine zw_cVi dX3_missingFor_17 (c_X3_strength hq hw (by omega) _) rfl okX3_strength ml_X3_110 hq.i hq.k (by decide) rfl (Nat.le_of_ble_eq_true rfl) (Nat.le_of_ble_eq_true rfl) ?_
    refine zw_aload_n dX3_missingFor_20 rfl ?_
    refine zw_iload_n dX3_missingFor_21 rfl ?_
    refine zw_iload_n dX3_missingFor_22 rfl ?_
    refine zw_cVi dX3_missingFor_23 (c_X3_strength hq hw (by omega) _) rfl okX3_strength ml_X3_110 hq.i hq.k (by decide) rfl (Nat.le_of_ble_eq_true rfl) (Nat.le_of_ble_eq_true rfl) ?_
    refine zw_isub dX3_missingFor_26 ?_
    refine zw_istore_n dX3_missingFor_27 (by decide) ?_
    refine zw_aload_n dX3_missingFor_28 rfl ?_
    refine zw_getR (j := 15) (kd := 3) dX3_missingFor_29 hq.i hq.k (by decide) (by decide) fl_X3_49 rfl hq.r11 ?_
    refine zw_iload_n dX3_missingFor_32 rfl ?_
    refine zw_iald dX3_missingFor_33 hq.i11 hq.k11 hq.L11 rfl (by rw [hq.n11]; omega) ?_
    refine zw_iload_n dX3_missingFor_34 rfl ?_
    refine zw_icmp_ne (tgt := 42) dX3_missingFor_35 (by decide) (fun c35 => ?_) (fun c35 => ?_)
    · refine zw_iload_n dX3_missingFor_42 rfl ?_
      refine zw_iconst (v := nI 1) dX3_missingFor_43 (by decide) ?_
      refine zw_iadd dX3_missingFor_44 ?_
      refine zw_istore dX3_missingFor_45 (by decide) ?_
      refine zw_iconst (v := nI 1) dX3_missingFor_47 (by decide) ?_
      refine zw_iload dX3_missingFor_48 rfl ?_
      refine zw_mmax dX3_missingFor_50 ml_X3_119 (by decide) (Nat.le_of_ble_eq_true rfl) ?_
      exact zw_iretE dX3_missingFor_53 rfl (by simp [mF, mx, *]) rfl (rfl)
    · refine zw_iload_n dX3_missingFor_38 rfl ?_
      refine zw_goto (tgt := 45) dX3_missingFor_39 (by decide) ?_
      refine zw_istore dX3_missingFor_45 (by decide) ?_
      refine zw_iconst (v := nI 1) dX3_missingFor_47 (by decide) ?_
      refine zw_iload dX3_missingFor_48 rfl ?_
      refine zw_mmax dX3_missingFor_50 ml_X3_119 (by decide) (Nat.le_of_ble_eq_true rfl) ?_
      exact zw_iretE dX3_missingFor_53 rfl (by simp [mF, mx, *]) rfl (rfl)
  · refine zw_iconst (v := nI 0) dX3_missingFor_9 (by decide) ?_
    exact zw_iretE dX3_missingFor_10 rfl (by simp [mF, mx, *]) rfl (rfl)
