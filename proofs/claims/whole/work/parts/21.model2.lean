/-! ===== the reference: what changes ===== -/
theorem ix4 {x : Int32} (h : vp_in x 4) : vp_in (nI 4 + x) 1724 := by
  obtain ⟨j, hj, rfl⟩ := vp_in_of h (by decide)
  rw [nI_add]
  exact vp_in_nI (by omega) (by decide)
def tkM (D : Mem) (m p : Nat) (v : Int32) : Int32 := if v < D (m + 1) (8 + 7 * p + 1) then v else D (m + 1) (8 + 7 * p + 1)
def rcD (D : Mem) (m p : Nat) (v : Int32) : Mem :=
  let t := tkM D m p v
  let D1 := adM D m p 1 (-t)
  let D2 := adM D1 m p 0 (v - t)
  up D2 (m + 1) (ixN (nI 4 + D2 (m + 1) (8 + 7 * p + 6))) (D2 (m + 1) (ixN (nI 4 + D2 (m + 1) (8 + 7 * p + 6))) + t)
theorem adM_ne {D : Mem} {m p w : Nat} {v : Int32} {j : Nat} (h : j ≠ 8 + 7 * p + w) : adM D m p w v (m + 1) j = D (m + 1) j := up_ne2 h
theorem adM_a {D : Mem} {m p w : Nat} {v : Int32} {a : Nat} (h : a ≠ m + 1) : adM D m p w v a = D a := up_ne h
theorem puM_ne {D : Mem} {m s w : Nat} {v : Int32} {j : Nat} (h : j ≠ 92 + 5 * s + w) : puM D m s w v (m + 1) j = D (m + 1) j := up_ne2 h
theorem puM_a {D : Mem} {m s w : Nat} {v : Int32} {a : Nat} (h : a ≠ m + 1) : puM D m s w v a = D a := up_ne h
theorem rcD_a {D : Mem} {m p : Nat} {v : Int32} {a : Nat} (h : a ≠ m + 1) : rcD D m p v a = D a := by
  show up (adM (adM _ _ _ _ _) _ _ _ _) _ _ _ a = _
  rw [up_ne h, adM_a h, adM_a h]
theorem ix4_v {x : Int32} (h : vp_in x 4) : ∃ j, j < 4 ∧ ixN (nI 4 + x) = 4 + j := by
  obtain ⟨j, hj, rfl⟩ := vp_in_of h (by decide)
  exact ⟨j, hj, by rw [nI_add]; exact nI_clamp (by omega)⟩
/-- what a receipt leaves of now -/
theorem rcD_j {D : Mem} {m P p j : Nat} {v : Int32} (hw : Wm D m P) (hp : p < 12) (h1 : j < 4 ∨ 8 ≤ j) (h2 : j ≠ 8 + 7 * p + 1) (h3 : j ≠ 8 + 7 * p + 0) : rcD D m p v (m + 1) j = D (m + 1) j := by
  show up (adM (adM _ _ _ _ _) _ _ _ _) _ _ _ (m + 1) j = _
  have e : adM (adM D m p 1 (-tkM D m p v)) m p 0 (v - tkM D m p v) (m + 1) (8 + 7 * p + 6) = D (m + 1) (8 + 7 * p + 6) := by
    rw [adM_ne (by omega), adM_ne (by omega)]
  obtain ⟨i, hi, hi2⟩ := ix4_v (hw.2.2 p hp)
  rw [e, hi2, up_ne2 (by omega), adM_ne h3, adM_ne h2]
theorem Wm.rc {D : Mem} {m P p : Nat} {v : Int32} (hw : Wm D m P) (hp : p < 12) : Wm (rcD D m p v) m P := hw.of (rcD_j hw hp (by omega) (by omega) (by omega)) (fun i hi => rcD_j hw hp (by omega) (by omega) (by omega))
set_option maxRecDepth 100000 in
set_option maxHeartbeats 4000000 in
theorem c_X5_receives {sh : Sh} {D : Mem} {m P : Nat} (hm : IsMo sh m) (hw : Wm D m P) {p : Nat} (hp : p < 12) (v : Int32) : Calls mX5_receives 1 0 0 [.inr (some (m)), .inl (nI (p)), .inl (v)] sh (D) (none) sh (rcD D m p v) := by
  refine Calls.of plX5 (Nat.le_of_ble_eq_true rfl) ?_
  have hP12 := hw.2.1
  show WP mX5_receives 1 0 0 0 [some (.inr (some (m))), some (.inl (nI (p))), some (.inl (v)), none] [] sh (D) (none) sh (rcD D m p v)
  refine zw_iload_n dX5_receives_0 rfl ?_
  refine zw_aload_n dX5_receives_1 rfl ?_
  refine zw_iload_n dX5_receives_2 rfl ?_
  refine zw_iconst (v := nI 1) dX5_receives_3 (by decide) ?_
  refine zw_cVi dX5_receives_4 (c_X5_of hm (by omega) (by omega)) rfl okX5_of ml_X5_43 hm.i hm.k (by decide) rfl (Nat.le_of_ble_eq_true rfl) (Nat.le_of_ble_eq_true rfl) ?_
  have J20 : ∀ (t : Int32), tkM D m p v = t → WP mX5_receives 1 0 0 20 [some (.inr (some (m))), some (.inl (nI (p))), some (.inl (v)), none] [.inl (t)] sh (D) (none) sh (rcD D m p v) := by
    intro t ht
    refine zw_istore_n dX5_receives_20 (by decide) ?_
    refine zw_aload_n dX5_receives_21 rfl ?_
    refine zw_iload_n dX5_receives_22 rfl ?_
    refine zw_iconst (v := nI 1) dX5_receives_23 (by decide) ?_
    refine zw_iload_n dX5_receives_24 rfl ?_
    refine zw_ineg dX5_receives_25 ?_
    refine zw_cVv dX5_receives_26 (c_X5_adds hm (by omega) (by omega) _) rfl okX5_adds ml_X5_53 hm.i hm.k (by decide) rfl (Nat.le_of_ble_eq_true rfl) (Nat.le_of_ble_eq_true rfl) ?_
    refine zw_aload_n dX5_receives_29 rfl ?_
    refine zw_iload_n dX5_receives_30 rfl ?_
    refine zw_iconst (v := nI 0) dX5_receives_31 (by decide) ?_
    refine zw_iload_n dX5_receives_32 rfl ?_
    refine zw_iload_n dX5_receives_33 rfl ?_
    refine zw_isub dX5_receives_34 ?_
    refine zw_cVv dX5_receives_35 (c_X5_adds hm (by omega) (by omega) _) rfl okX5_adds ml_X5_53 hm.i hm.k (by decide) rfl (Nat.le_of_ble_eq_true rfl) (Nat.le_of_ble_eq_true rfl) ?_
    refine zw_aload_n dX5_receives_38 rfl ?_
    refine zw_getR (j := 0) (kd := 5) dX5_receives_39 hm.i hm.k (by decide) (by decide) fl_X5_7 rfl hm.r0 ?_
    refine zw_iconst (v := nI 4) dX5_receives_42 (by decide) ?_
    refine zw_aload_n dX5_receives_43 rfl ?_
    refine zw_iload_n dX5_receives_44 rfl ?_
    refine zw_bipush (v := nI 6) dX5_receives_45 (by decide) ?_
    refine zw_cVi dX5_receives_47 (c_X5_of hm (by omega) (by omega)) rfl okX5_of ml_X5_43 hm.i hm.k (by decide) rfl (Nat.le_of_ble_eq_true rfl) (Nat.le_of_ble_eq_true rfl) ?_
    refine zw_iadd dX5_receives_50 ?_
    refine zw_dup2 dX5_receives_51 ?_
    refine zw_ialdx dX5_receives_52 hm.i0 hm.k0 hm.L0 (by rw [hm.n0]; exact ix4 ((Wm.wj (Wm.wj hw (by omega) (fun _ _ => by omega)) (by omega) (fun _ _ => by omega)).2.2 _ hp)) ?_
    refine zw_iload_n dX5_receives_53 rfl ?_
    refine zw_iadd dX5_receives_54 ?_
    refine zw_iastx dX5_receives_55 hm.i0 hm.k0 hm.L0 (by rw [hm.n0]; exact ix4 ((Wm.wj (Wm.wj hw (by omega) (fun _ _ => by omega)) (by omega) (fun _ _ => by omega)).2.2 _ hp)) ?_
    exact zw_vretE dX5_receives_56 rfl rfl rfl (by unfold rcD; rw [ht])
  refine zw_icmp_ge (tgt := 14) dX5_receives_7 (by decide) (fun c7 => ?_) (fun c7 => ?_)
  · refine zw_aload_n dX5_receives_14 rfl ?_
    refine zw_iload_n dX5_receives_15 rfl ?_
    refine zw_iconst (v := nI 1) dX5_receives_16 (by decide) ?_
    refine zw_cVi dX5_receives_17 (c_X5_of hm (by omega) (by omega)) rfl okX5_of ml_X5_43 hm.i hm.k (by decide) rfl (Nat.le_of_ble_eq_true rfl) (Nat.le_of_ble_eq_true rfl) ?_
    exact WP.sub (J20 _ (by unfold tkM; rw [if_neg c7])) ⟨rfl, rfl, rfl, trivial⟩
  · refine zw_iload_n dX5_receives_10 rfl ?_
    refine zw_goto (tgt := 20) dX5_receives_11 (by decide) ?_
    exact WP.sub (J20 _ (by unfold tkM; rw [if_pos c7])) ⟨rfl, rfl, rfl, trivial⟩
def tdF (D : Mem) (m s : Nat) : Int32 := if D (m + 1) (92 + 5 * s + 2) = nI 1 then nI 1 else nI 0
abbrev sD (D : Mem) (m P s : Nat) (sd : Int32) : Int32 := sm (fun p => aF (dm D m p s) sd) P
abbrev nD (D : Mem) (m P s : Nat) : Int32 := sm (fun p => p01 (dm D m p s)) P
def qD (D : Mem) (m P s : Nat) : Int32 := sD D m P s (nI 0) + D (m + 1) (92 + 5 * s + 1)
def wnF (D : Mem) (m P s : Nat) : Int32 := if nD D m P s = 0 then D (m + 1) (92 + 5 * s + 0) else if qD D m P s = sD D m P s (nI 1) then tdF D m s else if sD D m P s (nI 1) < qD D m P s then nI 0 else nI 1
set_option maxRecDepth 100000 in
set_option maxHeartbeats 4000000 in
theorem c_X5_tied {sh : Sh} {D : Mem} {m : Nat} (hm : IsMo sh m) {s : Nat} (hs : s < 96) : Calls mX5_tied 1 0 0 [.inr (some (m)), .inl (nI (s))] sh (D) (some (.inl (tdF D m s))) sh (D) := by
  refine Calls.of plX5 (Nat.le_of_ble_eq_true rfl) ?_
  show WP mX5_tied 1 0 0 0 [some (.inr (some (m))), some (.inl (nI (s)))] [] sh (D) (some (.inl (tdF D m s))) sh (D)
  refine zw_aload_n dX5_tied_0 rfl ?_
  refine zw_iload_n dX5_tied_1 rfl ?_
  refine zw_iconst (v := nI 2) dX5_tied_2 (by decide) ?_
  refine zw_cVi dX5_tied_3 (c_X5_slotOf hm (by omega) (by omega)) rfl okX5_slotOf ml_X5_46 hm.i hm.k (by decide) rfl (Nat.le_of_ble_eq_true rfl) (Nat.le_of_ble_eq_true rfl) ?_
  refine zw_iconst (v := nI 1) dX5_tied_6 (by decide) ?_
  refine zw_icmp_ne (tgt := 14) dX5_tied_7 (by decide) (fun c7 => ?_) (fun c7 => ?_)
  · refine zw_iconst (v := nI 0) dX5_tied_14 (by decide) ?_
    exact zw_iretE dX5_tied_15 rfl (by unfold tdF; rw [if_neg c7]) rfl (rfl)
  · refine zw_iconst (v := nI 1) dX5_tied_10 (by decide) ?_
    refine zw_goto (tgt := 15) dX5_tied_11 (by decide) ?_
    exact zw_iretE dX5_tied_15 rfl (by unfold tdF; rw [if_pos c7]) rfl (rfl)
set_option maxRecDepth 100000 in
set_option maxHeartbeats 4000000 in
theorem c_X5_winnerOf {sh : Sh} {D : Mem} {m P : Nat} (hm : IsMo sh m) (hw : Wm D m P) {s : Nat} (hs : s < 96) : Calls mX5_winnerOf 3 0 0 [.inr (some (m)), .inl (nI (s))] sh (D) (some (.inl (wnF D m P s))) sh (D) := by
  refine Calls.of plX5 (Nat.le_of_ble_eq_true rfl) ?_
  have hP12 := hw.2.1
  show WP mX5_winnerOf 3 0 0 0 [some (.inr (some (m))), some (.inl (nI (s))), none, none] [] sh (D) (some (.inl (wnF D m P s))) sh (D)
  refine zw_aload_n dX5_winnerOf_0 rfl ?_
  refine zw_iload_n dX5_winnerOf_1 rfl ?_
  refine zw_cVi dX5_winnerOf_2 (c_X5_bidsFor hm hw (by omega)) rfl okX5_bidsFor ml_X5_92 hm.i hm.k (by decide) rfl (Nat.le_of_ble_eq_true rfl) (Nat.le_of_ble_eq_true rfl) ?_
  refine zw_if_ne (tgt := 15) dX5_winnerOf_5 (by decide) (fun c5 => ?_) (fun c5 => ?_)
  · refine zw_aload_n dX5_winnerOf_15 rfl ?_
    refine zw_iload_n dX5_winnerOf_16 rfl ?_
    refine zw_iconst (v := nI 0) dX5_winnerOf_17 (by decide) ?_
    refine zw_cVi dX5_winnerOf_18 (c_X5_sumOf hm hw (by omega) _) rfl okX5_sumOf ml_X5_95 hm.i hm.k (by decide) rfl (Nat.le_of_ble_eq_true rfl) (Nat.le_of_ble_eq_true rfl) ?_
    refine zw_aload_n dX5_winnerOf_21 rfl ?_
    refine zw_iload_n dX5_winnerOf_22 rfl ?_
    refine zw_iconst (v := nI 1) dX5_winnerOf_23 (by decide) ?_
    refine zw_cVi dX5_winnerOf_24 (c_X5_slotOf hm (by omega) (by omega)) rfl okX5_slotOf ml_X5_46 hm.i hm.k (by decide) rfl (Nat.le_of_ble_eq_true rfl) (Nat.le_of_ble_eq_true rfl) ?_
    refine zw_iadd dX5_winnerOf_27 ?_
    refine zw_istore_n dX5_winnerOf_28 (by decide) ?_
    refine zw_aload_n dX5_winnerOf_29 rfl ?_
    refine zw_iload_n dX5_winnerOf_30 rfl ?_
    refine zw_iconst (v := nI 1) dX5_winnerOf_31 (by decide) ?_
    refine zw_cVi dX5_winnerOf_32 (c_X5_sumOf hm hw (by omega) _) rfl okX5_sumOf ml_X5_95 hm.i hm.k (by decide) rfl (Nat.le_of_ble_eq_true rfl) (Nat.le_of_ble_eq_true rfl) ?_
    refine zw_istore_n dX5_winnerOf_35 (by decide) ?_
    refine zw_iload_n dX5_winnerOf_36 rfl ?_
    refine zw_iload_n dX5_winnerOf_37 rfl ?_
    refine zw_icmp_ne (tgt := 49) dX5_winnerOf_38 (by decide) (fun c38 => ?_) (fun c38 => ?_)
    · refine zw_iload_n dX5_winnerOf_49 rfl ?_
      refine zw_iload_n dX5_winnerOf_50 rfl ?_
      refine zw_icmp_le (tgt := 58) dX5_winnerOf_51 (by decide) (fun c51 => ?_) (fun c51 => ?_)
      · refine zw_iconst (v := nI 1) dX5_winnerOf_58 (by decide) ?_
        exact zw_iretE dX5_winnerOf_59 rfl (by unfold wnF qD; rw [if_neg c5, if_neg c38, if_neg c51]) rfl (rfl)
      · refine zw_iconst (v := nI 0) dX5_winnerOf_54 (by decide) ?_
        refine zw_goto (tgt := 59) dX5_winnerOf_55 (by decide) ?_
        exact zw_iretE dX5_winnerOf_59 rfl (by unfold wnF qD; rw [if_neg c5, if_neg c38, if_pos c51]) rfl (rfl)
    · refine zw_aload_n dX5_winnerOf_41 rfl ?_
      refine zw_iload_n dX5_winnerOf_42 rfl ?_
      refine zw_cVi dX5_winnerOf_43 (c_X5_tied hm (by omega)) rfl okX5_tied ml_X5_98 hm.i hm.k (by decide) rfl (Nat.le_of_ble_eq_true rfl) (Nat.le_of_ble_eq_true rfl) ?_
      refine zw_goto (tgt := 59) dX5_winnerOf_46 (by decide) ?_
      exact zw_iretE dX5_winnerOf_59 rfl (by unfold wnF qD; rw [if_neg c5, if_pos c38]) rfl (rfl)
  · refine zw_aload_n dX5_winnerOf_8 rfl ?_
    refine zw_iload_n dX5_winnerOf_9 rfl ?_
    refine zw_iconst (v := nI 0) dX5_winnerOf_10 (by decide) ?_
    refine zw_cVi dX5_winnerOf_11 (c_X5_slotOf hm (by omega) (by omega)) rfl okX5_slotOf ml_X5_46 hm.i hm.k (by decide) rfl (Nat.le_of_ble_eq_true rfl) (Nat.le_of_ble_eq_true rfl) ?_
    exact zw_iretE dX5_winnerOf_14 rfl (by unfold wnF; rw [if_pos c5]) rfl (rfl)
def coSt (D : Mem) (m s : Nat) (sd : Int32) (p : Nat) : Mem :=
  let own := aF (dm D m p s) sd
  if 0 < own then adM (adM (adM D m p 0 (-own)) m p 3 own) m p 2 (nI 1) else D
def coM (D : Mem) (m s : Nat) (sd : Int32) : Nat → Mem
  | 0 => D
  | k + 1 => coSt (coM D m s sd k) m s sd k
def coW (D : Mem) (m s : Nat) (sd : Int32) : Nat → Int32
  | 0 => nI 0
  | k + 1 => if 0 < aF (dm (coM D m s sd k) m k s) sd then coW D m s sd k ||| (nI 1 <<< (nI k &&& 31)) else coW D m s sd k
theorem coSt_a {D : Mem} {m s p a : Nat} {sd : Int32} (h : a ≠ m + 1) : coSt D m s sd p a = D a := by
  unfold coSt
  split
  · rw [adM_a h, adM_a h, adM_a h]
  · rfl
theorem coSt_j {D : Mem} {m s p j : Nat} {sd : Int32} (h0 : j ≠ 8 + 7 * p + 0) (h3 : j ≠ 8 + 7 * p + 3) (h2 : j ≠ 8 + 7 * p + 2) : coSt D m s sd p (m + 1) j = D (m + 1) j := by
  unfold coSt
  split
  · rw [adM_ne h2, adM_ne h3, adM_ne h0]
  · rfl
theorem coM_a {D : Mem} {m s a : Nat} {sd : Int32} (h : a ≠ m + 1) : ∀ k, coM D m s sd k a = D a
  | 0 => rfl
  | k + 1 => (coSt_a h).trans (coM_a h k)
theorem coM_j {D : Mem} {m s j : Nat} {sd : Int32} (h : ∀ p, j ≠ 8 + 7 * p + 0 ∧ j ≠ 8 + 7 * p + 3 ∧ j ≠ 8 + 7 * p + 2) : ∀ k, coM D m s sd k (m + 1) j = D (m + 1) j
  | 0 => rfl
  | k + 1 => (coSt_j (h k).1 (h k).2.1 (h k).2.2).trans (coM_j h k)
theorem Wm.co {D : Mem} {m P s : Nat} {sd : Int32} (hw : Wm D m P) (k : Nat) : Wm (coM D m s sd k) m P := hw.of (coM_j (fun p => by omega) k) (fun i hi => coM_j (fun p => by omega) k)
def shS (D : Mem) (m s : Nat) (sd sum lost : Int32) (p : Nat) : Mem :=
  let own := aF (dm D m p s) (nI 1 - sd)
  if 0 < own then rcD (adM D m p 4 (sum * own / lost)) m p (sum * own / lost) else D
def shD (D : Mem) (m s : Nat) (sd sum lost : Int32) : Nat → Mem
  | 0 => D
  | k + 1 => shS (shD D m s sd sum lost k) m s sd sum lost k
def shL (D : Mem) (m s : Nat) (sd sum lost : Int32) : Nat → Int32
  | 0 => sum
  | k + 1 => if 0 < aF (dm (shD D m s sd sum lost k) m k s) (nI 1 - sd) then shL D m s sd sum lost k - sum * aF (dm (shD D m s sd sum lost k) m k s) (nI 1 - sd) / lost else shL D m s sd sum lost k
theorem Wm.ad {D : Mem} {m P p w : Nat} {v : Int32} (hw : Wm D m P) (h : w ≠ 6) (hw7 : w < 7) : Wm (adM D m p w v) m P := hw.of (adM_ne (by omega)) (fun i hi => adM_ne (by omega))
theorem Wm.pu {D : Mem} {m P s w : Nat} {v : Int32} (hw : Wm D m P) : Wm (puM D m s w v) m P := hw.of (puM_ne (by omega)) (fun i hi => puM_ne (by omega))
theorem shS_a {D : Mem} {m s p a : Nat} {sd sum lost : Int32} (h : a ≠ m + 1) : shS D m s sd sum lost p a = D a := by
  unfold shS
  split
  · rw [rcD_a h, adM_a h]
  · rfl
theorem shD_a {D : Mem} {m s a : Nat} {sd sum lost : Int32} (h : a ≠ m + 1) : ∀ k, shD D m s sd sum lost k a = D a
  | 0 => rfl
  | k + 1 => (shS_a h).trans (shD_a h k)
theorem Wm.shs {D : Mem} {m P s p : Nat} {sd sum lost : Int32} (hw : Wm D m P) (hp : p < 12) : Wm (shS D m s sd sum lost p) m P := by
  unfold shS
  simp only []
  split
  · exact (hw.ad (by decide) (by decide)).rc hp
  · exact hw
theorem Wm.sh {D : Mem} {m P s : Nat} {sd sum lost : Int32} (hw : Wm D m P) : ∀ k, k ≤ 12 → Wm (shD D m s sd sum lost k) m P
  | 0, _ => hw
  | k + 1, h => (hw.sh k (by omega)).shs (by omega)
def stM (D : Mem) (m P s : Nat) : Mem :=
  if nD D m P s = 0 then puM (puM D m s 1 (D (m + 1) (92 + 5 * s + 1) / nI 2)) m s 4 (nI 0)
  else
    let sd := wnF D m P s
    let sum := sD D m P s sd
    let lost := sD D m P s (nI 1 - sd)
    let D1 := coM D m s sd P
    let D2 := shD D1 m s sd sum lost P
    let D3 := up D2 (m + 1) (4 + s / 24) (D2 (m + 1) (4 + s / 24) + shL D1 m s sd sum lost P)
    let D4 := puM D3 m s 0 sd
    let D5 := puM D4 m s 1 (if sd = nI 1 then qD D m P s / nI 2 else nI 0)
    let D6 := puM D5 m s 2 (sd + nI 1)
    let D7 := puM D6 m s 3 (if sd = 0 then coW D m s sd P else nI 0)
    puM D7 m s 4 sum
theorem Wm.st {D : Mem} {m P s : Nat} (hw : Wm D m P) (hs : s < 96) : Wm (stM D m P s) m P := by
  unfold stM
  simp only []
  split
  · exact hw.pu.pu
  · exact ((((((((hw.co P).sh P hw.2.1).wj (by omega) (fun _ _ => by omega)).pu).pu).pu).pu).pu)
/-- the marks of bids are as they may be -/
def BkOk (D : Mem) (m : Nat) : Prop := ∀ p s, p < 12 → s < 96 → ∃ k : Nat, dm D m p s = nI k ∧ (k ≤ 999 ∨ (1001 ≤ k ∧ k ≤ 1999))
theorem aF_n {b sd : Int32} {k : Nat} (h : b = nI k) (hk : k ≤ 999 ∨ (1001 ≤ k ∧ k ≤ 1999)) : ∃ j : Nat, j ≤ 999 ∧ aF b sd = nI j := by
  subst h
  unfold aF
  by_cases h0 : nI k = 0
  · exact ⟨0, by omega, by rw [if_pos h0]⟩
  · rw [if_neg h0]
    by_cases h1 : nI 1000 < nI k
    · have h2 : 1000 < k := (nI_ltI (by decide) (by omega)).mp h1
      rw [if_pos h1]
      by_cases h3 : nI 1 = sd
      · subst h3
        exact ⟨k - 1000, by omega, by rw [if_pos rfl, pk_mul, pk_sub (by omega)]⟩
      · exact ⟨0, by omega, by rw [if_neg h3]⟩
    · have h2 : ¬ 1000 < k := fun z => h1 ((nI_ltI (by decide) (by omega)).mpr z)
      rw [if_neg h1]
      by_cases h3 : nI 0 = sd
      · subst h3
        exact ⟨k, by omega, by rw [if_pos rfl, pk_mul, pk_sub (by omega)]; rfl⟩
      · exact ⟨0, by omega, by rw [if_neg h3]⟩
theorem sm_n {f : Nat → Int32} {B : Nat} (h : ∀ p, p < 12 → ∃ j : Nat, j ≤ B ∧ f p = nI j) : ∀ P, P ≤ 12 → ∃ J : Nat, J ≤ B * P ∧ sm f P = nI J ∧ ∀ p, p < P → ∀ j : Nat, j ≤ B → f p = nI j → B < 2 ^ 20 → j ≤ J
  | 0, _ => ⟨0, by omega, rfl, fun p hp => absurd hp (Nat.not_lt_zero p)⟩
  | P + 1, hP => by
    obtain ⟨J, h1, h2, h3⟩ := sm_n h P (by omega)
    obtain ⟨j, h4, h5⟩ := h P (by omega)
    refine ⟨J + j, by rw [Nat.mul_succ]; omega, by show sm f P + f P = _; rw [h2, h5, nI_add], fun p hp i hi e hB => ?_⟩
    by_cases hpP : p = P
    · subst hpP
      have : i = j := (nI_eq (by omega) (by omega)).mp (e.symm.trans h5)
      omega
    · have := h3 p (by omega) i hi e hB
      omega
theorem sD_ne0 {D : Mem} {m P s p : Nat} {sd : Int32} (hB : BkOk D m) (hP : P ≤ 12) (hs : s < 96) (hp : p < P) (h : 0 < aF (dm D m p s) sd) : ¬ sD D m P s sd = 0 := by
  have hf : ∀ p, p < 12 → ∃ j : Nat, j ≤ 999 ∧ (fun p => aF (dm D m p s) sd) p = nI j := fun p hp => by
    obtain ⟨k, h1, h2⟩ := hB p s hp hs
    exact aF_n h1 h2
  obtain ⟨J, h1, h2, h3⟩ := sm_n hf P hP
  obtain ⟨j, h4, h5⟩ := hf p (by omega)
  have h6 := h3 p hp j h4 h5 (by decide)
  have h7 : 0 < j := by
    have h8 : 0 < nI j := by rw [← h5]; exact h
    rw [← nI_0] at h8
    exact (nI_ltI (by decide) (by omega)).mp h8
  intro h9
  have h10 : sm (fun p => aF (dm D m p s) sd) P = 0 := h9
  rw [h2, ← nI_0] at h10
  have := (nI_eq (by omega) (by decide)).mp h10
  omega
theorem rcD_b {D : Mem} {m P p q s : Nat} {v : Int32} (hw : Wm D m P) (hp : p < 12) : dm (rcD D m p v) m q s = dm D m q s := rcD_j hw hp (by omega) (by omega) (by omega)
theorem coM_b {D : Mem} {m s q t : Nat} {sd : Int32} {k : Nat} (hk : k ≤ 12) : dm (coM D m s sd k) m q t = dm D m q t := by
  induction k with
  | zero => rfl
  | succ k ih => exact (coSt_j (by omega) (by omega) (by omega)).trans (ih (by omega))
theorem shS_b {D : Mem} {m P s p q t : Nat} {sd sum lost : Int32} (hw : Wm D m P) (hp : p < 12) : dm (shS D m s sd sum lost p) m q t = dm D m q t := by
  unfold shS
  simp only []
  split
  · exact (rcD_b (hw.ad (by decide) (by decide)) hp).trans (adM_ne (by omega))
  · rfl
theorem shD_b {D : Mem} {m P s q t : Nat} {sd sum lost : Int32} (hw : Wm D m P) : ∀ k, k ≤ 12 → dm (shD D m s sd sum lost k) m q t = dm D m q t
  | 0, _ => rfl
  | k + 1, h => (shS_b (hw.sh k (by omega)) (by omega)).trans (shD_b hw k (by omega))
theorem stM_b {D : Mem} {m P s q t : Nat} (hw : Wm D m P) (hs : s < 96) : dm (stM D m P s) m q t = dm D m q t := by
  unfold stM
  by_cases h : nD D m P s = 0
  · rw [if_pos h]
    exact (puM_ne (by omega)).trans (puM_ne (by omega))
  · rw [if_neg h]
    simp only []
    refine (puM_ne (by omega)).trans ((puM_ne (by omega)).trans ((puM_ne (by omega)).trans ((puM_ne (by omega)).trans ((puM_ne (by omega)).trans ((up_ne2 (by omega)).trans ?_)))))
    exact (shD_b (hw.co P) P hw.2.1).trans (coM_b hw.2.1)
set_option maxRecDepth 100000 in
set_option maxHeartbeats 4000000 in
theorem c_X5_settles {sh : Sh} {D : Mem} {m P : Nat} (hm : IsMo sh m) (hw : Wm D m P) {s : Nat} (hs : s < 96) (hB : BkOk D m) : Calls mX5_settles 4 0 0 [.inr (some (m)), .inl (nI (s))] sh (D) (none) sh (stM D m P s) := by
  refine Calls.of plX5 (Nat.le_of_ble_eq_true rfl) ?_
  have hP12 := hw.2.1
  show WP mX5_settles 4 0 0 0 [some (.inr (some (m))), some (.inl (nI (s))), none, none, none, none, none, none, none, none, none] [] sh (D) (none) sh (stM D m P s)
  refine zw_aload_n dX5_settles_0 rfl ?_
  refine zw_iload_n dX5_settles_1 rfl ?_
  refine zw_cVi dX5_settles_2 (c_X5_bidsFor hm hw (by omega)) rfl okX5_bidsFor ml_X5_92 hm.i hm.k (by decide) rfl (Nat.le_of_ble_eq_true rfl) (Nat.le_of_ble_eq_true rfl) ?_
  refine zw_if_ne (tgt := 30) dX5_settles_5 (by decide) (fun c5 => ?_) (fun c5 => ?_)
  · refine zw_aload_n dX5_settles_30 rfl ?_
    refine zw_iload_n dX5_settles_31 rfl ?_
    refine zw_cVi dX5_settles_32 (c_X5_winnerOf hm hw (by omega)) rfl okX5_winnerOf ml_X5_104 hm.i hm.k (by decide) rfl (Nat.le_of_ble_eq_true rfl) (Nat.le_of_ble_eq_true rfl) ?_
    refine zw_istore_n dX5_settles_35 (by decide) ?_
    refine zw_aload_n dX5_settles_36 rfl ?_
    refine zw_iload_n dX5_settles_37 rfl ?_
    refine zw_iconst (v := nI 0) dX5_settles_38 (by decide) ?_
    refine zw_cVi dX5_settles_39 (c_X5_sumOf hm hw (by omega) _) rfl okX5_sumOf ml_X5_95 hm.i hm.k (by decide) rfl (Nat.le_of_ble_eq_true rfl) (Nat.le_of_ble_eq_true rfl) ?_
    refine zw_aload_n dX5_settles_42 rfl ?_
    refine zw_iload_n dX5_settles_43 rfl ?_
    refine zw_iconst (v := nI 1) dX5_settles_44 (by decide) ?_
    refine zw_cVi dX5_settles_45 (c_X5_slotOf hm (by omega) (by omega)) rfl okX5_slotOf ml_X5_46 hm.i hm.k (by decide) rfl (Nat.le_of_ble_eq_true rfl) (Nat.le_of_ble_eq_true rfl) ?_
    refine zw_iadd dX5_settles_48 ?_
    refine zw_istore_n dX5_settles_49 (by decide) ?_
    refine zw_aload_n dX5_settles_50 rfl ?_
    refine zw_iload_n dX5_settles_51 rfl ?_
    refine zw_iload_n dX5_settles_52 rfl ?_
    refine zw_cVi dX5_settles_53 (c_X5_sumOf hm hw (by omega) _) rfl okX5_sumOf ml_X5_95 hm.i hm.k (by decide) rfl (Nat.le_of_ble_eq_true rfl) (Nat.le_of_ble_eq_true rfl) ?_
    refine zw_istore dX5_settles_56 (by decide) ?_
    refine zw_aload_n dX5_settles_58 rfl ?_
    refine zw_iload_n dX5_settles_59 rfl ?_
    refine zw_iconst (v := nI 1) dX5_settles_60 (by decide) ?_
    refine zw_iload_n dX5_settles_61 rfl ?_
    refine zw_isub dX5_settles_62 ?_
    refine zw_cVi dX5_settles_63 (c_X5_sumOf hm hw (by omega) _) rfl okX5_sumOf ml_X5_95 hm.i hm.k (by decide) rfl (Nat.le_of_ble_eq_true rfl) (Nat.le_of_ble_eq_true rfl) ?_
    refine zw_istore dX5_settles_66 (by decide) ?_
    refine zw_iload dX5_settles_68 rfl ?_
    refine zw_istore dX5_settles_70 (by decide) ?_
    refine zw_iconst (v := nI 0) dX5_settles_72 (by decide) ?_
    refine zw_istore dX5_settles_73 (by decide) ?_
    refine zw_iconst (v := nI 0) dX5_settles_75 (by decide) ?_
    refine zw_istore dX5_settles_76 (by decide) ?_
    have L78 : ∀ (n_78 k : Nat), k + n_78 = P → WP mX5_settles 4 0 0 78 [some (.inr (some (m))), some (.inl (nI (s))), some (.inl ((wnF D m P s))), some (.inl ((qD D m P s))), some (.inl ((sD D m P s (wnF D m P s)))), some (.inl ((sD D m P s (nI 1 - wnF D m P s)))), some (.inl ((sD D m P s (wnF D m P s)))), some (.inl (coW D m s (wnF D m P s) (k))), some (.inl (nI (k))), none, none] [] sh (coM D m s (wnF D m P s) (k)) (none) sh (stM D m P s) := by
      intro n_78
      induction n_78 with
      | zero =>
        intro k hk78
        have ek78 : P = k := by omega
        subst ek78
        refine zw_iload dX5_settles_78 rfl ?_
        refine zw_aload_n dX5_settles_80 rfl ?_
        refine zw_getR (j := 0) (kd := 5) dX5_settles_81 hm.i hm.k (by decide) (by decide) fl_X5_7 rfl hm.r0 ?_
        refine zw_iconst (v := nI 1) dX5_settles_84 (by decide) ?_
        refine zw_ialdv (v := (nI (P))) dX5_settles_85 hm.i0 hm.k0 hm.L0 rfl (by rw [hm.n0]; omega) (hw.co (P)).1 ?_
        refine zw_icmp_ge_n (tgt := 146) dX5_settles_86 (by decide) (by omega) (by omega) (fun c86 => ?_) (fun c86 => by omega)
        refine zw_iconst (v := nI 0) dX5_settles_146 (by decide) ?_
        refine zw_istore dX5_settles_147 (by decide) ?_
        have L149 : ∀ (n_149 k : Nat), k + n_149 = P → WP mX5_settles 4 0 0 149 [some (.inr (some (m))), some (.inl (nI (s))), some (.inl ((wnF D m P s))), some (.inl ((qD D m P s))), some (.inl ((sD D m P s (wnF D m P s)))), some (.inl ((sD D m P s (nI 1 - wnF D m P s)))), some (.inl (shL (coM D m s (wnF D m P s) P) m s (wnF D m P s) (sD D m P s (wnF D m P s)) (sD D m P s (nI 1 - wnF D m P s)) (k))), some (.inl ((coW D m s (wnF D m P s) P))), some (.inl (nI (k))), none, none] [] sh (shD (coM D m s (wnF D m P s) P) m s (wnF D m P s) (sD D m P s (wnF D m P s)) (sD D m P s (nI 1 - wnF D m P s)) (k)) (none) sh (stM D m P s) := by
          intro n_149
          induction n_149 with
          | zero =>
            intro k hk149
            have ek149 : P = k := by omega
            subst ek149
            refine zw_iload dX5_settles_149 rfl ?_
            refine zw_aload_n dX5_settles_151 rfl ?_
            refine zw_getR (j := 0) (kd := 5) dX5_settles_152 hm.i hm.k (by decide) (by decide) fl_X5_7 rfl hm.r0 ?_
            refine zw_iconst (v := nI 1) dX5_settles_155 (by decide) ?_
            refine zw_ialdv (v := (nI (P))) dX5_settles_156 hm.i0 hm.k0 hm.L0 rfl (by rw [hm.n0]; omega) ((hw.co P).sh (P) (by omega)).1 ?_
            refine zw_icmp_ge_n (tgt := 217) dX5_settles_157 (by decide) (by omega) (by omega) (fun c157 => ?_) (fun c157 => by omega)
            refine zw_aload_n dX5_settles_217 rfl ?_
            refine zw_getR (j := 0) (kd := 5) dX5_settles_218 hm.i hm.k (by decide) (by decide) fl_X5_7 rfl hm.r0 ?_
            refine zw_iconst (v := nI 4) dX5_settles_221 (by decide) ?_
            refine zw_iload_n dX5_settles_222 rfl ?_
            refine zw_bipush (v := nI 24) dX5_settles_223 (by decide) ?_
            refine zw_idivn dX5_settles_225 (by omega) (by omega) (by omega) ?_
            refine zw_iaddn dX5_settles_226 ?_
            refine zw_dup2 dX5_settles_227 ?_
            refine zw_iald dX5_settles_228 hm.i0 hm.k0 hm.L0 rfl (by rw [hm.n0]; omega) ?_
            refine zw_iload dX5_settles_229 rfl ?_
            refine zw_iadd dX5_settles_231 ?_
            refine zw_iast dX5_settles_232 hm.i0 hm.k0 hm.L0 rfl (by rw [hm.n0]; omega) ?_
            refine zw_aload_n dX5_settles_233 rfl ?_
            refine zw_iload_n dX5_settles_234 rfl ?_
            refine zw_iconst (v := nI 0) dX5_settles_235 (by decide) ?_
            refine zw_iload_n dX5_settles_236 rfl ?_
            refine zw_cVv dX5_settles_237 (c_X5_puts hm (by omega) (by omega) _) rfl okX5_puts ml_X5_101 hm.i hm.k (by decide) rfl (Nat.le_of_ble_eq_true rfl) (Nat.le_of_ble_eq_true rfl) ?_
            refine zw_aload_n dX5_settles_240 rfl ?_
            refine zw_iload_n dX5_settles_241 rfl ?_
            refine zw_iconst (v := nI 1) dX5_settles_242 (by decide) ?_
            refine zw_iload_n dX5_settles_243 rfl ?_
            refine zw_iconst (v := nI 1) dX5_settles_244 (by decide) ?_
            refine zw_icmp_ne (tgt := 254) dX5_settles_245 (by decide) (fun c245 => ?_) (fun c245 => ?_)
            · refine zw_iconst (v := nI 0) dX5_settles_254 (by decide) ?_
              refine zw_cVv dX5_settles_255 (c_X5_puts hm (by omega) (by omega) _) rfl okX5_puts ml_X5_101 hm.i hm.k (by decide) rfl (Nat.le_of_ble_eq_true rfl) (Nat.le_of_ble_eq_true rfl) ?_
              refine zw_aload_n dX5_settles_258 rfl ?_
              refine zw_iload_n dX5_settles_259 rfl ?_
              refine zw_iconst (v := nI 2) dX5_settles_260 (by decide) ?_
              refine zw_iload_n dX5_settles_261 rfl ?_
              refine zw_iconst (v := nI 1) dX5_settles_262 (by decide) ?_
              refine zw_iadd dX5_settles_263 ?_
              refine zw_cVv dX5_settles_264 (c_X5_puts hm (by omega) (by omega) _) rfl okX5_puts ml_X5_101 hm.i hm.k (by decide) rfl (Nat.le_of_ble_eq_true rfl) (Nat.le_of_ble_eq_true rfl) ?_
              refine zw_aload_n dX5_settles_267 rfl ?_
              refine zw_iload_n dX5_settles_268 rfl ?_
              refine zw_iconst (v := nI 3) dX5_settles_269 (by decide) ?_
              refine zw_iload_n dX5_settles_270 rfl ?_
              refine zw_if_ne (tgt := 279) dX5_settles_271 (by decide) (fun c271 => ?_) (fun c271 => ?_)
              · refine zw_iconst (v := nI 0) dX5_settles_279 (by decide) ?_
                refine zw_cVv dX5_settles_280 (c_X5_puts hm (by omega) (by omega) _) rfl okX5_puts ml_X5_101 hm.i hm.k (by decide) rfl (Nat.le_of_ble_eq_true rfl) (Nat.le_of_ble_eq_true rfl) ?_
                refine zw_aload_n dX5_settles_283 rfl ?_
                refine zw_iload_n dX5_settles_284 rfl ?_
                refine zw_iconst (v := nI 4) dX5_settles_285 (by decide) ?_
                refine zw_iload dX5_settles_286 rfl ?_
                refine zw_cVv dX5_settles_288 (c_X5_puts hm (by omega) (by omega) _) rfl okX5_puts ml_X5_101 hm.i hm.k (by decide) rfl (Nat.le_of_ble_eq_true rfl) (Nat.le_of_ble_eq_true rfl) ?_
                exact zw_vretE dX5_settles_291 rfl rfl rfl (by unfold stM; rw [if_neg c5]; simp only []; rw [if_neg c245, if_neg c271] <;> rfl)
              · refine zw_iload dX5_settles_274 rfl ?_
                refine zw_goto (tgt := 280) dX5_settles_276 (by decide) ?_
                refine zw_cVv dX5_settles_280 (c_X5_puts hm (by omega) (by omega) _) rfl okX5_puts ml_X5_101 hm.i hm.k (by decide) rfl (Nat.le_of_ble_eq_true rfl) (Nat.le_of_ble_eq_true rfl) ?_
                refine zw_aload_n dX5_settles_283 rfl ?_
                refine zw_iload_n dX5_settles_284 rfl ?_
                refine zw_iconst (v := nI 4) dX5_settles_285 (by decide) ?_
                refine zw_iload dX5_settles_286 rfl ?_
                refine zw_cVv dX5_settles_288 (c_X5_puts hm (by omega) (by omega) _) rfl okX5_puts ml_X5_101 hm.i hm.k (by decide) rfl (Nat.le_of_ble_eq_true rfl) (Nat.le_of_ble_eq_true rfl) ?_
                exact zw_vretE dX5_settles_291 rfl rfl rfl (by unfold stM; rw [if_neg c5]; simp only []; rw [if_neg c245, if_pos c271] <;> rfl)
            · refine zw_iload_n dX5_settles_248 rfl ?_
              refine zw_iconst (v := nI 2) dX5_settles_249 (by decide) ?_
              refine zw_idiv dX5_settles_250 (nI_ne0 (by decide) (by decide)) ?_
              refine zw_goto (tgt := 255) dX5_settles_251 (by decide) ?_
              refine zw_cVv dX5_settles_255 (c_X5_puts hm (by omega) (by omega) _) rfl okX5_puts ml_X5_101 hm.i hm.k (by decide) rfl (Nat.le_of_ble_eq_true rfl) (Nat.le_of_ble_eq_true rfl) ?_
              refine zw_aload_n dX5_settles_258 rfl ?_
              refine zw_iload_n dX5_settles_259 rfl ?_
              refine zw_iconst (v := nI 2) dX5_settles_260 (by decide) ?_
              refine zw_iload_n dX5_settles_261 rfl ?_
              refine zw_iconst (v := nI 1) dX5_settles_262 (by decide) ?_
              refine zw_iadd dX5_settles_263 ?_
              refine zw_cVv dX5_settles_264 (c_X5_puts hm (by omega) (by omega) _) rfl okX5_puts ml_X5_101 hm.i hm.k (by decide) rfl (Nat.le_of_ble_eq_true rfl) (Nat.le_of_ble_eq_true rfl) ?_
              refine zw_aload_n dX5_settles_267 rfl ?_
              refine zw_iload_n dX5_settles_268 rfl ?_
              refine zw_iconst (v := nI 3) dX5_settles_269 (by decide) ?_
              refine zw_iload_n dX5_settles_270 rfl ?_
              refine zw_if_ne (tgt := 279) dX5_settles_271 (by decide) (fun c271 => ?_) (fun c271 => ?_)
              · refine zw_iconst (v := nI 0) dX5_settles_279 (by decide) ?_
                refine zw_cVv dX5_settles_280 (c_X5_puts hm (by omega) (by omega) _) rfl okX5_puts ml_X5_101 hm.i hm.k (by decide) rfl (Nat.le_of_ble_eq_true rfl) (Nat.le_of_ble_eq_true rfl) ?_
                refine zw_aload_n dX5_settles_283 rfl ?_
                refine zw_iload_n dX5_settles_284 rfl ?_
                refine zw_iconst (v := nI 4) dX5_settles_285 (by decide) ?_
                refine zw_iload dX5_settles_286 rfl ?_
                refine zw_cVv dX5_settles_288 (c_X5_puts hm (by omega) (by omega) _) rfl okX5_puts ml_X5_101 hm.i hm.k (by decide) rfl (Nat.le_of_ble_eq_true rfl) (Nat.le_of_ble_eq_true rfl) ?_
                exact zw_vretE dX5_settles_291 rfl rfl rfl (by unfold stM; rw [if_neg c5]; simp only []; rw [if_pos c245, if_neg c271] <;> rfl)
              · refine zw_iload dX5_settles_274 rfl ?_
                refine zw_goto (tgt := 280) dX5_settles_276 (by decide) ?_
                refine zw_cVv dX5_settles_280 (c_X5_puts hm (by omega) (by omega) _) rfl okX5_puts ml_X5_101 hm.i hm.k (by decide) rfl (Nat.le_of_ble_eq_true rfl) (Nat.le_of_ble_eq_true rfl) ?_
                refine zw_aload_n dX5_settles_283 rfl ?_
                refine zw_iload_n dX5_settles_284 rfl ?_
                refine zw_iconst (v := nI 4) dX5_settles_285 (by decide) ?_
                refine zw_iload dX5_settles_286 rfl ?_
                refine zw_cVv dX5_settles_288 (c_X5_puts hm (by omega) (by omega) _) rfl okX5_puts ml_X5_101 hm.i hm.k (by decide) rfl (Nat.le_of_ble_eq_true rfl) (Nat.le_of_ble_eq_true rfl) ?_
                exact zw_vretE dX5_settles_291 rfl rfl rfl (by unfold stM; rw [if_neg c5]; simp only []; rw [if_pos c245, if_pos c271] <;> rfl)
          | succ n_149 ih149 =>
            intro k hk149
            have hlt149 : k < P := by omega
            refine zw_iload dX5_settles_149 rfl ?_
            refine zw_aload_n dX5_settles_151 rfl ?_
            refine zw_getR (j := 0) (kd := 5) dX5_settles_152 hm.i hm.k (by decide) (by decide) fl_X5_7 rfl hm.r0 ?_
            refine zw_iconst (v := nI 1) dX5_settles_155 (by decide) ?_
            refine zw_ialdv (v := (nI (P))) dX5_settles_156 hm.i0 hm.k0 hm.L0 rfl (by rw [hm.n0]; omega) ((hw.co P).sh (k) (by omega)).1 ?_
            refine zw_icmp_ge_n (tgt := 217) dX5_settles_157 (by decide) (by omega) (by omega) (fun c157 => by omega) (fun c157 => ?_)
            refine zw_aload_n dX5_settles_160 rfl ?_
            refine zw_iload dX5_settles_161 rfl ?_
            refine zw_iload_n dX5_settles_163 rfl ?_
            refine zw_iconst (v := nI 1) dX5_settles_164 (by decide) ?_
            refine zw_iload_n dX5_settles_165 rfl ?_
            refine zw_isub dX5_settles_166 ?_
            refine zw_cVi dX5_settles_167 (c_X5_amount hm (by omega) (by omega) _) rfl okX5_amount ml_X5_39 hm.i hm.k (by decide) rfl (Nat.le_of_ble_eq_true rfl) (Nat.le_of_ble_eq_true rfl) ?_
            refine zw_istore dX5_settles_170 (by decide) ?_
            refine zw_iload dX5_settles_172 rfl ?_
            refine zw_if_le (tgt := 211) dX5_settles_174 (by decide) (fun c174 => ?_) (fun c174 => ?_)
            · refine zw_iincn dX5_settles_211 rfl (by decide) ?_
              refine zw_goto (tgt := 149) dX5_settles_214 (by decide) ?_
              refine zw_mem (C2 := shD (coM D m s (wnF D m P s) P) m s (wnF D m P s) (sD D m P s (wnF D m P s)) (sD D m P s (nI 1 - wnF D m P s)) (k + 1)) (by simp [shD, shS, *]) ?_
              exact WP.sub (ih149 (k + 1) (by omega)) ⟨rfl, rfl, rfl, rfl, rfl, rfl, (hd_eq (by simp [shL, *])), rfl, rfl, trivial⟩
            · refine zw_iload dX5_settles_177 rfl ?_
              refine zw_iload dX5_settles_179 rfl ?_
              refine zw_imul dX5_settles_181 ?_
              refine zw_iload dX5_settles_182 rfl ?_
              refine zw_idiv dX5_settles_184 (sD_ne0 hB hP12 hs hlt149 (by have h := c174; rw [shD_b (hw.co P) k (by omega), coM_b hP12] at h; exact h)) ?_
              refine zw_istore dX5_settles_185 (by decide) ?_
              refine zw_iload dX5_settles_187 rfl ?_
              refine zw_iload dX5_settles_189 rfl ?_
              refine zw_isub dX5_settles_191 ?_
              refine zw_istore dX5_settles_192 (by decide) ?_
              refine zw_aload_n dX5_settles_194 rfl ?_
              refine zw_iload dX5_settles_195 rfl ?_
              refine zw_iconst (v := nI 4) dX5_settles_197 (by decide) ?_
              refine zw_iload dX5_settles_198 rfl ?_
              refine zw_cVv dX5_settles_200 (c_X5_adds hm (by omega) (by omega) _) rfl okX5_adds ml_X5_53 hm.i hm.k (by decide) rfl (Nat.le_of_ble_eq_true rfl) (Nat.le_of_ble_eq_true rfl) ?_
              refine zw_aload_n dX5_settles_203 rfl ?_
              refine zw_iload dX5_settles_204 rfl ?_
              refine zw_iload dX5_settles_206 rfl ?_
              refine zw_cVv dX5_settles_208 (c_X5_receives hm (((hw.co P).sh (k) (by omega)).ad (by decide) (by decide)) (by omega) _) rfl okX5_receives ml_X5_71 hm.i hm.k (by decide) rfl (Nat.le_of_ble_eq_true rfl) (Nat.le_of_ble_eq_true rfl) ?_
              refine zw_iincn dX5_settles_211 rfl (by decide) ?_
              refine zw_goto (tgt := 149) dX5_settles_214 (by decide) ?_
              refine zw_mem (C2 := shD (coM D m s (wnF D m P s) P) m s (wnF D m P s) (sD D m P s (wnF D m P s)) (sD D m P s (nI 1 - wnF D m P s)) (k + 1)) (by simp [shD, shS, *]) ?_
              exact WP.sub (ih149 (k + 1) (by omega)) ⟨rfl, rfl, rfl, rfl, rfl, rfl, (hd_eq (by simp [shL, *])), rfl, rfl, trivial⟩
        exact WP.sub (L149 (P) 0 (by omega)) ⟨rfl, rfl, rfl, rfl, rfl, rfl, rfl, rfl, rfl, trivial⟩
      | succ n_78 ih78 =>
        intro k hk78
        have hlt78 : k < P := by omega
        refine zw_iload dX5_settles_78 rfl ?_
        refine zw_aload_n dX5_settles_80 rfl ?_
        refine zw_getR (j := 0) (kd := 5) dX5_settles_81 hm.i hm.k (by decide) (by decide) fl_X5_7 rfl hm.r0 ?_
        refine zw_iconst (v := nI 1) dX5_settles_84 (by decide) ?_
        refine zw_ialdv (v := (nI (P))) dX5_settles_85 hm.i0 hm.k0 hm.L0 rfl (by rw [hm.n0]; omega) (hw.co (k)).1 ?_
        refine zw_icmp_ge_n (tgt := 146) dX5_settles_86 (by decide) (by omega) (by omega) (fun c86 => by omega) (fun c86 => ?_)
        refine zw_aload_n dX5_settles_89 rfl ?_
        refine zw_iload dX5_settles_90 rfl ?_
        refine zw_iload_n dX5_settles_92 rfl ?_
        refine zw_iload_n dX5_settles_93 rfl ?_
        refine zw_cVi dX5_settles_94 (c_X5_amount hm (by omega) (by omega) _) rfl okX5_amount ml_X5_39 hm.i hm.k (by decide) rfl (Nat.le_of_ble_eq_true rfl) (Nat.le_of_ble_eq_true rfl) ?_
        refine zw_istore dX5_settles_97 (by decide) ?_
        refine zw_iload dX5_settles_99 rfl ?_
        refine zw_if_le (tgt := 140) dX5_settles_101 (by decide) (fun c101 => ?_) (fun c101 => ?_)
        · refine zw_iincn dX5_settles_140 rfl (by decide) ?_
          refine zw_goto (tgt := 78) dX5_settles_143 (by decide) ?_
          refine zw_mem (C2 := coM D m s (wnF D m P s) (k + 1)) (by simp [coM, coSt, *]) ?_
          exact WP.sub (ih78 (k + 1) (by omega)) ⟨rfl, rfl, rfl, rfl, rfl, rfl, rfl, (hd_eq (by simp [coW, *])), rfl, trivial⟩
        · refine zw_aload_n dX5_settles_104 rfl ?_
          refine zw_iload dX5_settles_105 rfl ?_
          refine zw_iconst (v := nI 0) dX5_settles_107 (by decide) ?_
          refine zw_iload dX5_settles_108 rfl ?_
          refine zw_ineg dX5_settles_110 ?_
          refine zw_cVv dX5_settles_111 (c_X5_adds hm (by omega) (by omega) _) rfl okX5_adds ml_X5_53 hm.i hm.k (by decide) rfl (Nat.le_of_ble_eq_true rfl) (Nat.le_of_ble_eq_true rfl) ?_
          refine zw_aload_n dX5_settles_114 rfl ?_
          refine zw_iload dX5_settles_115 rfl ?_
          refine zw_iconst (v := nI 3) dX5_settles_117 (by decide) ?_
          refine zw_iload dX5_settles_118 rfl ?_
          refine zw_cVv dX5_settles_120 (c_X5_adds hm (by omega) (by omega) _) rfl okX5_adds ml_X5_53 hm.i hm.k (by decide) rfl (Nat.le_of_ble_eq_true rfl) (Nat.le_of_ble_eq_true rfl) ?_
          refine zw_aload_n dX5_settles_123 rfl ?_
          refine zw_iload dX5_settles_124 rfl ?_
          refine zw_iconst (v := nI 2) dX5_settles_126 (by decide) ?_
          refine zw_iconst (v := nI 1) dX5_settles_127 (by decide) ?_
          refine zw_cVv dX5_settles_128 (c_X5_adds hm (by omega) (by omega) _) rfl okX5_adds ml_X5_53 hm.i hm.k (by decide) rfl (Nat.le_of_ble_eq_true rfl) (Nat.le_of_ble_eq_true rfl) ?_
          refine zw_iload dX5_settles_131 rfl ?_
          refine zw_iconst (v := nI 1) dX5_settles_133 (by decide) ?_
          refine zw_iload dX5_settles_134 rfl ?_
          refine zw_ishl dX5_settles_136 ?_
          refine zw_ior dX5_settles_137 ?_
          refine zw_istore dX5_settles_138 (by decide) ?_
          refine zw_iincn dX5_settles_140 rfl (by decide) ?_
          refine zw_goto (tgt := 78) dX5_settles_143 (by decide) ?_
          refine zw_mem (C2 := coM D m s (wnF D m P s) (k + 1)) (by simp [coM, coSt, *]) ?_
          exact WP.sub (ih78 (k + 1) (by omega)) ⟨rfl, rfl, rfl, rfl, rfl, rfl, rfl, (hd_eq (by simp [coW, *])), rfl, trivial⟩
    exact WP.sub (L78 (P) 0 (by omega)) ⟨rfl, rfl, rfl, rfl, rfl, rfl, rfl, rfl, rfl, trivial⟩
  · refine zw_aload_n dX5_settles_8 rfl ?_
    refine zw_iload_n dX5_settles_9 rfl ?_
    refine zw_iconst (v := nI 1) dX5_settles_10 (by decide) ?_
    refine zw_aload_n dX5_settles_11 rfl ?_
    refine zw_iload_n dX5_settles_12 rfl ?_
    refine zw_iconst (v := nI 1) dX5_settles_13 (by decide) ?_
    refine zw_cVi dX5_settles_14 (c_X5_slotOf hm (by omega) (by omega)) rfl okX5_slotOf ml_X5_46 hm.i hm.k (by decide) rfl (Nat.le_of_ble_eq_true rfl) (Nat.le_of_ble_eq_true rfl) ?_
    refine zw_iconst (v := nI 2) dX5_settles_17 (by decide) ?_
    refine zw_idiv dX5_settles_18 (nI_ne0 (by decide) (by decide)) ?_
    refine zw_cVv dX5_settles_19 (c_X5_puts hm (by omega) (by omega) _) rfl okX5_puts ml_X5_101 hm.i hm.k (by decide) rfl (Nat.le_of_ble_eq_true rfl) (Nat.le_of_ble_eq_true rfl) ?_
    refine zw_aload_n dX5_settles_22 rfl ?_
    refine zw_iload_n dX5_settles_23 rfl ?_
    refine zw_iconst (v := nI 4) dX5_settles_24 (by decide) ?_
    refine zw_iconst (v := nI 0) dX5_settles_25 (by decide) ?_
    refine zw_cVv dX5_settles_26 (c_X5_puts hm (by omega) (by omega) _) rfl okX5_puts ml_X5_101 hm.i hm.k (by decide) rfl (Nat.le_of_ble_eq_true rfl) (Nat.le_of_ble_eq_true rfl) ?_
    exact zw_vretE dX5_settles_29 rfl rfl rfl (by unfold stM; rw [if_pos c5])
def saL (D : Mem) (m P : Nat) : Nat → Mem
  | 0 => D
  | s + 1 => stM (saL D m P s) m P s
theorem Wm.sa {D : Mem} {m P : Nat} (hw : Wm D m P) : ∀ s, s ≤ 96 → Wm (saL D m P s) m P
  | 0, _ => hw
  | s + 1, h => (hw.sa s (by omega)).st (by omega)
theorem saL_b {D : Mem} {m P q t : Nat} (hw : Wm D m P) : ∀ s, s ≤ 96 → dm (saL D m P s) m q t = dm D m q t
  | 0, _ => rfl
  | s + 1, h => (stM_b (hw.sa s (by omega)) (by omega)).trans (saL_b hw s (by omega))
theorem BkOk.sa {D : Mem} {m P : Nat} (hB : BkOk D m) (hw : Wm D m P) {s : Nat} (hs : s ≤ 96) : BkOk (saL D m P s) m := fun p t hp ht => by
  rw [saL_b hw s hs]
  exact hB p t hp ht
def saM (D : Mem) (m P : Nat) : Mem :=
  let D1 := fcO (saL D m P 96) (m + 1) 572 (fun _ => nI 0) 1152
  up D1 (m + 1) 0 (D1 (m + 1) 0 + nI 1)
theorem Wm.z {D : Mem} {m P n : Nat} {g : Nat → Int32} (hw : Wm D m P) : Wm (fcO D (m + 1) 572 g n) m P := hw.of (fcO_out (by omega)) (fun i hi => fcO_out (by omega))
set_option maxRecDepth 100000 in
set_option maxHeartbeats 4000000 in
theorem c_X5_settlesAll {sh : Sh} {D : Mem} {m P : Nat} (hm : IsMo sh m) (hw : Wm D m P) (hB : BkOk D m) : Calls mX5_settlesAll 5 0 0 [.inr (some (m))] sh (D) (none) sh (saM D m P) := by
  refine Calls.of plX5 (Nat.le_of_ble_eq_true rfl) ?_
  have hP12 := hw.2.1
  show WP mX5_settlesAll 5 0 0 0 [some (.inr (some (m))), none] [] sh (D) (none) sh (saM D m P)
  refine zw_iconst (v := nI 0) dX5_settlesAll_0 (by decide) ?_
  refine zw_istore_n dX5_settlesAll_1 (by decide) ?_
  have L2 : ∀ (n_2 k : Nat), k + n_2 = 96 → WP mX5_settlesAll 5 0 0 2 [some (.inr (some (m))), some (.inl (nI (k)))] [] sh (saL D m P (k)) (none) sh (saM D m P) := by
    intro n_2
    induction n_2 with
    | zero =>
      intro k hk2
      have ek2 : 96 = k := by omega
      subst ek2
      refine zw_iload_n dX5_settlesAll_2 rfl ?_
      refine zw_bipush (v := nI 96) dX5_settlesAll_3 (by decide) ?_
      refine zw_icmp_ge_n (tgt := 19) dX5_settlesAll_5 (by decide) (by omega) (by omega) (fun c5 => ?_) (fun c5 => by omega)
      refine zw_sipush (v := nI 572) dX5_settlesAll_19 (by decide) ?_
      refine zw_istore_n dX5_settlesAll_22 (by decide) ?_
      refine zw_mem (C2 := fcO (saL D m P 96) (m + 1) 572 (fun _ => nI 0) 0) fcO_0.symm ?_
      have L23 : ∀ (n_23 k : Nat), k + n_23 = 1152 → WP mX5_settlesAll 5 0 0 23 [some (.inr (some (m))), some (.inl (nI (572 + (k))))] [] sh (fcO (saL D m P 96) (m + 1) 572 (fun _ => nI 0) (k)) (none) sh (saM D m P) := by
        intro n_23
        induction n_23 with
        | zero =>
          intro k hk23
          have ek23 : 1152 = k := by omega
          subst ek23
          refine zw_iload_n dX5_settlesAll_23 rfl ?_
          refine zw_sipush (v := nI 1724) dX5_settlesAll_24 (by decide) ?_
          refine zw_icmp_ge_n (tgt := 43) dX5_settlesAll_27 (by decide) (by omega) (by omega) (fun c27 => ?_) (fun c27 => by omega)
          refine zw_aload_n dX5_settlesAll_43 rfl ?_
          refine zw_getR (j := 0) (kd := 5) dX5_settlesAll_44 hm.i hm.k (by decide) (by decide) fl_X5_7 rfl hm.r0 ?_
          refine zw_iconst (v := nI 0) dX5_settlesAll_47 (by decide) ?_
          refine zw_dup2 dX5_settlesAll_48 ?_
          refine zw_iald dX5_settlesAll_49 hm.i0 hm.k0 hm.L0 rfl (by rw [hm.n0]; omega) ?_
          refine zw_iconst (v := nI 1) dX5_settlesAll_50 (by decide) ?_
          refine zw_iadd dX5_settlesAll_51 ?_
          refine zw_iast dX5_settlesAll_52 hm.i0 hm.k0 hm.L0 rfl (by rw [hm.n0]; omega) ?_
          exact zw_vretE dX5_settlesAll_53 rfl rfl rfl (rfl)
        | succ n_23 ih23 =>
          intro k hk23
          have hlt23 : k < 1152 := by omega
          refine zw_iload_n dX5_settlesAll_23 rfl ?_
          refine zw_sipush (v := nI 1724) dX5_settlesAll_24 (by decide) ?_
          refine zw_icmp_ge_n (tgt := 43) dX5_settlesAll_27 (by decide) (by omega) (by omega) (fun c27 => by omega) (fun c27 => ?_)
          refine zw_aload_n dX5_settlesAll_30 rfl ?_
          refine zw_getR (j := 0) (kd := 5) dX5_settlesAll_31 hm.i hm.k (by decide) (by decide) fl_X5_7 rfl hm.r0 ?_
          refine zw_iload_n dX5_settlesAll_34 rfl ?_
          refine zw_iconst (v := nI 0) dX5_settlesAll_35 (by decide) ?_
          refine zw_iast dX5_settlesAll_36 hm.i0 hm.k0 hm.L0 rfl (by rw [hm.n0]; omega) ?_
          refine zw_iincn dX5_settlesAll_37 rfl (by decide) ?_
          refine zw_goto (tgt := 23) dX5_settlesAll_40 (by decide) ?_
          refine zw_mem (C2 := fcO (saL D m P 96) (m + 1) 572 (fun _ => nI 0) (k + 1)) (fcO_s rfl) ?_
          exact WP.sub (ih23 (k + 1) (by omega)) ⟨rfl, rfl, trivial⟩
      exact WP.sub (L23 (1152) 0 (by omega)) ⟨rfl, rfl, trivial⟩
    | succ n_2 ih2 =>
      intro k hk2
      have hlt2 : k < 96 := by omega
      refine zw_iload_n dX5_settlesAll_2 rfl ?_
      refine zw_bipush (v := nI 96) dX5_settlesAll_3 (by decide) ?_
      refine zw_icmp_ge_n (tgt := 19) dX5_settlesAll_5 (by decide) (by omega) (by omega) (fun c5 => by omega) (fun c5 => ?_)
      refine zw_aload_n dX5_settlesAll_8 rfl ?_
      refine zw_iload_n dX5_settlesAll_9 rfl ?_
      refine zw_cVv dX5_settlesAll_10 (c_X5_settles hm (hw.sa (k) (by omega)) (by omega) (hB.sa hw (by omega : k ≤ 96))) rfl okX5_settles ml_X5_107 hm.i hm.k (by decide) rfl (Nat.le_of_ble_eq_true rfl) (Nat.le_of_ble_eq_true rfl) ?_
      refine zw_iincn dX5_settlesAll_13 rfl (by decide) ?_
      refine zw_goto (tgt := 2) dX5_settlesAll_16 (by decide) ?_
      exact WP.sub (ih2 (k + 1) (by omega)) ⟨rfl, rfl, trivial⟩
  exact WP.sub (L2 (96) 0 (by omega)) ⟨rfl, rfl, trivial⟩
theorem ntS_a {D : Mem} {m z a : Nat} (h : a ≠ m) (h2 : a ≠ m + 2) : ntS D m z a = D a := by
  unfold ntS
  split
  · rw [up_ne h, fcO_ne h2]
  · rfl
theorem ntM_a {D : Mem} {m z a : Nat} (h : a ≠ m) (h2 : a ≠ m + 2) : ntM D m z a = D a := by
  unfold ntM
  rw [up_ne h, fcO_ne h2, ntS_a h h2]
theorem Wm.nt {D : Mem} {m P z : Nat} (hw : Wm D m P) : Wm (ntM D m z) m P := hw.of (by rw [ntM_a (by omega) (by omega)]) (fun p hp => by rw [ntM_a (by omega) (by omega)])
theorem BkOk.nt {D : Mem} {m z : Nat} (hB : BkOk D m) : BkOk (ntM D m z) m := fun p s hp hs => by
  have := hB p s hp hs
  unfold dm at this ⊢
  rw [ntM_a (by omega) (by omega)]
  exact this
set_option maxRecDepth 100000 in
set_option maxHeartbeats 4000000 in
theorem d_settle_ill {sh : Sh} {D : Mem} {m P : Nat} (hm : IsMo sh m) (hw : Wm D m P) (hd : D (m + 1) 0 = nI 999) : Calls mX5_settle 6 0 0 [.inr (some (m))] sh (D) (some (.inl (-2))) sh (D) := by
  refine Calls.of plX5 (Nat.le_of_ble_eq_true rfl) ?_
  have hP12 := hw.2.1
  show WP mX5_settle 6 0 0 0 [some (.inr (some (m)))] [] sh (D) (some (.inl (-2))) sh (D)
  refine zw_aload_n dX5_settle_0 rfl ?_
  refine zw_getR (j := 0) (kd := 5) dX5_settle_1 hm.i hm.k (by decide) (by decide) fl_X5_7 rfl hm.r0 ?_
  refine zw_iconst (v := nI 0) dX5_settle_4 (by decide) ?_
  refine zw_iald dX5_settle_5 hm.i0 hm.k0 hm.L0 rfl (by rw [hm.n0]; omega) ?_
  refine zw_sipush (v := nI 999) dX5_settle_6 (by decide) ?_
  refine zw_icmp_ne (tgt := 15) dX5_settle_9 (by decide) (fun c9 => absurd hd c9) (fun c9 => ?_)
  refine zw_bipush (v := (-2)) dX5_settle_12 (by decide) ?_
  exact zw_iretE dX5_settle_14 rfl (rfl) rfl (rfl)
set_option maxRecDepth 100000 in
set_option maxHeartbeats 4000000 in
theorem d_settle_ok {sh : Sh} {D : Mem} {m P : Nat} (hm : IsMo sh m) (hw : Wm D m P) {z : Nat} (hz : D m 2 = nI z) (hz5 : z ≤ 5) (hB : BkOk D m) (hd : ¬ D (m + 1) 0 = nI 999) : Calls mX5_settle 6 0 0 [.inr (some (m))] sh (D) (some (.inl (sm (fun s => saM (ntM D m z) m P (m + 1) (92 + 5 * s + 0)) 96))) sh (saM (ntM D m z) m P) := by
  refine Calls.of plX5 (Nat.le_of_ble_eq_true rfl) ?_
  have hP12 := hw.2.1
  show WP mX5_settle 6 0 0 0 [some (.inr (some (m)))] [] sh (D) (some (.inl (sm (fun s => saM (ntM D m z) m P (m + 1) (92 + 5 * s + 0)) 96))) sh (saM (ntM D m z) m P)
  refine zw_aload_n dX5_settle_0 rfl ?_
  refine zw_getR (j := 0) (kd := 5) dX5_settle_1 hm.i hm.k (by decide) (by decide) fl_X5_7 rfl hm.r0 ?_
  refine zw_iconst (v := nI 0) dX5_settle_4 (by decide) ?_
  refine zw_iald dX5_settle_5 hm.i0 hm.k0 hm.L0 rfl (by rw [hm.n0]; omega) ?_
  refine zw_sipush (v := nI 999) dX5_settle_6 (by decide) ?_
  refine zw_icmp_ne (tgt := 15) dX5_settle_9 (by decide) (fun c9 => ?_) (fun c9 => absurd c9 hd)
  refine zw_aload_n dX5_settle_15 rfl ?_
  refine zw_cVv dX5_settle_16 (c_X5_notes hm hz hz5) rfl okX5_notes ml_X5_58 hm.i hm.k (by decide) rfl (Nat.le_of_ble_eq_true rfl) (Nat.le_of_ble_eq_true rfl) ?_
  refine zw_aload_n dX5_settle_19 rfl ?_
  refine zw_cVv dX5_settle_20 (c_X5_settlesAll hm (hw.nt) (hB.nt)) rfl okX5_settlesAll ml_X5_111 hm.i hm.k (by decide) rfl (Nat.le_of_ble_eq_true rfl) (Nat.le_of_ble_eq_true rfl) ?_
  refine zw_aload_n dX5_settle_23 rfl ?_
  refine zw_cVi dX5_settle_24 (c_X5_noisy hm) rfl okX5_noisy ml_X5_114 hm.i hm.k (by decide) rfl (Nat.le_of_ble_eq_true rfl) (Nat.le_of_ble_eq_true rfl) ?_
  exact zw_iretE dX5_settle_27 rfl (rfl) rfl (rfl)
