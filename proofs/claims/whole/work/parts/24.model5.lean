/-! ===== the reference: run ===== -/
/-- the error code of a bid, or 0 -/
def bEd (D : Mem) (m p s : Nat) (am : Int32) : Int32 := if nI 0 ≤ am ∧ am ≤ nI 999 then (if 0 < D (m + 1) (8 + 7 * p + 1) ∨ blF D m p s am < 0 then (-2) else nI 0) else (-1)
theorem bEd_0 {D : Mem} {m p s : Nat} {am : Int32} (h : bEd D m p s am = 0) : (nI 0 ≤ am ∧ am ≤ nI 999) ∧ bdOk D m p s am := by
  unfold bEd at h
  by_cases h1 : nI 0 ≤ am ∧ am ≤ nI 999
  · rw [if_pos h1] at h
    by_cases h2 : 0 < D (m + 1) (8 + 7 * p + 1) ∨ blF D m p s am < 0
    · rw [if_pos h2] at h
      exact absurd h (by decide)
    · exact ⟨h1, fun z => h2 (Or.inl z), fun z => h2 (Or.inr z)⟩
  · rw [if_neg h1] at h
    exact absurd h (by decide)
theorem bEd_y {D : Mem} {m p s : Nat} {am : Int32} (h1 : nI 0 ≤ am ∧ am ≤ nI 999) (h2 : bdOk D m p s am) : bEd D m p s am = 0 := by
  unfold bEd
  rw [if_pos h1, if_neg (fun z => z.elim h2.1 h2.2)]
  rfl
theorem bEd_neg {D : Mem} {m p s : Nat} {am : Int32} (h : ¬ bEd D m p s am = 0) : bEd D m p s am < 0 := by
  unfold bEd at h ⊢
  by_cases h1 : nI 0 ≤ am ∧ am ≤ nI 999
  · rw [if_pos h1] at h ⊢
    by_cases h2 : 0 < D (m + 1) (8 + 7 * p + 1) ∨ blF D m p s am < 0
    · rw [if_pos h2]; decide
    · rw [if_neg h2] at h
      exact absurd rfl h
  · rw [if_neg h1]; decide
theorem d_bids_er {sh : Sh} {D : Mem} {m P : Nat} (hm : IsMo sh m) (hw : Wm D m P) {p : Nat} (hp : p < P) {st h : Nat} (hst : st < 4) (hh : h < 24) (sd am : Int32) (hsd : nI 0 ≤ sd ∧ sd ≤ nI 1) (he : ¬ bEd D m p (24 * st + h) am = 0) : Calls mX5_bids 3 0 0 [.inr (some m), .inl (nI p), .inl (nI st), .inl (nI h), .inl sd, .inl am] sh D (some (.inl (bEd D m p (24 * st + h) am))) sh D := by
  by_cases h1 : nI 0 ≤ am ∧ am ≤ nI 999
  · by_cases h2 : bdOk D m p (24 * st + h) am
    · exact absurd (bEd_y h1 h2) he
    · have e : bEd D m p (24 * st + h) am = -2 := by
        unfold bEd
        rw [if_pos h1, if_pos]
        by_cases h3 : 0 < D (m + 1) (8 + 7 * p + 1)
        · exact Or.inl h3
        · exact Or.inr (Classical.not_not.mp (fun z => h2 ⟨h3, z⟩))
      rw [e]
      exact d_bids_ill hm hw hp hst hh sd am hsd h1 h2
  · have e : bEd D m p (24 * st + h) am = -1 := by
      unfold bEd
      rw [if_neg h1]
    rw [e]
    exact d_bids_am hm hw hp hst hh sd am hsd h1
def rnHD (m p st : Nat) (sd am : Int32) : Nat → Nat → Mem → Nat → Mem × Nat × Int32
  | 0, _, D, k => (D, k, 0)
  | n + 1, h, D, k => if bEd D m p (24 * st + h) am = 0 then rnHD m p st sd am n (h + 1) (bdM D m p (24 * st + h) sd am) (k + 1) else (D, k, bEd D m p (24 * st + h) am)
theorem rnHD_go {m p st n h k : Nat} {sd am : Int32} {D : Mem} (e : bEd D m p (24 * st + h) am = 0) : rnHD m p st sd am (n + 1) h D k = rnHD m p st sd am n (h + 1) (bdM D m p (24 * st + h) sd am) (k + 1) := if_pos e
theorem rnHD_no {m p st n h k : Nat} {sd am : Int32} {D : Mem} (e : ¬ bEd D m p (24 * st + h) am = 0) : rnHD m p st sd am (n + 1) h D k = (D, k, bEd D m p (24 * st + h) am) := if_neg e
def rnPD (m p : Nat) (pt : Nat → PT1) : Nat → Nat → Mem → Nat → Mem × Nat × Int32 × Nat
  | 0, i, D, k => (D, k, 0, i)
  | n + 1, i, D, k =>
    let r := rnHD m p (pt i).2.2.2.1 (pt i).2.2.1 (pt i).2.2.2.2.2.2 ((pt i).2.2.2.2.2.1 + 1 - (pt i).2.2.2.2.1) (pt i).2.2.2.2.1 D k
    if r.2.2 = 0 then rnPD m p pt n (i + 1) r.1 r.2.1 else (r.1, r.2.1, r.2.2, i)
theorem rnPD_go {m p n i k : Nat} {pt : Nat → PT1} {D D2 : Mem} {k2 : Nat} (e : rnHD m p (pt i).2.2.2.1 (pt i).2.2.1 (pt i).2.2.2.2.2.2 ((pt i).2.2.2.2.2.1 + 1 - (pt i).2.2.2.2.1) (pt i).2.2.2.2.1 D k = (D2, k2, 0)) : rnPD m p pt (n + 1) i D k = rnPD m p pt n (i + 1) D2 k2 := by
  conv => lhs; unfold rnPD
  simp only [e, if_true]
theorem rnPD_no {m p n i k : Nat} {pt : Nat → PT1} {D D2 : Mem} {k2 : Nat} {er : Int32} (he : ¬ er = 0) (e : rnHD m p (pt i).2.2.2.1 (pt i).2.2.1 (pt i).2.2.2.2.2.2 ((pt i).2.2.2.2.2.1 + 1 - (pt i).2.2.2.2.1) (pt i).2.2.2.2.1 D k = (D2, k2, er)) : rnPD m p pt (n + 1) i D k = (D2, k2, er, i) := by
  conv => lhs; unfold rnPD
  simp only [e, if_neg he]
def PtOkD (D : Mem) (m np : Nat) (pt : Nat → PT1) : Prop := ∀ i, i < np → D (m + 7) (7 * i + 5) = nI (pt i).1 ∧ D (m + 7) (7 * i + 6) = nI (pt i).2.1 ∧ (D (m + 7) (7 * i) = (pt i).2.2.1 ∧ (nI 0 ≤ (pt i).2.2.1 ∧ (pt i).2.2.1 ≤ nI 1)) ∧ (D (m + 7) (7 * i + 1) = nI (pt i).2.2.2.1 ∧ (pt i).2.2.2.1 < 4) ∧ (D (m + 7) (7 * i + 2) = nI (pt i).2.2.2.2.1 ∧ (pt i).2.2.2.2.1 ≤ (pt i).2.2.2.2.2.1) ∧ (D (m + 7) (7 * i + 3) = nI (pt i).2.2.2.2.2.1 ∧ (pt i).2.2.2.2.2.1 < 24) ∧ D (m + 7) (7 * i + 4) = (pt i).2.2.2.2.2.2
def RnD (D : Mem) (m P z np : Nat) (pt : Nat → PT1) : Prop := Wm D m P ∧ D m 2 = nI z ∧ D m 13 = nI np ∧ PtOkD D m np pt
theorem RnD.of {D D' : Mem} {m P z np : Nat} {pt : Nat → PT1} (h : RnD D m P z np pt) (h1 : Wm D' m P) (h2 : D' m = D m) (h3 : D' (m + 7) = D (m + 7)) : RnD D' m P z np pt :=
  ⟨h1, by rw [h2]; exact h.2.1, by rw [h2]; exact h.2.2.1, fun i hi => by rw [h3]; exact h.2.2.2 i hi⟩
theorem bdM_a {D : Mem} {m p s a : Nat} {sd am : Int32} (h : a ≠ m + 1) : bdM D m p s sd am a = D a := up_ne h
theorem Wm.bd {D : Mem} {m P p s : Nat} {sd am : Int32} (h : Wm D m P) : Wm (bdM D m p s sd am) m P := h.wj (by omega) (fun i hi => by omega)
theorem RnD.bd {D : Mem} {m P z np p s : Nat} {pt : Nat → PT1} {sd am : Int32} (h : RnD D m P z np pt) : RnD (bdM D m p s sd am) m P z np pt := h.of h.1.bd (bdM_a (by omega)) (bdM_a (by omega))
theorem baM_a {D : Mem} {m a : Nat} (h : a ≠ m + 1) : baM D m a = D a := fcO_ne h
theorem fbD_a {D : Mem} {m a : Nat} {x0 x1 x2 x3 x4 : Int32} (h : a ≠ m) (h2 : a ≠ m + 6) : fbD D m x0 x1 x2 x3 x4 a = D a := by
  unfold fbD
  rw [up_ne h2, up_ne h2, up_ne h2, up_ne h2, up_ne h2, up_ne h]
theorem fbD_1 {D : Mem} {m : Nat} {x0 x1 x2 x3 x4 : Int32} : fbD D m x0 x1 x2 x3 x4 (m + 6) 1 = x1 := by
  unfold fbD
  rw [up_ne2 (by decide), up_ne2 (by decide), up_ne2 (by decide), up_eq]
noncomputable def rdD (D : Mem) (m len : Nat) (tx : Nat → Int32) : Mem := QL (qrR m len tx D).1 m (qrE len (qrR m len tx D)) (qrR m len tx D).2.2.1 (qrR m len tx D).2.2.2
set_option maxRecDepth 100000 in
set_option maxHeartbeats 4000000 in
theorem d_run_bad {sh : Sh} {D : Mem} {m P : Nat} (hm : IsMo sh m) (hw : Wm D m P) (x : Int32) (hx : ¬ isP P x) : Calls mX5_run 5 0 0 [.inr (some (m)), .inl (x)] sh (D) (some (.inl (-1))) sh (D) := by
  refine Calls.of plX5 (Nat.le_of_ble_eq_true rfl) ?_
  have hP12 := hw.2.1
  show WP mX5_run 5 0 0 0 [some (.inr (some (m))), some (.inl (x)), none, none, none, none] [] sh (D) (some (.inl (-1))) sh (D)
  refine zw_aload_n dX5_run_0 rfl ?_
  refine zw_iload_n dX5_run_1 rfl ?_
  refine zw_cVi dX5_run_2 (c_X5_isPerson hm hw _) rfl okX5_isPerson ml_X5_61 hm.i hm.k (by decide) rfl (Nat.le_of_ble_eq_true rfl) (Nat.le_of_ble_eq_true rfl) ?_
  refine zw_if_ne_c (tgt := 10) dX5_run_5 (by decide) (fun c5 => absurd c5 hx) (fun c5 => ?_)
  refine zw_iconst (v := (-1)) dX5_run_8 (by decide) ?_
  exact zw_iretE dX5_run_9 rfl (rfl) rfl (rfl)
set_option maxRecDepth 100000 in
set_option maxHeartbeats 4000000 in
theorem d_run_pf {sh : Sh} {D : Mem} {m P : Nat} (hm : IsMo sh m) (hw : Wm D m P) {p : Nat} (hp : p < P) {len : Nat} {tx : Nat → Int32} (hT : MlOk D m len tx) (hf : ¬ (qrE len (qrR m len tx D)).2 = (-1)) : Calls mX5_run 5 0 0 [.inr (some (m)), .inl (nI (p))] sh (D) (some (.inl ((-1000) - (qrE len (qrR m len tx D)).2))) sh (rdD D m len tx) := by
  refine Calls.of plX5 (Nat.le_of_ble_eq_true rfl) ?_
  have hP12 := hw.2.1
  show WP mX5_run 5 0 0 0 [some (.inr (some (m))), some (.inl (nI (p))), none, none, none, none] [] sh (D) (some (.inl ((-1000) - (qrE len (qrR m len tx D)).2))) sh (rdD D m len tx)
  refine zw_aload_n dX5_run_0 rfl ?_
  refine zw_iload_n dX5_run_1 rfl ?_
  refine zw_cVi dX5_run_2 (c_X5_isPerson hm hw _) rfl okX5_isPerson ml_X5_61 hm.i hm.k (by decide) rfl (Nat.le_of_ble_eq_true rfl) (Nat.le_of_ble_eq_true rfl) ?_
  refine zw_if_ne_c (tgt := 10) dX5_run_5 (by decide) (fun c5 => ?_) (fun c5 => absurd (isP_n hp) c5)
  refine zw_aload_n dX5_run_10 rfl ?_
  refine zw_cVv dX5_run_11 (c_X5_reads hm hT) rfl okX5_reads ml_X5_159 hm.i hm.k (by decide) rfl (Nat.le_of_ble_eq_true rfl) (Nat.le_of_ble_eq_true rfl) ?_
  refine zw_aload_n dX5_run_14 rfl ?_
  refine zw_getIv (j := 9) (kd := 5) (v := (b01c (¬ (qrE len (qrR m len tx D)).2 = (-1)))) dX5_run_15 hm.i hm.k (by decide) (by decide) fl_X5_118 rfl QL_f ?_
  refine zw_if_eq_c (tgt := 32) dX5_run_18 (by decide) (fun c18 => absurd hf c18) (fun c18 => ?_)
  refine zw_sipush (v := (-1000)) dX5_run_21 (by decide) ?_
  refine zw_aload_n dX5_run_24 rfl ?_
  refine zw_getR (j := 11) (kd := 5) dX5_run_25 hm.i hm.k (by decide) (by decide) fl_X5_25 rfl hm.r11 ?_
  refine zw_iconst (v := nI 1) dX5_run_28 (by decide) ?_
  refine zw_ialdv (v := ((qrE len (qrR m len tx D)).2)) dX5_run_29 hm.i11 hm.k11 hm.L11 rfl (by rw [hm.n11]; omega) (by simp [QL, hf]) ?_
  refine zw_isub dX5_run_30 ?_
  exact zw_iretE dX5_run_31 rfl (rfl) rfl (rfl)
set_option maxRecDepth 100000 in
set_option maxHeartbeats 1000000 in
theorem w_runD_36 {sh : Sh} {D1 : Mem} {m P z p np : Nat} {pt : Nat → PT1} (hm : IsMo sh m) (hR0 : RnD D1 m P z np pt) (hz5 : z ≤ 5) (hp : p < P) (hnp14 : np ≤ 14) : WP mX5_run 5 0 0 36 [some (.inr (some (m))), some (.inl (nI (p))), none, none, none, none] [] sh (D1) (some (.inl (if (rnPD m p pt np 0 D1 0).2.2.1 = 0 then nI (rnPD m p pt np 0 D1 0).2.1 else (-1000) - nI (pt (rnPD m p pt np 0 D1 0).2.2.2).1))) sh ((if (rnPD m p pt np 0 D1 0).2.2.1 = 0 then baM (ntM (swM (rnPD m p pt np 0 D1 0).1 m) m z) m else baM (fbD (rnPD m p pt np 0 D1 0).1 m (nI 2) (nI (pt (rnPD m p pt np 0 D1 0).2.2.2).1) (nI (pt (rnPD m p pt np 0 D1 0).2.2.2).2.1) (nI (rnPD m p pt np 0 D1 0).2.1) (rnPD m p pt np 0 D1 0).2.2.1) m)) := by
  have hP12 := hR0.1.2.1
  refine zw_iconst (v := nI 0) dX5_run_36 (by decide) ?_
  refine zw_istore_n dX5_run_37 (by decide) ?_
  refine zw_iconst (v := nI 0) dX5_run_38 (by decide) ?_
  refine zw_istore_n dX5_run_39 (by decide) ?_
  have L40 : ∀ (n_40 i : Nat), i + n_40 = np → ∀ (D2 : Mem) (made : Nat), RnD D2 m P z np pt → (rnPD m p pt np 0 D1 0) = rnPD m p pt n_40 i D2 made → WP mX5_run 5 0 0 40 [some (.inr (some (m))), some (.inl (nI (p))), some (.inl (nI (made))), some (.inl (nI (7 * (i)))), none, none] [] sh (D2) (some (.inl (if (rnPD m p pt np 0 D1 0).2.2.1 = 0 then nI (rnPD m p pt np 0 D1 0).2.1 else (-1000) - nI (pt (rnPD m p pt np 0 D1 0).2.2.2).1))) sh ((if (rnPD m p pt np 0 D1 0).2.2.1 = 0 then baM (ntM (swM (rnPD m p pt np 0 D1 0).1 m) m z) m else baM (fbD (rnPD m p pt np 0 D1 0).1 m (nI 2) (nI (pt (rnPD m p pt np 0 D1 0).2.2.2).1) (nI (pt (rnPD m p pt np 0 D1 0).2.2.2).2.1) (nI (rnPD m p pt np 0 D1 0).2.1) (rnPD m p pt np 0 D1 0).2.2.1) m)) := by
    intro n_40
    induction n_40 with
    | zero =>
      intro i hk40 D2 made hR hx
      have ek40 : np = i := by omega
      subst ek40
      refine zw_iload_n dX5_run_40 rfl ?_
      refine zw_bipush (v := nI 7) dX5_run_41 (by decide) ?_
      refine zw_aload_n dX5_run_43 rfl ?_
      refine zw_getIv (j := 13) (kd := 5) (v := (nI (np))) dX5_run_44 hm.i hm.k (by decide) (by decide) fl_X5_144 rfl hR.2.2.1 ?_
      refine zw_imuln dX5_run_47 ?_
      refine zw_icmp_ge_n (tgt := 165) dX5_run_48 (by decide) (by omega) (by omega) (fun c48 => ?_) (fun c48 => by omega)
      refine zw_aload_n dX5_run_165 rfl ?_
      refine zw_cVv dX5_run_166 (c_X5_swaps hm) rfl okX5_swaps ml_X5_86 hm.i hm.k (by decide) rfl (Nat.le_of_ble_eq_true rfl) (Nat.le_of_ble_eq_true rfl) ?_
      refine zw_aload_n dX5_run_169 rfl ?_
      refine zw_cVv dX5_run_170 (c_X5_notes hm (by rw [swM_a (by omega) (by omega)]; exact hR.2.1) hz5) rfl okX5_notes ml_X5_58 hm.i hm.k (by decide) rfl (Nat.le_of_ble_eq_true rfl) (Nat.le_of_ble_eq_true rfl) ?_
      refine zw_aload_n dX5_run_173 rfl ?_
      refine zw_cVv dX5_run_174 (c_X5_backs hm) rfl okX5_backs ml_X5_89 hm.i hm.k (by decide) rfl (Nat.le_of_ble_eq_true rfl) (Nat.le_of_ble_eq_true rfl) ?_
      refine zw_iload_n dX5_run_177 rfl ?_
      exact zw_iretE dX5_run_178 rfl (by rw [show (rnPD m p pt np 0 D1 0) = (D2, made, 0, np) from hx]; simp only [if_true]) rfl (by rw [show (rnPD m p pt np 0 D1 0) = (D2, made, 0, np) from hx]; simp only [if_true])
    | succ n_40 ih40 =>
      intro i hk40 D2 made hR hx
      have hlt40 : i < np := by omega
      refine zw_iload_n dX5_run_40 rfl ?_
      refine zw_bipush (v := nI 7) dX5_run_41 (by decide) ?_
      refine zw_aload_n dX5_run_43 rfl ?_
      refine zw_getIv (j := 13) (kd := 5) (v := (nI (np))) dX5_run_44 hm.i hm.k (by decide) (by decide) fl_X5_144 rfl hR.2.2.1 ?_
      refine zw_imuln dX5_run_47 ?_
      refine zw_icmp_ge_n (tgt := 165) dX5_run_48 (by decide) (by omega) (by omega) (fun c48 => by omega) (fun c48 => ?_)
      have hpi := hR.2.2.2 i hlt40
      have hst4 := hpi.2.2.2.1.2
      have hfl := hpi.2.2.2.2.1.2
      have hl24 := hpi.2.2.2.2.2.1.2
      have hsd1 := hpi.2.2.1.2
      refine zw_aload_n dX5_run_51 rfl ?_
      refine zw_getR (j := 12) (kd := 5) dX5_run_52 hm.i hm.k (by decide) (by decide) fl_X5_28 rfl hm.r12 ?_
      refine zw_iload_n dX5_run_55 rfl ?_
      refine zw_iconst (v := nI 2) dX5_run_56 (by decide) ?_
      refine zw_iaddn dX5_run_57 ?_
      refine zw_ialdv (v := (nI ((pt i).2.2.2.2.1))) dX5_run_58 hm.i12 hm.k12 hm.L12 rfl (by rw [hm.n12]; omega) ((hR.2.2.2 i hlt40).2.2.2.2.1.1) ?_
      refine zw_istore dX5_run_59 (by decide) ?_
      have L61 : ∀ (n_61 j : Nat), j + n_61 = (pt i).2.2.2.2.2.1 + 1 → ∀ (D3 : Mem) (m3 : Nat), RnD D3 m P z np pt → rnHD m p (pt i).2.2.2.1 (pt i).2.2.1 (pt i).2.2.2.2.2.2 ((pt i).2.2.2.2.2.1 + 1 - (pt i).2.2.2.2.1) (pt i).2.2.2.2.1 D2 made = rnHD m p (pt i).2.2.2.1 (pt i).2.2.1 (pt i).2.2.2.2.2.2 n_61 j D3 m3 → WP mX5_run 5 0 0 61 [some (.inr (some (m))), some (.inl (nI (p))), some (.inl (nI (m3))), some (.inl (nI (7 * (i)))), some (.inl (nI (j))), none] [] sh (D3) (some (.inl (if (rnPD m p pt np 0 D1 0).2.2.1 = 0 then nI (rnPD m p pt np 0 D1 0).2.1 else (-1000) - nI (pt (rnPD m p pt np 0 D1 0).2.2.2).1))) sh ((if (rnPD m p pt np 0 D1 0).2.2.1 = 0 then baM (ntM (swM (rnPD m p pt np 0 D1 0).1 m) m z) m else baM (fbD (rnPD m p pt np 0 D1 0).1 m (nI 2) (nI (pt (rnPD m p pt np 0 D1 0).2.2.2).1) (nI (pt (rnPD m p pt np 0 D1 0).2.2.2).2.1) (nI (rnPD m p pt np 0 D1 0).2.1) (rnPD m p pt np 0 D1 0).2.2.1) m)) := by
        intro n_61
        induction n_61 with
        | zero =>
          intro j hk61 D3 m3 hR3 hx3
          have ek61 : (pt i).2.2.2.2.2.1 + 1 = j := by omega
          subst ek61
          refine zw_iload dX5_run_61 rfl ?_
          refine zw_aload_n dX5_run_63 rfl ?_
          refine zw_getR (j := 12) (kd := 5) dX5_run_64 hm.i hm.k (by decide) (by decide) fl_X5_28 rfl hm.r12 ?_
          refine zw_iload_n dX5_run_67 rfl ?_
          refine zw_iconst (v := nI 3) dX5_run_68 (by decide) ?_
          refine zw_iaddn dX5_run_69 ?_
          refine zw_ialdv (v := (nI ((pt i).2.2.2.2.2.1))) dX5_run_70 hm.i12 hm.k12 hm.L12 rfl (by rw [hm.n12]; omega) ((hR3.2.2.2 i hlt40).2.2.2.2.2.1.1) ?_
          refine zw_icmp_gt_n (tgt := 159) dX5_run_71 (by decide) (by omega) (by omega) (fun c71 => ?_) (fun c71 => by omega)
          refine zw_iinc (v := nI (7 * (i) + 7)) dX5_run_159 rfl (nI_add _ 7) (by decide) ?_
          refine zw_goto (tgt := 40) dX5_run_162 (by decide) ?_
          exact WP.sub (ih40 (i + 1) (by omega) _ _ hR3 (hx.trans (rnPD_go hx3))) ⟨rfl, rfl, rfl, (hd_eq (congrArg nI (by omega))), trivial⟩
        | succ n_61 ih61 =>
          intro j hk61 D3 m3 hR3 hx3
          have hlt61 : j < (pt i).2.2.2.2.2.1 + 1 := by omega
          refine zw_iload dX5_run_61 rfl ?_
          refine zw_aload_n dX5_run_63 rfl ?_
          refine zw_getR (j := 12) (kd := 5) dX5_run_64 hm.i hm.k (by decide) (by decide) fl_X5_28 rfl hm.r12 ?_
          refine zw_iload_n dX5_run_67 rfl ?_
          refine zw_iconst (v := nI 3) dX5_run_68 (by decide) ?_
          refine zw_iaddn dX5_run_69 ?_
          refine zw_ialdv (v := (nI ((pt i).2.2.2.2.2.1))) dX5_run_70 hm.i12 hm.k12 hm.L12 rfl (by rw [hm.n12]; omega) ((hR3.2.2.2 i hlt40).2.2.2.2.2.1.1) ?_
          refine zw_icmp_gt_n (tgt := 159) dX5_run_71 (by decide) (by omega) (by omega) (fun c71 => by omega) (fun c71 => ?_)
          refine zw_aload_n dX5_run_74 rfl ?_
          refine zw_iload_n dX5_run_75 rfl ?_
          refine zw_aload_n dX5_run_76 rfl ?_
          refine zw_getR (j := 12) (kd := 5) dX5_run_77 hm.i hm.k (by decide) (by decide) fl_X5_28 rfl hm.r12 ?_
          refine zw_iload_n dX5_run_80 rfl ?_
          refine zw_iconst (v := nI 1) dX5_run_81 (by decide) ?_
          refine zw_iaddn dX5_run_82 ?_
          refine zw_ialdv (v := (nI ((pt i).2.2.2.1))) dX5_run_83 hm.i12 hm.k12 hm.L12 rfl (by rw [hm.n12]; omega) ((hR3.2.2.2 i hlt40).2.2.2.1.1) ?_
          refine zw_iload dX5_run_84 rfl ?_
          refine zw_aload_n dX5_run_86 rfl ?_
          refine zw_getR (j := 12) (kd := 5) dX5_run_87 hm.i hm.k (by decide) (by decide) fl_X5_28 rfl hm.r12 ?_
          refine zw_iload_n dX5_run_90 rfl ?_
          refine zw_ialdv (v := ((pt i).2.2.1)) dX5_run_91 hm.i12 hm.k12 hm.L12 rfl (by rw [hm.n12]; omega) ((hR3.2.2.2 i hlt40).2.2.1.1) ?_
          refine zw_aload_n dX5_run_92 rfl ?_
          refine zw_getR (j := 12) (kd := 5) dX5_run_93 hm.i hm.k (by decide) (by decide) fl_X5_28 rfl hm.r12 ?_
          refine zw_iload_n dX5_run_96 rfl ?_
          refine zw_iconst (v := nI 4) dX5_run_97 (by decide) ?_
          refine zw_iaddn dX5_run_98 ?_
          refine zw_ialdv (v := ((pt i).2.2.2.2.2.2)) dX5_run_99 hm.i12 hm.k12 hm.L12 rfl (by rw [hm.n12]; omega) ((hR3.2.2.2 i hlt40).2.2.2.2.2.2) ?_
          by_cases hbe : bEd D3 m p (24 * (pt i).2.2.2.1 + j) (pt i).2.2.2.2.2.2 = 0
          · refine zw_cVi dX5_run_100 (d_bids_ok hm hR3.1 hp hst4 (by omega : j < 24) _ _ hsd1 (bEd_0 hbe).1 (bEd_0 hbe).2) rfl okX5_bids ml_X5_82 hm.i hm.k (by decide) rfl (Nat.le_of_ble_eq_true rfl) (Nat.le_of_ble_eq_true rfl) ?_
            refine zw_istore dX5_run_103 (by decide) ?_
            refine zw_iload dX5_run_105 rfl ?_
            refine zw_if_ge (tgt := 150) dX5_run_107 (by decide) (fun c107 => ?_) (fun c107 => absurd c107 (bEd_0 hbe).2.2)
            refine zw_iincn dX5_run_150 rfl (by decide) ?_
            refine zw_iincn dX5_run_153 rfl (by decide) ?_
            refine zw_goto (tgt := 61) dX5_run_156 (by decide) ?_
            exact WP.sub (ih61 (j + 1) (by omega) _ _ hR3.bd (hx3.trans (rnHD_go hbe))) ⟨rfl, rfl, rfl, rfl, rfl, trivial⟩
          · refine zw_cVi dX5_run_100 (d_bids_er hm hR3.1 hp hst4 (by omega : j < 24) _ _ hsd1 hbe) rfl okX5_bids ml_X5_82 hm.i hm.k (by decide) rfl (Nat.le_of_ble_eq_true rfl) (Nat.le_of_ble_eq_true rfl) ?_
            refine zw_istore dX5_run_103 (by decide) ?_
            refine zw_iload dX5_run_105 rfl ?_
            refine zw_if_ge (tgt := 150) dX5_run_107 (by decide) (fun c107 => absurd (bEd_neg hbe) c107) (fun c107 => ?_)
            refine zw_aload_n dX5_run_110 rfl ?_
            refine zw_iconst (v := nI 2) dX5_run_111 (by decide) ?_
            refine zw_aload_n dX5_run_112 rfl ?_
            refine zw_getR (j := 12) (kd := 5) dX5_run_113 hm.i hm.k (by decide) (by decide) fl_X5_28 rfl hm.r12 ?_
            refine zw_iload_n dX5_run_116 rfl ?_
            refine zw_iconst (v := nI 5) dX5_run_117 (by decide) ?_
            refine zw_iaddn dX5_run_118 ?_
            refine zw_ialdv (v := (nI ((pt i).1))) dX5_run_119 hm.i12 hm.k12 hm.L12 rfl (by rw [hm.n12]; omega) ((hR3.2.2.2 i hlt40).1) ?_
            refine zw_aload_n dX5_run_120 rfl ?_
            refine zw_getR (j := 12) (kd := 5) dX5_run_121 hm.i hm.k (by decide) (by decide) fl_X5_28 rfl hm.r12 ?_
            refine zw_iload_n dX5_run_124 rfl ?_
            refine zw_bipush (v := nI 6) dX5_run_125 (by decide) ?_
            refine zw_iaddn dX5_run_127 ?_
            refine zw_ialdv (v := (nI ((pt i).2.1))) dX5_run_128 hm.i12 hm.k12 hm.L12 rfl (by rw [hm.n12]; omega) ((hR3.2.2.2 i hlt40).2.1) ?_
            refine zw_iload_n dX5_run_129 rfl ?_
            refine zw_iload dX5_run_130 rfl ?_
            refine zw_cVv dX5_run_132 (c_X5_failedBy hm _ _ _ _ _) rfl okX5_failedBy ml_X5_125 hm.i hm.k (by decide) rfl (Nat.le_of_ble_eq_true rfl) (Nat.le_of_ble_eq_true rfl) ?_
            refine zw_aload_n dX5_run_135 rfl ?_
            refine zw_cVv dX5_run_136 (c_X5_backs hm) rfl okX5_backs ml_X5_89 hm.i hm.k (by decide) rfl (Nat.le_of_ble_eq_true rfl) (Nat.le_of_ble_eq_true rfl) ?_
            refine zw_sipush (v := (-1000)) dX5_run_139 (by decide) ?_
            refine zw_aload_n dX5_run_142 rfl ?_
            refine zw_getR (j := 11) (kd := 5) dX5_run_143 hm.i hm.k (by decide) (by decide) fl_X5_25 rfl hm.r11 ?_
            refine zw_iconst (v := nI 1) dX5_run_146 (by decide) ?_
            refine zw_ialdv (v := (nI ((pt i).1))) dX5_run_147 hm.i11 hm.k11 hm.L11 rfl (by rw [hm.n11]; omega) (by rw [baM_a (by omega)]; exact fbD_1) ?_
            refine zw_isub dX5_run_148 ?_
            exact zw_iretE dX5_run_149 rfl (by rw [show (rnPD m p pt np 0 D1 0) = (D3, m3, _, i) from hx.trans (rnPD_no hbe (hx3.trans (rnHD_no hbe)))]; simp only [if_neg hbe]) rfl (by rw [show (rnPD m p pt np 0 D1 0) = (D3, m3, _, i) from hx.trans (rnPD_no hbe (hx3.trans (rnHD_no hbe)))]; simp only [if_neg hbe])
      exact WP.sub (L61 ((pt i).2.2.2.2.2.1 + 1 - (pt i).2.2.2.2.1) (pt i).2.2.2.2.1 (by omega) D2 made hR rfl) ⟨rfl, rfl, rfl, rfl, rfl, trivial⟩
  exact WP.sub (L40 (np) 0 (by omega) D1 0 hR0 rfl) ⟨rfl, rfl, rfl, rfl, trivial⟩
set_option maxRecDepth 100000 in
set_option maxHeartbeats 4000000 in
theorem d_run_go {sh : Sh} {D : Mem} {m P z np : Nat} {pt : Nat → PT1} (hm : IsMo sh m) (hw : Wm D m P) (hz5 : z ≤ 5) {p : Nat} (hp : p < P) {len : Nat} {tx : Nat → Int32} (hT : MlOk D m len tx) (hf : (qrE len (qrR m len tx D)).2 = (-1)) (hnp14 : np ≤ 14) (hR0 : RnD (asM (rdD D m len tx) m) m P z np pt) : Calls mX5_run 5 0 0 [.inr (some (m)), .inl (nI (p))] sh (D) (some (.inl (if (rnPD m p pt np 0 (asM (rdD D m len tx) m) 0).2.2.1 = 0 then nI (rnPD m p pt np 0 (asM (rdD D m len tx) m) 0).2.1 else (-1000) - nI (pt (rnPD m p pt np 0 (asM (rdD D m len tx) m) 0).2.2.2).1))) sh ((if (rnPD m p pt np 0 (asM (rdD D m len tx) m) 0).2.2.1 = 0 then baM (ntM (swM (rnPD m p pt np 0 (asM (rdD D m len tx) m) 0).1 m) m z) m else baM (fbD (rnPD m p pt np 0 (asM (rdD D m len tx) m) 0).1 m (nI 2) (nI (pt (rnPD m p pt np 0 (asM (rdD D m len tx) m) 0).2.2.2).1) (nI (pt (rnPD m p pt np 0 (asM (rdD D m len tx) m) 0).2.2.2).2.1) (nI (rnPD m p pt np 0 (asM (rdD D m len tx) m) 0).2.1) (rnPD m p pt np 0 (asM (rdD D m len tx) m) 0).2.2.1) m)) := by
  refine Calls.of plX5 (Nat.le_of_ble_eq_true rfl) ?_
  have hP12 := hw.2.1
  show WP mX5_run 5 0 0 0 [some (.inr (some (m))), some (.inl (nI (p))), none, none, none, none] [] sh (D) (some (.inl (if (rnPD m p pt np 0 (asM (rdD D m len tx) m) 0).2.2.1 = 0 then nI (rnPD m p pt np 0 (asM (rdD D m len tx) m) 0).2.1 else (-1000) - nI (pt (rnPD m p pt np 0 (asM (rdD D m len tx) m) 0).2.2.2).1))) sh ((if (rnPD m p pt np 0 (asM (rdD D m len tx) m) 0).2.2.1 = 0 then baM (ntM (swM (rnPD m p pt np 0 (asM (rdD D m len tx) m) 0).1 m) m z) m else baM (fbD (rnPD m p pt np 0 (asM (rdD D m len tx) m) 0).1 m (nI 2) (nI (pt (rnPD m p pt np 0 (asM (rdD D m len tx) m) 0).2.2.2).1) (nI (pt (rnPD m p pt np 0 (asM (rdD D m len tx) m) 0).2.2.2).2.1) (nI (rnPD m p pt np 0 (asM (rdD D m len tx) m) 0).2.1) (rnPD m p pt np 0 (asM (rdD D m len tx) m) 0).2.2.1) m))
  refine zw_aload_n dX5_run_0 rfl ?_
  refine zw_iload_n dX5_run_1 rfl ?_
  refine zw_cVi dX5_run_2 (c_X5_isPerson hm hw _) rfl okX5_isPerson ml_X5_61 hm.i hm.k (by decide) rfl (Nat.le_of_ble_eq_true rfl) (Nat.le_of_ble_eq_true rfl) ?_
  refine zw_if_ne_c (tgt := 10) dX5_run_5 (by decide) (fun c5 => ?_) (fun c5 => absurd (isP_n hp) c5)
  refine zw_aload_n dX5_run_10 rfl ?_
  refine zw_cVv dX5_run_11 (c_X5_reads hm hT) rfl okX5_reads ml_X5_159 hm.i hm.k (by decide) rfl (Nat.le_of_ble_eq_true rfl) (Nat.le_of_ble_eq_true rfl) ?_
  refine zw_aload_n dX5_run_14 rfl ?_
  refine zw_getIv (j := 9) (kd := 5) (v := (b01c (¬ (qrE len (qrR m len tx D)).2 = (-1)))) dX5_run_15 hm.i hm.k (by decide) (by decide) fl_X5_118 rfl QL_f ?_
  refine zw_if_eq_c (tgt := 32) dX5_run_18 (by decide) (fun c18 => ?_) (fun c18 => absurd hf c18)
  refine zw_aload_n dX5_run_32 rfl ?_
  refine zw_cVv dX5_run_33 (c_X5_asides hm) rfl okX5_asides ml_X5_79 hm.i hm.k (by decide) rfl (Nat.le_of_ble_eq_true rfl) (Nat.le_of_ble_eq_true rfl) ?_
  exact w_runD_36 hm hR0 hz5 hp hnp14
