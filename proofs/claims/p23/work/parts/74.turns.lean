/-! THE LAW'S METHODS: turns. What a new bidder changes. -/
section
variable {sh : Sh} {M M1 X X2 : Mem} {P t o z len : Nat}
theorem nB_new {s : Nat} {m : Int32} (hb : ∀ r, r ≤ P → bm X2 1 r s = if r = P then m else bm M 1 r s) : nB X2 1 (P + 1) s = nB M 1 P s + n01 m := by
  show sm (fun p => n01 (bm X2 1 p s)) P + n01 (bm X2 1 P s) = _
  rw [hb P (Nat.le_refl P), if_pos rfl, sm_c P (fun r hr => by rw [hb r (by omega), if_neg (by omega)])]
theorem sg_new {s : Nat} {m sd : Int32} (hb : ∀ r, r ≤ P → bm X2 1 r s = if r = P then m else bm M 1 r s) (hc : X2 12 s = M 12 s) : stg X2 1 (P + 1) s sd = stg M 1 P s sd + bF m sd := by
  have e : sB X2 1 (P + 1) s sd = sB M 1 P s sd + bF m sd := by
    show sm (fun p => bF (bm X2 1 p s) sd) P + bF (bm X2 1 P s) sd = _
    rw [hb P (Nat.le_refl P), if_pos rfl, sm_c P (fun r hr => by rw [hb r (by omega), if_neg (by omega)])]
  unfold stg
  rw [e, show X2 (1 + 11) s = M (1 + 11) s from hc]
  grind
/-- who wins, by strengths -/
theorem oT_two {C : Mem} {q s A B : Nat} {w sd : Int32} (hn : nB C q P s ≠ 0) (hw : w = nI 0 ∨ w = nI 1) (hsd : sd = oS w) (hA : stg C q P s w = nI A) (hB : stg C q P s sd = nI B) (h1 : A < 2 ^ 31) (h2 : B < 2 ^ 31) : oT C q P s = if A = B then C (q + 12) s else if A < B then sd else w := by
  unfold oT
  rw [if_neg hn]
  subst hsd
  rcases hw with rfl | rfl
  · rw [show oS (nI 0) = nI 1 by decide] at hB ⊢
    rw [hA, hB]
    by_cases e : A = B
    · rw [if_pos e, if_pos (by rw [e])]
    · rw [if_neg e, if_neg (fun c => e ((nI_eq h1 h2).mp c))]
      by_cases l : A < B
      · rw [if_pos l, if_neg (nI_nlt (by omega) h2)]
      · rw [if_neg l, if_pos (nI_lt (by omega) h1)]
  · rw [show oS (nI 1) = nI 0 by decide] at hB ⊢
    rw [hA, hB]
    by_cases e : A = B
    · rw [if_pos e, if_pos (by rw [e])]
    · rw [if_neg e, if_neg (fun c => e ((nI_eq h2 h1).mp c).symm)]
      by_cases l : A < B
      · rw [if_pos l, if_pos (nI_lt l h2)]
      · rw [if_neg l, if_neg (nI_nlt (by omega) h1)]
/-- how much is needed -/
theorem mF_n {C : Mem} {q s A B : Nat} {w : Int32} (hw : w = nI 0 ∨ w = nI 1) (ho : oT C q P s = w) (hA : stg C q P s w = nI A) (hB : stg C q P s (oS w) = nI B) (h1 : A ≤ 23976) (h2 : B ≤ 23976) : mF C q P s (oS w) = nI (max 1 (A + (if C (q + 12) s = oS w then 0 else 1) - B)) := by
  unfold mF
  rw [ho, if_neg (oS_ne hw), oS_oS hw, hA, hB]
  have key : ∀ e, e ≤ 1 → mx (nI 1) (nI (A + e) - nI B) = nI (max 1 (A + e - B)) := fun e he => by
    unfold mx
    have hs := pk_sub_toInt (a := A + e) (b := B) (by omega) (by omega)
    have h11 : (nI 1).toInt = 1 := by decide
    by_cases c : 1 < A + e - B
    · have : nI 1 < nI (A + e) - nI B := by rw [Int32.lt_iff_toInt_lt, hs, h11]; omega
      rw [if_pos this, nI_subn (by omega), Nat.max_eq_right (by omega)]
    · have : ¬ nI 1 < nI (A + e) - nI B := by rw [Int32.lt_iff_toInt_lt, hs, h11]; omega
      rw [if_neg this, Nat.max_eq_left (by omega)]
  by_cases c : C (q + 12) s = oS w
  · rw [if_pos c, if_pos c]
    exact key 0 (by omega)
  · rw [if_neg c, if_neg c, show nI A - nI B + nI 1 = nI (A + 1) - nI B by rw [← nI_add]; grind]
    exact key 1 (by omega)
theorem At.sg (hA : At t M P o z len) {s : Nat} (hs : s < 96) {w : Int32} (hw : w = nI 0 ∨ w = nI 1) : ∃ A, stg M 1 P s w = nI A ∧ A ≤ 23976 := by
  rcases hw with rfl | rfl
  · obtain ⟨J, c, j1, -, -, -, j5⟩ := hA.1.1.qn hs
    exact ⟨J, j1, j5⟩
  · refine ⟨_, hA.1.1.zn hs, ?_⟩
    have := (hA.1.1.sn hs (nI 1)).2
    omega
/-- a state in which a new person has joined, and whose latest record is the state before -/
def Jn (t : Nat) (M M1 : Mem) (P : Nat) (X : Mem) (o z len : Nat) : Prop := At t X (P + 1) o z len ∧ 0 < z ∧ SE M 1 X (tp o z) ∧ SE M1 1 X 1
theorem tp_ge {o z : Nat} : 35 ≤ tp o z ∧ tp o z ≤ 99 := by
  have : (o + (z - 1)) % 5 < 5 := Nat.mod_lt _ (by decide)
  unfold tp
  omega
/-- one trial: a bid of the new person, and its undoing -/
theorem trial (hs : IsSH sh 0) (ht : t ≤ 512) (hJ : Jn t M M1 P X o z len) (hM : SI t M 1 P) (h12 : P < 12) (hS1 : SI t M1 1 (P + 1)) (hbm : ∀ r v, r < 12 → v < 96 → bm M1 1 r v = bm M 1 r v) (hlo : ∀ a, 10 ≤ a → a ≤ 16 → M1 a = M a) (hP2 : M1 2 P = nI 100000) (hP3 : M1 3 P = 0) (hP4 : M1 4 P = 0) {st h a : Nat} {w : Int32} (hst : st < 4) (hh : h < 24) (hw : w = nI 0 ∨ w = nI 1) (ha : a ≤ 999) (ha0 : 0 < a) {A B : Nat} (hA : stg M 1 P (st * 24 + h) w = nI A) (hB : stg M 1 P (st * 24 + h) (oS w) = nI B) (hA2 : A ≤ 23976) (hB2 : B ≤ 23976) : ∃ X2 X3 j o' z' o3 z3, Calls mX4_bid 4 0 0 [.inr (some 0), .inl (nI P), .inl (nI st), .inl (nI h), .inl (oS w), .inl (nI a)] sh X (some (.inl (nI (100000 - a)))) sh X2 ∧ At t X2 (P + 1) o' z' len ∧ oT X2 1 (P + 1) (st * 24 + h) = (if A = B + a then M 13 (st * 24 + h) else if A < B + a then oS w else w) ∧ bm X2 1 P (st * 24 + h) = nI a + nI 1000 * oS w ∧ bm X2 1 P (st * 24 + h) ≠ 0 ∧ Calls mX4_undo 3 0 0 [.inr (some 0)] sh X2 (some (.inl (nI j))) sh X3 ∧ j < 2 ^ 31 ∧ Jn t M M1 P X3 o3 z3 len := by
  obtain ⟨hX, hz, hT, hE⟩ := hJ
  have hslot : st * 24 + h < 96 := by omega
  have hbX : ∀ r v, r < 12 → v < 96 → bm X 1 r v = bm M 1 r v := fun r v hr hv => (hE.m hr hv).symm.trans (hbm r v hr hv)
  have hz0 : ∀ v, v < 96 → bm M 1 P v = 0 := fun v hv => (hM.1.2.2.1 P (Nat.le_refl P) h12).2 v hv
  have ham : amt X 1 P (st * 24 + h) = 0 := amt_0 ((hbX P _ h12 hslot).trans ((hz0 _ hslot).trans nI_0.symm))
  have hfm : fM X 1 P = nI 100000 := by
    show X (1 + 1) P - X (1 + 2) P = _
    rw [← hE.pe (i := 1) (by decide) (by decide) h12, ← hE.pe (i := 2) (by decide) (by decide) h12, show M1 (1 + 1) P = nI 100000 from hP2, show M1 (1 + 2) P = 0 from hP3, Int32.sub_zero]
  obtain ⟨e, v, e1, e2, v1, v2, v3⟩ := hX.1.bE ht h12 hslot ha
  have he0 : e = 0 := by
    have h4 : X (1 + 3) P = 0 := by rw [← hE.pe (i := 3) (by decide) (by decide) h12]; exact hP4
    exact (nI_eq (by omega) (by decide)).mp ((e1.symm.trans h4).trans nI_0.symm)
  have hv0 : v = 100000 := (nI_eq (by omega) (by decide)).mp (v1.symm.trans hfm)
  have hbE : bE X 1 P (st * 24 + h) (nI a) = 0 := by
    rw [v3, if_neg (by omega)]
    exact nI_0
  obtain ⟨v', X2, y1, y2, y3, hc, hX2, ⟨r1, r2⟩, q1, q2, q3⟩ := a_bid_ok hs hX ht (Nat.lt_succ_self P) hst hh (oS_01 hw) ha hbE
  have hv' : v' = 100000 := (nI_eq (by omega) (by decide)).mp (y1.symm.trans hfm)
  obtain ⟨⟨mk, mk1, mk2⟩, m1, m2, -, m5⟩ := mkB_n ha (oS_01 hw)
  have hbP : ∀ r, r ≤ P → bm X2 1 r (st * 24 + h) = if r = P then mkB (oS w) (nI a) else bm M 1 r (st * 24 + h) := fun r hr => by
    rw [q2 r _ hslot]
    by_cases c : r = P
    · rw [if_pos ⟨c, rfl⟩, if_pos c]
    · rw [if_neg (fun z => c z.1), if_neg c]; exact hbX r _ (by omega) hslot
  have hcar : X2 12 (st * 24 + h) = M 12 (st * 24 + h) := by
    rw [q1 12 (by decide) (by decide) (by decide) (by decide), ← hE.sl (i := 11) (by decide) (by decide) hslot]
    exact congrFun (hlo 12 (by decide) (by decide)) _
  have htie : X2 13 (st * 24 + h) = M 13 (st * 24 + h) := by
    rw [q1 13 (by decide) (by decide) (by decide) (by decide), ← hE.sl (i := 12) (by decide) (by decide) hslot]
    exact congrFun (hlo 13 (by decide) (by decide)) _
  have sA : stg X2 1 (P + 1) (st * 24 + h) w = nI A := by
    rw [sg_new (M := M) hbP hcar, hA]
    rw [oS_oS hw] at m2
    rw [m2]
    exact Int32.add_zero _
  have sB' : stg X2 1 (P + 1) (st * 24 + h) (oS w) = nI (B + a) := by
    rw [sg_new (M := M) hbP hcar, hB, m1, nI_add]
  have hmv : bm X2 1 P (st * 24 + h) = nI a + nI 1000 * oS w := by
    rw [hbP P (Nat.le_refl P), if_pos rfl, m5, if_neg (by omega)]
  have hmne : bm X2 1 P (st * 24 + h) ≠ 0 := by
    rw [hbP P (Nat.le_refl P), if_pos rfl, mk1]
    have : 0 < mk := by
      rcases Nat.eq_zero_or_pos mk with c | c
      · exfalso
        rw [mk1, c] at m1
        have h0 : bF (nI 0) (oS w) = nI 0 := by
          rcases oS_01 hw with e | e <;> rw [e] <;> decide
        rw [h0] at m1
        have := (nI_eq (by decide) (by omega)).mp m1
        omega
      · exact c
    unfold okm at mk2
    exact nI_ne0 this (by omega)
  have hnB : nB X2 1 (P + 1) (st * 24 + h) ≠ 0 := by
    obtain ⟨n1, n2⟩ := hM.1.nn hslot
    have hm0 : mkB (oS w) (nI a) ≠ 0 := by rw [hbP P (Nat.le_refl P), if_pos rfl] at hmne; exact hmne
    rw [nB_new (M := M) hbP, n1, show n01 (mkB (oS w) (nI a)) = nI 1 from if_neg hm0, nI_add]
    exact nI_ne0 (by omega) (by omega)
  have hz5 := hX.z5
  have hzN : 0 < zN z ∧ 1 < zN z := by unfold zN; split <;> omega
  obtain ⟨X3, u1, u2, u3, u4⟩ := a_undo hs hX2 hzN.1 r1 hX.1
  obtain ⟨t1, t2⟩ := r2 hz
  have hz5N : zN z ≤ 5 := zN_p.2 hz5
  refine ⟨X2, X3, zN z - 1, _, _, oN o z, zN z - 1, ?_, hX2, ?_, hmv, hmne, u1, by omega, u2, by omega, ?_, hE.tr u3⟩
  · rw [ham, hv'] at hc
    exact hc
  · rw [oT_two hnB hw rfl sA sB' (by omega) (by omega), show X2 (1 + 12) (st * 24 + h) = M 13 (st * 24 + h) from htie]
  · rw [t1]
    refine (hT.tr t2).tr (SE.fr (fun a h1 h2 => ?_))
    have := tp_ge (o := o) (z := z)
    exact u4 a (by omega) (by omega)
end

set_option maxRecDepth 100000 in
set_option maxHeartbeats 4000000 in
theorem l_turns {sh : Sh} {M : Mem} {P t o z len st h : Nat} (hs : IsSH sh 0) (hA : At t M P o z len) (hP3 : 3 ≤ P) (ht : t < 500) (hst : st < 4) (hh : h < 24) : ∃ x C, Calls mL_turns 6 0 0 [.inr (some 0), .inl (nI st), .inl (nI h)] sh M (some (.inl x)) sh C ∧ Ok (t + 1) x C := by
  have hP12 := hA.P12
  have hslot : st * 24 + h < 96 := by omega
  have hw01 := hA.1.1.o01 hslot
  obtain ⟨w, ew⟩ : ∃ w, oT M 1 P (st * 24 + h) = w := ⟨_, rfl⟩
  rw [ew] at hw01
  obtain ⟨A, hAA, hA2⟩ := hA.sg hslot hw01
  obtain ⟨B, hBB, hB2⟩ := hA.sg hslot (oS_01 hw01)
  have em0 := mF_n hw01 ew hAA hBB hA2 hB2
  obtain ⟨e, he1, he2, he3⟩ : ∃ e, (if M 13 (st * 24 + h) = oS w then 0 else 1) = e ∧ (e = 0 → M 13 (st * 24 + h) = oS w) ∧ (e ≠ 0 → e = 1 ∧ M 13 (st * 24 + h) = w) := by
    by_cases c : M 13 (st * 24 + h) = oS w
    · exact ⟨0, if_pos c, fun _ => c, fun z => absurd rfl z⟩
    · refine ⟨1, if_neg c, fun z => absurd z (by decide), fun _ => ⟨rfl, ?_⟩⟩
      rcases hA.1.1.tie hslot with x | x <;> rcases hw01 with y | y <;> subst y
      · exact x
      · exact absurd (show M 13 (st * 24 + h) = oS (nI 1) by rw [show oS (nI 1) = nI 0 by decide]; exact x) c
      · exact absurd (show M 13 (st * 24 + h) = oS (nI 0) by rw [show oS (nI 0) = nI 1 by decide]; exact x) c
      · exact x
  rw [show (if M (1 + 12) (st * 24 + h) = oS w then 0 else 1) = e from he1] at em0
  obtain ⟨m, em1⟩ : ∃ m, max 1 (A + e - B) = m := ⟨_, rfl⟩
  rw [em1] at em0
  have hm1 : 1 ≤ m := by omega
  have hm2 : m < 2 ^ 30 := by
    have : e ≤ 1 := by
      rcases Nat.eq_zero_or_pos e with c | c
      · omega
      · exact Nat.le_of_eq (he3 (by omega)).1
    omega
  suffices hw : WE mL_turns 6 0 [some (.inr (some 0)), some (.inl (nI st)), some (.inl (nI h)), none, none, none, none] [] sh M (Ok (t + 1)) from we_calls plL (Nat.le_of_ble_eq_true rfl) hw
  refine we (fun _ _ k => zw_iconst (v := nI 1) dL_turns_0 (by decide) k) ?_
  refine we (fun _ _ k => zw_aload_n dL_turns_1 rfl k) ?_
  refine we (fun _ _ k => zw_iload_n dL_turns_2 rfl k) ?_
  refine we (fun _ _ k => zw_iload_n dL_turns_3 rfl k) ?_
  refine we (fun _ _ k => zw_cVi dL_turns_4 (q_wi hs hA hst hh) rfl okX4_winner ml_L_29 hs.i hs.k (by decide) rfl (Nat.le_of_ble_eq_true rfl) (Nat.le_of_ble_eq_true rfl) k) ?_
  refine we_top (x2 := w) ew ?_
  refine we (fun _ _ k => zw_isub dL_turns_7 k) ?_
  refine we_top (x2 := oS w) (oS_sub hw01) ?_
  refine we (fun _ _ k => zw_istore_n dL_turns_8 (by decide) k) ?_
  refine we (fun _ _ k => zw_aload_n dL_turns_9 rfl k) ?_
  refine we (fun _ _ k => zw_iload_n dL_turns_10 rfl k) ?_
  refine we (fun _ _ k => zw_iload_n dL_turns_11 rfl k) ?_
  refine we (fun _ _ k => zw_iload_n dL_turns_12 rfl k) ?_
  refine we (fun _ _ k => zw_cVi dL_turns_13 (q_ne hs hA hst hh (oS_01 hw01)) rfl okX4_needed ml_L_35 hs.i hs.k (by decide) rfl (Nat.le_of_ble_eq_true rfl) (Nat.le_of_ble_eq_true rfl) k) ?_
  refine we_top (x2 := nI m) em0 ?_
  refine we (fun _ _ k => zw_istore dL_turns_16 (by decide) k) ?_
  rcases Nat.lt_or_ge P 12 with hP | hP
  · obtain ⟨M1, hj, hA1, ⟨r1, r2⟩, hlo, hp2, hp2o⟩ := a_join_ok hs hA hP (k := 100000) (by decide)
    have z0 := (hA.1.1.2.2.1 P (Nat.le_refl P) hP).1
    have hq3 : M1 3 P = 0 := by rw [hlo 3 (by decide) (by decide)]; exact z0 2 (by decide) (by decide)
    have hq4 : M1 4 P = 0 := by rw [hlo 4 (by decide) (by decide)]; exact z0 3 (by decide) (by decide)
    have hbm : ∀ r v, r < 12 → v < 96 → bm M1 1 r v = bm M 1 r v := fun r v _ _ => congrFun (hlo 10 (by decide) (by decide)) _
    have hlo2 : ∀ a, 10 ≤ a → a ≤ 16 → M1 a = M a := fun a h1 h2 => hlo a (by omega) h2
    have hJ1 : Jn (t + 1) M M1 P M1 (oN o z) (zN z) len := ⟨hA1, zN_p.1, r1, SE.re⟩
    have hMt : SI (t + 1) M 1 P := hA.1.mono (Nat.le_succ t)
    refine we (fun _ _ k => zw_aload_n dL_turns_18 rfl k) ?_
    refine we (fun _ _ k => zw_ldc (v := nI 100000) dL_turns_19 cs_L_38 k) ?_
    refine we (fun _ _ k => zw_cVi dL_turns_21 (hj) rfl okX4_join ml_L_39 hs.i hs.k (by decide) rfl (Nat.le_of_ble_eq_true rfl) (Nat.le_of_ble_eq_true rfl) k) ?_
    refine we (fun _ _ k => zw_istore dL_turns_24 (by decide) k) ?_
    refine we (fun _ _ k => zw_iload dL_turns_26 rfl k) ?_
    refine we (fun _ _ k => zw_if_lt (tgt := 39) dL_turns_28 (by decide) (fun c => absurd c (nI_pos (by omega))) (fun _ => k)) ?_
    rcases Nat.lt_or_ge 999 m with hm9 | hm9
    · obtain ⟨X6, hu6, hA6, -, -⟩ := a_undo hs hA1 zN_p.1 r1 hMt
      have hz5 := hA1.z5
      refine we (fun _ _ k => zw_iload dL_turns_31 rfl k) ?_
      refine we (fun _ _ k => zw_sipush (v := nI 999) dL_turns_33 (by decide) k) ?_
      refine we (fun _ _ k => zw_icmp_le (tgt := 72) dL_turns_36 (by decide) (fun c => absurd (nI_lt hm9 (by omega)) c) (fun _ => k)) ?_
      refine we (fun _ _ k => zw_iload dL_turns_39 rfl k) ?_
      refine we (fun _ _ k => zw_if_ge (tgt := 59) dL_turns_41 (by decide) (fun _ => k) (fun c => absurd c (nI_pos (by omega)))) ?_
      refine we (fun _ _ k => zw_aload_n dL_turns_59 rfl k) ?_
      refine we (fun _ _ k => zw_cVi dL_turns_60 (hu6) rfl okX4_undo ml_L_42 hs.i hs.k (by decide) rfl (Nat.le_of_ble_eq_true rfl) (Nat.le_of_ble_eq_true rfl) k) ?_
      refine we (fun _ _ k => zw_if_lt (tgt := 70) dL_turns_63 (by decide) (fun c => absurd c (nI_pos (by omega))) (fun _ => k)) ?_
      refine we (fun _ _ k => zw_iconst (v := nI 1) dL_turns_66 (by decide) k) ?_
      refine we (fun _ _ k => zw_goto (tgt := 71) dL_turns_67 (by decide) k) ?_
      exact we_ret dL_turns_71 rfl (Or.inr rfl) ⟨rfl, P, _, _, len, hP3, hA6⟩
    · refine we (fun _ _ k => zw_iload dL_turns_31 rfl k) ?_
      refine we (fun _ _ k => zw_sipush (v := nI 999) dL_turns_33 (by decide) k) ?_
      refine we (fun _ _ k => zw_icmp_le (tgt := 72) dL_turns_36 (by decide) (fun _ => k) (fun c => absurd c (nI_nlt hm9 (by decide)))) ?_
      by_cases hm1e : m = 1
      · refine we (fun _ _ k => zw_iload dL_turns_72 rfl k) ?_
        refine we (fun _ _ k => zw_iconst (v := nI 1) dL_turns_74 (by decide) k) ?_
        refine we (fun _ _ k => zw_icmp_eq (tgt := 118) dL_turns_75 (by decide) (fun _ => k) (fun c => absurd (congrArg nI hm1e) c)) ?_
        refine we (fun _ _ k => zw_iconst (v := nI 1) dL_turns_118 (by decide) k) ?_
        refine we (fun _ _ k => zw_goto (tgt := 123) dL_turns_119 (by decide) k) ?_
        refine we (fun _ _ k => zw_istore dL_turns_123 (by decide) k) ?_
        refine we (fun _ _ k => zw_iload dL_turns_125 rfl k) ?_
        refine we (fun _ _ k => zw_if_eq (tgt := 182) dL_turns_127 (by decide) (fun c => absurd c (by decide)) (fun _ => k)) ?_
        obtain ⟨Y4, V4, j4, oy4, zy4, ov4, zv4, hb4, hY4, ho4, hmv4, hmn4, hu4, hj4, hJ4⟩ := trial hs (by omega) hJ1 hMt hP hA1.1 hbm hlo2 hp2 hq3 hq4 (a := m) hst hh hw01 (by omega) (by omega) hAA hBB hA2 hB2
        have hwin : (if A = B + m then M 13 (st * 24 + h) else if A < B + m then oS w else w) = oS w := by
          by_cases c : A = B + m
          · rw [if_pos c]
            rcases Nat.eq_zero_or_pos e with c2 | c2
            · exact he2 c2
            · exact absurd (he3 (by omega)).1 (by omega)
          · rw [if_neg c, if_pos (by omega)]
        obtain ⟨X6, hu6, hA6, -, -⟩ := a_undo hs hJ4.1 hJ4.2.1 hJ4.2.2.1 hMt
        have hz5 := hJ4.1.z5
        refine we (fun _ _ k => zw_aload_n dL_turns_130 rfl k) ?_
        refine we (fun _ _ k => zw_iload dL_turns_131 rfl k) ?_
        refine we (fun _ _ k => zw_iload_n dL_turns_133 rfl k) ?_
        refine we (fun _ _ k => zw_iload_n dL_turns_134 rfl k) ?_
        refine we (fun _ _ k => zw_iload_n dL_turns_135 rfl k) ?_
        refine we (fun _ _ k => zw_iload dL_turns_136 rfl k) ?_
        refine we (fun _ _ k => zw_cVi dL_turns_138 (hb4) rfl okX4_bid ml_L_46 hs.i hs.k (by decide) rfl (Nat.le_of_ble_eq_true rfl) (Nat.le_of_ble_eq_true rfl) k) ?_
        refine we (fun _ _ k => zw_ldc (v := nI 100000) dL_turns_141 cs_L_38 k) ?_
        refine we (fun _ _ k => zw_iload dL_turns_143 rfl k) ?_
        refine we (fun _ _ k => zw_isubn dL_turns_145 (by omega) k) ?_
        refine we (fun _ _ k => zw_icmp_ne (tgt := 182) dL_turns_146 (by decide) (fun c => absurd rfl c) (fun _ => k)) ?_
        refine we (fun _ _ k => zw_aload_n dL_turns_149 rfl k) ?_
        refine we (fun _ _ k => zw_iload_n dL_turns_150 rfl k) ?_
        refine we (fun _ _ k => zw_iload_n dL_turns_151 rfl k) ?_
        refine we (fun _ _ k => zw_cVi dL_turns_152 (q_wi hs hY4 hst hh) rfl okX4_winner ml_L_29 hs.i hs.k (by decide) rfl (Nat.le_of_ble_eq_true rfl) (Nat.le_of_ble_eq_true rfl) k) ?_
        refine we_top (x2 := oS w) (ho4.trans hwin) ?_
        refine we (fun _ _ k => zw_iload_n dL_turns_155 rfl k) ?_
        refine we (fun _ _ k => zw_icmp_ne (tgt := 182) dL_turns_156 (by decide) (fun c => absurd rfl c) (fun _ => k)) ?_
        refine we (fun _ _ k => zw_aload_n dL_turns_159 rfl k) ?_
        refine we (fun _ _ k => zw_iload dL_turns_160 rfl k) ?_
        refine we (fun _ _ k => zw_iload_n dL_turns_162 rfl k) ?_
        refine we (fun _ _ k => zw_iload_n dL_turns_163 rfl k) ?_
        refine we (fun _ _ k => zw_cVi dL_turns_164 (q_bo hs hY4 (Nat.lt_succ_self P) hst hh) rfl okX4_bidOf ml_L_25 hs.i hs.k (by decide) rfl (Nat.le_of_ble_eq_true rfl) (Nat.le_of_ble_eq_true rfl) k) ?_
        refine we_top (x2 := ((nI 1000 * oS w) + nI m)) (by rw [if_neg hmn4, hmv4, Int32.add_comm]) ?_
        refine we (fun _ _ k => zw_sipush (v := nI 1000) dL_turns_167 (by decide) k) ?_
        refine we (fun _ _ k => zw_iload_n dL_turns_170 rfl k) ?_
        refine we (fun _ _ k => zw_imul dL_turns_171 k) ?_
        refine we (fun _ _ k => zw_iload dL_turns_172 rfl k) ?_
        refine we (fun _ _ k => zw_iadd dL_turns_174 k) ?_
        refine we (fun _ _ k => zw_icmp_ne (tgt := 182) dL_turns_175 (by decide) (fun c => absurd rfl c) (fun _ => k)) ?_
        refine we (fun _ _ k => zw_iconst (v := nI 1) dL_turns_178 (by decide) k) ?_
        refine we (fun _ _ k => zw_goto (tgt := 183) dL_turns_179 (by decide) k) ?_
        refine we (fun _ _ k => zw_istore dL_turns_183 (by decide) k) ?_
        refine we (fun _ _ k => zw_iload dL_turns_185 rfl k) ?_
        refine we (fun _ _ k => zw_if_eq (tgt := 208) dL_turns_187 (by decide) (fun c => absurd c (by decide)) (fun _ => k)) ?_
        refine we (fun _ _ k => zw_aload_n dL_turns_190 rfl k) ?_
        refine we (fun _ _ k => zw_cVi dL_turns_191 (hu4) rfl okX4_undo ml_L_42 hs.i hs.k (by decide) rfl (Nat.le_of_ble_eq_true rfl) (Nat.le_of_ble_eq_true rfl) k) ?_
        refine we (fun _ _ k => zw_if_lt (tgt := 208) dL_turns_194 (by decide) (fun c => absurd c (nI_pos hj4)) (fun _ => k)) ?_
        refine we (fun _ _ k => zw_aload_n dL_turns_197 rfl k) ?_
        refine we (fun _ _ k => zw_cVi dL_turns_198 (hu6) rfl okX4_undo ml_L_42 hs.i hs.k (by decide) rfl (Nat.le_of_ble_eq_true rfl) (Nat.le_of_ble_eq_true rfl) k) ?_
        refine we (fun _ _ k => zw_if_lt (tgt := 208) dL_turns_201 (by decide) (fun c => absurd c (nI_pos (by omega))) (fun _ => k)) ?_
        refine we (fun _ _ k => zw_iconst (v := nI 1) dL_turns_204 (by decide) k) ?_
        refine we (fun _ _ k => zw_goto (tgt := 209) dL_turns_205 (by decide) k) ?_
        exact we_ret dL_turns_209 rfl (Or.inr rfl) ⟨rfl, P, _, _, len, hP3, hA6⟩
      · obtain ⟨Y2, V2, j2, oy2, zy2, ov2, zv2, hb2, hY2, ho2, hmv2, hmn2, hu2, hj2, hJ2⟩ := trial hs (by omega) hJ1 hMt hP hA1.1 hbm hlo2 hp2 hq3 hq4 (a := m - 1) hst hh hw01 (by omega) (by omega) hAA hBB hA2 hB2
        have hwin2 : (if A = B + (m - 1) then M 13 (st * 24 + h) else if A < B + (m - 1) then oS w else w) = w := by
          rcases Nat.eq_zero_or_pos e with c2 | c2
          · rw [if_neg (by omega), if_neg (by omega)]
          · obtain ⟨e1, e2⟩ := he3 (by omega)
            rw [if_pos (by omega)]; exact e2
        refine we (fun _ _ k => zw_iload dL_turns_72 rfl k) ?_
        refine we (fun _ _ k => zw_iconst (v := nI 1) dL_turns_74 (by decide) k) ?_
        refine we (fun _ _ k => zw_icmp_eq (tgt := 118) dL_turns_75 (by decide) (fun c => absurd c (fun c => hm1e ((nI_eq (by omega) (by decide)).mp c))) (fun _ => k)) ?_
        refine we (fun _ _ k => zw_aload_n dL_turns_78 rfl k) ?_
        refine we (fun _ _ k => zw_iload dL_turns_79 rfl k) ?_
        refine we (fun _ _ k => zw_iload_n dL_turns_81 rfl k) ?_
        refine we (fun _ _ k => zw_iload_n dL_turns_82 rfl k) ?_
        refine we (fun _ _ k => zw_iload_n dL_turns_83 rfl k) ?_
        refine we (fun _ _ k => zw_iload dL_turns_84 rfl k) ?_
        refine we (fun _ _ k => zw_iconst (v := nI 1) dL_turns_86 (by decide) k) ?_
        refine we (fun _ _ k => zw_isubn dL_turns_87 (by omega) k) ?_
        refine we (fun _ _ k => zw_cVi dL_turns_88 (hb2) rfl okX4_bid ml_L_46 hs.i hs.k (by decide) rfl (Nat.le_of_ble_eq_true rfl) (Nat.le_of_ble_eq_true rfl) k) ?_
        refine we (fun _ _ k => zw_ldc (v := nI 100001) dL_turns_91 cs_L_50 k) ?_
        refine we (fun _ _ k => zw_iload dL_turns_93 rfl k) ?_
        refine we (fun _ _ k => zw_isubn dL_turns_95 (by omega) k) ?_
        refine we (fun _ _ k => zw_icmp_ne (tgt := 122) dL_turns_96 (by decide) (fun c => absurd (congrArg nI (by omega)) c) (fun _ => k)) ?_
        refine we (fun _ _ k => zw_aload_n dL_turns_99 rfl k) ?_
        refine we (fun _ _ k => zw_iload_n dL_turns_100 rfl k) ?_
        refine we (fun _ _ k => zw_iload_n dL_turns_101 rfl k) ?_
        refine we (fun _ _ k => zw_cVi dL_turns_102 (q_wi hs hY2 hst hh) rfl okX4_winner ml_L_29 hs.i hs.k (by decide) rfl (Nat.le_of_ble_eq_true rfl) (Nat.le_of_ble_eq_true rfl) k) ?_
        refine we_top (x2 := w) (ho2.trans hwin2) ?_
        refine we (fun _ _ k => zw_iconst (v := nI 1) dL_turns_105 (by decide) k) ?_
        refine we (fun _ _ k => zw_iload_n dL_turns_106 rfl k) ?_
        refine we (fun _ _ k => zw_isub dL_turns_107 k) ?_
        refine we_top (x2 := w) ((oS_sub (oS_01 hw01)).trans (oS_oS hw01)) ?_
        refine we (fun _ _ k => zw_icmp_ne (tgt := 122) dL_turns_108 (by decide) (fun c => absurd rfl c) (fun _ => k)) ?_
        refine we (fun _ _ k => zw_aload_n dL_turns_111 rfl k) ?_
        refine we (fun _ _ k => zw_cVi dL_turns_112 (hu2) rfl okX4_undo ml_L_42 hs.i hs.k (by decide) rfl (Nat.le_of_ble_eq_true rfl) (Nat.le_of_ble_eq_true rfl) k) ?_
        refine we (fun _ _ k => zw_if_lt (tgt := 122) dL_turns_115 (by decide) (fun c => absurd c (nI_pos hj2)) (fun _ => k)) ?_
        refine we (fun _ _ k => zw_iconst (v := nI 1) dL_turns_118 (by decide) k) ?_
        refine we (fun _ _ k => zw_goto (tgt := 123) dL_turns_119 (by decide) k) ?_
        refine we (fun _ _ k => zw_istore dL_turns_123 (by decide) k) ?_
        refine we (fun _ _ k => zw_iload dL_turns_125 rfl k) ?_
        refine we (fun _ _ k => zw_if_eq (tgt := 182) dL_turns_127 (by decide) (fun c => absurd c (by decide)) (fun _ => k)) ?_
        obtain ⟨Y4, V4, j4, oy4, zy4, ov4, zv4, hb4, hY4, ho4, hmv4, hmn4, hu4, hj4, hJ4⟩ := trial hs (by omega) hJ2 hMt hP hA1.1 hbm hlo2 hp2 hq3 hq4 (a := m) hst hh hw01 (by omega) (by omega) hAA hBB hA2 hB2
        have hwin : (if A = B + m then M 13 (st * 24 + h) else if A < B + m then oS w else w) = oS w := by
          by_cases c : A = B + m
          · rw [if_pos c]
            rcases Nat.eq_zero_or_pos e with c2 | c2
            · exact he2 c2
            · exact absurd (he3 (by omega)).1 (by omega)
          · rw [if_neg c, if_pos (by omega)]
        obtain ⟨X6, hu6, hA6, -, -⟩ := a_undo hs hJ4.1 hJ4.2.1 hJ4.2.2.1 hMt
        have hz5 := hJ4.1.z5
        refine we (fun _ _ k => zw_aload_n dL_turns_130 rfl k) ?_
        refine we (fun _ _ k => zw_iload dL_turns_131 rfl k) ?_
        refine we (fun _ _ k => zw_iload_n dL_turns_133 rfl k) ?_
        refine we (fun _ _ k => zw_iload_n dL_turns_134 rfl k) ?_
        refine we (fun _ _ k => zw_iload_n dL_turns_135 rfl k) ?_
        refine we (fun _ _ k => zw_iload dL_turns_136 rfl k) ?_
        refine we (fun _ _ k => zw_cVi dL_turns_138 (hb4) rfl okX4_bid ml_L_46 hs.i hs.k (by decide) rfl (Nat.le_of_ble_eq_true rfl) (Nat.le_of_ble_eq_true rfl) k) ?_
        refine we (fun _ _ k => zw_ldc (v := nI 100000) dL_turns_141 cs_L_38 k) ?_
        refine we (fun _ _ k => zw_iload dL_turns_143 rfl k) ?_
        refine we (fun _ _ k => zw_isubn dL_turns_145 (by omega) k) ?_
        refine we (fun _ _ k => zw_icmp_ne (tgt := 182) dL_turns_146 (by decide) (fun c => absurd rfl c) (fun _ => k)) ?_
        refine we (fun _ _ k => zw_aload_n dL_turns_149 rfl k) ?_
        refine we (fun _ _ k => zw_iload_n dL_turns_150 rfl k) ?_
        refine we (fun _ _ k => zw_iload_n dL_turns_151 rfl k) ?_
        refine we (fun _ _ k => zw_cVi dL_turns_152 (q_wi hs hY4 hst hh) rfl okX4_winner ml_L_29 hs.i hs.k (by decide) rfl (Nat.le_of_ble_eq_true rfl) (Nat.le_of_ble_eq_true rfl) k) ?_
        refine we_top (x2 := oS w) (ho4.trans hwin) ?_
        refine we (fun _ _ k => zw_iload_n dL_turns_155 rfl k) ?_
        refine we (fun _ _ k => zw_icmp_ne (tgt := 182) dL_turns_156 (by decide) (fun c => absurd rfl c) (fun _ => k)) ?_
        refine we (fun _ _ k => zw_aload_n dL_turns_159 rfl k) ?_
        refine we (fun _ _ k => zw_iload dL_turns_160 rfl k) ?_
        refine we (fun _ _ k => zw_iload_n dL_turns_162 rfl k) ?_
        refine we (fun _ _ k => zw_iload_n dL_turns_163 rfl k) ?_
        refine we (fun _ _ k => zw_cVi dL_turns_164 (q_bo hs hY4 (Nat.lt_succ_self P) hst hh) rfl okX4_bidOf ml_L_25 hs.i hs.k (by decide) rfl (Nat.le_of_ble_eq_true rfl) (Nat.le_of_ble_eq_true rfl) k) ?_
        refine we_top (x2 := ((nI 1000 * oS w) + nI m)) (by rw [if_neg hmn4, hmv4, Int32.add_comm]) ?_
        refine we (fun _ _ k => zw_sipush (v := nI 1000) dL_turns_167 (by decide) k) ?_
        refine we (fun _ _ k => zw_iload_n dL_turns_170 rfl k) ?_
        refine we (fun _ _ k => zw_imul dL_turns_171 k) ?_
        refine we (fun _ _ k => zw_iload dL_turns_172 rfl k) ?_
        refine we (fun _ _ k => zw_iadd dL_turns_174 k) ?_
        refine we (fun _ _ k => zw_icmp_ne (tgt := 182) dL_turns_175 (by decide) (fun c => absurd rfl c) (fun _ => k)) ?_
        refine we (fun _ _ k => zw_iconst (v := nI 1) dL_turns_178 (by decide) k) ?_
        refine we (fun _ _ k => zw_goto (tgt := 183) dL_turns_179 (by decide) k) ?_
        refine we (fun _ _ k => zw_istore dL_turns_183 (by decide) k) ?_
        refine we (fun _ _ k => zw_iload dL_turns_185 rfl k) ?_
        refine we (fun _ _ k => zw_if_eq (tgt := 208) dL_turns_187 (by decide) (fun c => absurd c (by decide)) (fun _ => k)) ?_
        refine we (fun _ _ k => zw_aload_n dL_turns_190 rfl k) ?_
        refine we (fun _ _ k => zw_cVi dL_turns_191 (hu4) rfl okX4_undo ml_L_42 hs.i hs.k (by decide) rfl (Nat.le_of_ble_eq_true rfl) (Nat.le_of_ble_eq_true rfl) k) ?_
        refine we (fun _ _ k => zw_if_lt (tgt := 208) dL_turns_194 (by decide) (fun c => absurd c (nI_pos hj4)) (fun _ => k)) ?_
        refine we (fun _ _ k => zw_aload_n dL_turns_197 rfl k) ?_
        refine we (fun _ _ k => zw_cVi dL_turns_198 (hu6) rfl okX4_undo ml_L_42 hs.i hs.k (by decide) rfl (Nat.le_of_ble_eq_true rfl) (Nat.le_of_ble_eq_true rfl) k) ?_
        refine we (fun _ _ k => zw_if_lt (tgt := 208) dL_turns_201 (by decide) (fun c => absurd c (nI_pos (by omega))) (fun _ => k)) ?_
        refine we (fun _ _ k => zw_iconst (v := nI 1) dL_turns_204 (by decide) k) ?_
        refine we (fun _ _ k => zw_goto (tgt := 209) dL_turns_205 (by decide) k) ?_
        exact we_ret dL_turns_209 rfl (Or.inr rfl) ⟨rfl, P, _, _, len, hP3, hA6⟩
  · refine we (fun _ _ k => zw_aload_n dL_turns_18 rfl k) ?_
    refine we (fun _ _ k => zw_ldc (v := nI 100000) dL_turns_19 cs_L_38 k) ?_
    refine we (fun _ _ k => zw_cVi dL_turns_21 (a_join_full hs hA (by omega) (by decide)) rfl okX4_join ml_L_39 hs.i hs.k (by decide) rfl (Nat.le_of_ble_eq_true rfl) (Nat.le_of_ble_eq_true rfl) k) ?_
    refine we (fun _ _ k => zw_istore dL_turns_24 (by decide) k) ?_
    refine we (fun _ _ k => zw_iload dL_turns_26 rfl k) ?_
    refine we (fun _ _ k => zw_if_lt (tgt := 39) dL_turns_28 (by decide) (fun _ => k) (fun c => absurd (by decide) c)) ?_
    refine we (fun _ _ k => zw_iload dL_turns_39 rfl k) ?_
    refine we (fun _ _ k => zw_if_ge (tgt := 59) dL_turns_41 (by decide) (fun c => absurd (by decide) c) (fun _ => k)) ?_
    refine we (fun _ _ k => zw_iload dL_turns_44 rfl k) ?_
    refine we (fun _ _ k => zw_bipush (v := (-3)) dL_turns_46 (by decide) k) ?_
    refine we (fun _ _ k => zw_icmp_ne (tgt := 55) dL_turns_48 (by decide) (fun c => absurd rfl c) (fun _ => k)) ?_
    refine we (fun _ _ k => zw_iconst (v := nI 1) dL_turns_51 (by decide) k) ?_
    refine we (fun _ _ k => zw_goto (tgt := 71) dL_turns_52 (by decide) k) ?_
    exact we_ret dL_turns_71 rfl (Or.inr rfl) ⟨rfl, P, _, _, len, hP3, hA.mono (Nat.le_succ t)⟩
