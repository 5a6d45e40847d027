/-- the reference's run of a plan, behind the class's -/
theorem run_d {sh : Sh} (hm : IsMo sh 134) {t : Nat} {M M1 C1 : Mem} {P o z len p np : Nat} {pt : Nat → PT1} (ht : t ≤ 512) (hA : RelAt t M P o z len) (hp : p < P) (hf : (rtE (rtR 115 len (M 116) M)).2 = (-1)) (e34 : ∀ a, 134 ≤ a → M1 a = M a) (hnp : (rtR 115 len (M 116) M).2.2.2 = np) (hnp14 : np ≤ 14) (bp : PtOk (rtR 115 len (M 116) M).1 119 np pt) (hE1 : RowEq C1 1 (M 135)) :
    ∃ F : Mem × Nat × Int32 × Nat, (rnP 1 p pt np 0 C1 0).2 = F.2 ∧ RowEq (rnP 1 p pt np 0 C1 0).1 1 (F.1 135) ∧ RowInv t (F.1 135) P ∧ (∀ a, a ≠ 134 → a ≠ 135 → a ≠ 137 → a ≠ 139 → a ≠ 141 → F.1 a = M1 a) ∧ (∀ j, j < 6 ∨ j = 10 → F.1 134 j = M 134 j) ∧ (∀ j, j < 1724 → F.1 137 j = M 135 j) ∧
      Calls mX5_run 5 0 0 [.inr (some 134), .inl (nI p)] sh M1 (some (.inl (if F.2.2.1 = 0 then nI F.2.1 else (-1000) - nI (pt F.2.2.2).1))) sh (if F.2.2.1 = 0 then baM (ntM (swM F.1 134) 134 z) 134 else baM (fbD F.1 134 (nI 2) (nI (pt F.2.2.2).1) (nI (pt F.2.2.2).2.1) (nI F.2.1) F.2.2.1) 134) := by
  obtain ⟨⟨hE, hI⟩, ⟨hh1, hh2, hh3⟩, ⟨t1, t2, t3, t4⟩, hF⟩ := id hA
  have hz5 := hh2.2.2
  have hPl : PlOk M 115 len (M 116) := ⟨t1, t3, fun p hp => rfl⟩
  have hMl : MlOk M1 134 len (M 116) := ⟨by rw [e34 134 (by decide)]; exact t2, t3, fun p hp => by
    show M1 138 p = M 116 p
    rw [e34 138 (by decide)]
    exact (t4 p hp).symm⟩
  obtain ⟨r1, -, r3⟩ := read_eq (m := 134) (D := M1) hPl hMl hF.1
  obtain ⟨r4, -, pt', bp', bd'⟩ := r3 hf
  rw [hnp] at r4 bp' bd'
  have bd : PtOkD (qrR 134 len (M 116) M1).1 134 np pt := ptD_sw bp bp' bd'
  have hf' : (qrE len (qrR 134 len (M 116) M1)).2 = (-1) := by rw [← r1]; exact hf
  have hw1 : Wm M1 134 P := by
    unfold Wm
    rw [show M1 (134 + 1) = M 135 from e34 135 (by decide)]
    exact hI.wm
  have d135 : asM (rdD M1 134 len (M 116)) 134 135 = M 135 := (asM_a (by decide)).trans ((rdD_a (by decide) (by decide) (by decide) (by decide)).trans (e34 135 (by decide)))
  have d134 : ∀ j, j < 6 ∨ j = 10 → asM (rdD M1 134 len (M 116)) 134 134 j = M 134 j := fun j hj => by
    rw [asM_a (by decide)]
    rcases hj with hj | rfl
    · exact (rdD_o hj).trans (congrFun (e34 134 (by decide)) j)
    · have h10 : rdD M1 134 len (M 116) 134 10 = (qrR 134 len (M 116) M1).1 134 10 := by
        unfold rdD
        simp [QL, hf']
      rw [h10, qrR_a (by decide) (by decide)]
      exact congrFun (e34 134 (by decide)) 10
  have d141 : asM (rdD M1 134 len (M 116)) 134 141 = (qrR 134 len (M 116) M1).1 141 := by
    rw [asM_a (by decide)]
    unfold rdD
    exact QL_ne (by decide) (by decide)
  have dA : ∀ a, a ≠ 134 → a ≠ 137 → a ≠ 139 → a ≠ 141 → asM (rdD M1 134 len (M 116)) 134 a = M1 a := fun a h1 h2 h3 h4 => by
    rw [asM_a h2]
    by_cases h5 : a = 140
    · subst h5
      have h10 : rdD M1 134 len (M 116) 140 = (qrR 134 len (M 116) M1).1 140 := by
        unfold rdD
        funext j
        simp [QL, hf']
      rw [h10]
      exact qrR_a (by decide) (by decide)
    · exact rdD_a h1 h3 h5 h4
  have hR0 : RnD (asM (rdD M1 134 len (M 116)) 134) 134 P z np pt := by
    refine ⟨?_, (d134 2 (by omega)).trans hh2.2.1, ?_, fun i hi => ?_⟩
    · unfold Wm
      rw [show (134 + 1 : Nat) = 135 from rfl, d135]
      exact hI.wm
    · rw [asM_a (by decide)]
      unfold rdD
      rw [QL_mn, r4]
    · rw [show (134 + 7 : Nat) = 141 from rfl, d141]
      exact bd i hi
  have hdd := d_run_go (D := M1) hm hw1 hz5 hp hMl hf' hnp14 hR0
  obtain ⟨s1, s2, s3⟩ := run_p ht hp bd np 0 C1 (asM (rdD M1 134 len (M 116)) 134) 0 (by omega) (by rw [d135]; exact hE1) (by rw [d135]; exact hI)
  refine ⟨rnPD 134 p pt np 0 (asM (rdD M1 134 len (M 116)) 134) 0, s1, s2, s3, fun a h1 h2 h3 h4 h5 => ?_, fun j hj => ?_, fun j hj => ?_, hdd⟩
  · exact (rnPD_a h2 np 0 _ 0).trans (dA a h1 h3 h4 h5)
  · exact (congrFun (rnPD_a (by decide) np 0 _ 0) j).trans (d134 j hj)
  · rw [rnPD_a (by decide), asM_137 hj]
    exact (congrFun (rdD_a (by decide) (by decide) (by decide) (by decide)) j).trans (congrFun (e34 135 (by decide)) j)
/-- a plan -/
theorem b_run_go {sh : Sh} (hs : IsSH sh 0) (hm : IsMo sh 134) {t : Nat} {M : Mem} {P o z len p : Nat} (ht : t ≤ 512) (hA : RelAt t M P o z len) (hp : p < P) (hf : (rtE (rtR 115 len (M 116) M)).2 = (-1)) : Bth mX4_run mX5_run sh Rel [.inl (nI p)] t M := by
  obtain ⟨⟨hE, hI⟩, hH, ⟨t1, t2, t3, t4⟩, hF⟩ := id hA
  obtain ⟨hh1, hh2, hh3⟩ := id hH
  have hz5 := hh2.2.2
  have hPl : PlOk M 115 len (M 116) := ⟨t1, t3, fun p hp => rfl⟩
  have hMl0 : MlOk M 134 len (M 116) := ⟨t2, t3, fun p hp => (t4 p hp).symm⟩
  obtain ⟨-, -, r3⟩ := read_eq (m := 134) (D := M) hPl hMl0 hF.1
  obtain ⟨-, hnp14, pt, bp, -⟩ := r3 hf
  have eR : ∀ a, a ≠ 115 → a ≠ 118 → (a < 119 ∨ 133 ≤ a) → rdM M 115 len (M 116) a = M a := fun a h1 h2 h3 => rdM_a h1 h2 h3
  have eR1 : rdM M 115 len (M 116) 115 1 = M 115 1 := rdM_1
  have eR8 : rdM M 115 len (M 116) 118 0 = M 118 0 := rdM_f
  have eR3 : rdM M 115 len (M 116) 115 3 = nI (rtR 115 len (M 116) M).2.2.2 := by
    unfold rdM
    exact PL_np
  have eRp : ∀ i, rdM M 115 len (M 116) (119 + i) = (rtR 115 len (M 116) M).1 (119 + i) := fun i => by
    unfold rdM
    exact PL_ne (by omega)
  have hcc0 := fun np (hnp : (rtR 115 len (M 116) M).2.2.2 = np) => c_run_go (np := np) (pt := pt) (o := o) (z := z) hs hA.wf hh1.2 hz5 hp (len := len) (tx := M 116) hPl hf
  generalize hnp : (rtR 115 len (M 116) M).2.2.2 = np at hnp14 bp eR3
  have hcc1 := hcc0 np hnp hnp14
  clear hcc0
  have bp2 : PtOk (cpM (rdM M 115 len (M 116)) 1 17) 119 np pt := bp.of (fun i hi => (cpM_ne (by omega)).trans (eRp i))
  have hE0 : RowEq (rdM M 115 len (M 116)) 1 (M 135) := hE.fr2 (fun a b1 b2 => eR a (by omega) (by omega) (by omega))
  have hE17 : RowEq (cpM (rdM M 115 len (M 116)) 1 17) 17 (M 135) := hE0.cp (Or.inl (by omega))
  have hE1 : RowEq (cpM (rdM M 115 len (M 116)) 1 17) 1 (M 135) := hE0.fr2 (fun a b1 b2 => cpM_ne (by omega))
  have eC : ∀ a, a < 17 ∨ 33 ≤ a → cpM (rdM M 115 len (M 116)) 1 17 a = rdM M 115 len (M 116) a := fun a ha => cpM_ne (by omega)
  have hcc2 := hcc1 ⟨hE1.wf2 hI.rb, by
    show cpM (rdM M 115 len (M 116)) 1 17 33 1 = nI o
    rw [eC 33 (by omega), eR 33 (by decide) (by decide) (by omega)]; exact hh1.1, by
    show cpM (rdM M 115 len (M 116)) 1 17 33 2 = nI z
    rw [eC 33 (by omega), eR 33 (by decide) (by decide) (by omega)]; exact hh2.1, by
    show cpM (rdM M 115 len (M 116)) 1 17 115 3 = nI np
    rw [eC 115 (by omega)]; exact eR3, bp2⟩
  clear hcc1
  have hcc : Calls mX4_run 6 0 0 [.inr (some 0), .inl (nI p)] sh M (some (.inl (if (rnP 1 p pt np 0 (cpM (rdM M 115 len (M 116)) 1 17) 0).2.2.1 = 0 then nI (rnP 1 p pt np 0 (cpM (rdM M 115 len (M 116)) 1 17) 0).2.1 else (-1000) - nI (pt (rnP 1 p pt np 0 (cpM (rdM M 115 len (M 116)) 1 17) 0).2.2.2).1))) sh (if (rnP 1 p pt np 0 (cpM (rdM M 115 len (M 116)) 1 17) 0).2.2.1 = 0 then recM (rnP 1 p pt np 0 (cpM (rdM M 115 len (M 116)) 1 17) 0).1 33 o z 17 else fpM (cpM (rnP 1 p pt np 0 (cpM (rdM M 115 len (M 116)) 1 17) 0).1 17 1) 133 (nI 2) (nI (pt (rnP 1 p pt np 0 (cpM (rdM M 115 len (M 116)) 1 17) 0).2.2.2).1) (nI (pt (rnP 1 p pt np 0 (cpM (rdM M 115 len (M 116)) 1 17) 0).2.2.2).2.1) (nI (rnP 1 p pt np 0 (cpM (rdM M 115 len (M 116)) 1 17) 0).2.1) (rnP 1 p pt np 0 (cpM (rdM M 115 len (M 116)) 1 17) 0).2.2.1) := hcc2
  clear hcc2
  have hd := fun M1 => run_d (M1 := M1) (C1 := cpM (rdM M 115 len (M 116)) 1 17) (pt := pt) (np := np) hm ht hA hp hf
  have eF : ∀ a, a ≠ 3 → a ≠ 10 → (rnP 1 p pt np 0 (cpM (rdM M 115 len (M 116)) 1 17) 0).1 a = cpM (rdM M 115 len (M 116)) 1 17 a := fun a h1 h2 => rnP_ne (by omega) (by omega) np 0 _ 0
  generalize hC1 : cpM (rdM M 115 len (M 116)) 1 17 = C1 at hcc hd eF hE17 hE1 eC
  generalize hX : rnP 1 p pt np 0 C1 0 = X at hcc eF
  have xA : ∀ a, 33 ≤ a → a ≠ 115 → a ≠ 118 → (a < 119 ∨ 133 ≤ a) → X.1 a = M a := fun a h1 h2 h3 h4 => (eF a (by omega) (by omega)).trans ((eC a (by omega)).trans (eR a h2 h3 h4))
  have x115 : X.1 115 1 = M 115 1 := (congrFun (eF 115 (by decide) (by decide)) 1).trans ((congrFun (eC 115 (by omega)) 1).trans eR1)
  have x118 : X.1 118 0 = M 118 0 := (congrFun (eF 118 (by decide) (by decide)) 0).trans ((congrFun (eC 118 (by omega)) 0).trans eR8)
  have x17 : RowEq X.1 17 (M 135) := hE17.fr2 (fun a b1 b2 => eF a (by omega) (by omega))
  by_cases c : X.2.2.1 = 0
  · rw [if_pos c, if_pos c] at hcc
    have m1 : ∀ a, a < 33 ∨ 115 ≤ a → recM X.1 33 o z 17 a = X.1 a := fun a ha => recM_ne hz5 (by omega)
    have hHX : HisR t X.1 o z := hH.fr (fun a b1 b2 => xA a (by omega) (by omega) (by omega) (by omega)) (congrFun (xA 134 (by decide) (by decide) (by decide) (by omega)) 2) (xA 136 (by decide) (by decide) (by decide) (by omega))
    have x135 : X.1 135 = M 135 := xA 135 (by decide) (by decide) (by decide) (by omega)
    obtain ⟨o', ho⟩ := his_recF (f := 17) (P := P) (by decide) hHX (by rw [x135]; exact x17) (by rw [x135]; exact hI)
    generalize hM1 : recM X.1 33 o z 17 = M1 at hcc m1 ho
    obtain ⟨F, f1, f2, f3, f4, f5, f6, hdd⟩ := hd M1 (fun a ha => (m1 a (by omega)).trans (xA a (by omega) (by omega) (by omega) (by omega))) hnp hnp14 bp hE1
    rw [hX] at f1 f2
    have c' : F.2.2.1 = 0 := by rw [← f1]; exact c
    rw [if_pos c', if_pos c', ← f1] at hdd
    -- behind the reference's call
    have sA : ∀ a, a ≠ 135 → a ≠ 137 → swM F.1 134 a = F.1 a := fun a h1 h2 => swM_a h2 h1
    have bA : ∀ a, a ≠ 134 → a ≠ 135 → a ≠ 136 → a ≠ 137 → a ≠ 139 → a ≠ 141 → baM (ntM (swM F.1 134) 134 z) 134 a = M1 a := fun a h1 h2 h3 h4 h5 h6 => (baM_a h2).trans ((ntM_a h1 h3).trans ((sA a h2 h4).trans (f4 a h1 h2 h4 h5 h6)))
    have b134 : ∀ j, j ≠ 2 → (j < 6 ∨ j = 10) → baM (ntM (swM F.1 134) 134 z) 134 134 j = M 134 j := fun j h1 h2 => (congrFun (baM_a (by decide)) j).trans ((ntM_o h1).trans ((congrFun (sA 134 (by decide) (by decide)) j).trans (f5 j h2)))
    have b135 : ∀ j, j < 1724 → baM (ntM (swM F.1 134) 134 z) 134 135 j = F.1 135 j := fun j hj => by
      rw [baM_135 hj, ntM_a (by decide) (by decide), (swM_135 hj).2]
    have hBig : ∀ a, 137 < a → a ≠ 139 → a ≠ 141 → baM (ntM (swM F.1 134) 134 z) 134 a = M a := fun a h1 h2 h3 => (bA a (by omega) (by omega) (by omega) (by omega) h2 h3).trans ((m1 a (by omega)).trans (xA a (by omega) (by omega) (by omega) (by omega)))
    refine ⟨_, M1, _, 6, 5, by decide, by decide, hcc, hdd, P, o', ntZ z + 1, len, ⟨?_, (f3.ge b135).mono (Nat.le_succ t)⟩, (ho _ (fun a b1 b2 => ?_) ((congrFun (baM_a (by decide)) 2).trans ntM_2) ((baM_a (by decide)).trans (ntM_c (fun j hj => ?_) ?_))).mono (Nat.le_succ t), TxtR.fr ⟨t1, t2, t3, t4⟩ ?_ (b134 5 (by decide) (by omega)) ?_ (hBig 138 (by decide) (by decide) (by decide)), ?_⟩
    · exact (f2.fr2 (fun a b1 b2 => (bA a (by omega) (by omega) (by omega) (by omega) (by omega) (by omega)).trans (m1 a (by omega)))).ge b135
    · rw [bA a (by omega) (by omega) (by omega) (by omega) (by omega) (by omega)]
    · rw [(swM_135 hj).1, f6 j hj, x135]
    · rw [sA 136 (by decide) (by decide), f4 136 (by decide) (by decide) (by decide) (by decide) (by decide)]
      exact m1 136 (by omega)
    · rw [bA 115 (by decide) (by decide) (by decide) (by decide) (by decide) (by decide), m1 115 (by omega)]
      exact x115
    · rw [bA 116 (by decide) (by decide) (by decide) (by decide) (by decide) (by decide), m1 116 (by omega)]
      exact xA 116 (by decide) (by decide) (by decide) (by omega)
    · have hf0 : baM (ntM (swM F.1 134) 134 z) 134 118 0 = nI 1 := by
        rw [bA 118 (by decide) (by decide) (by decide) (by decide) (by decide) (by decide), m1 118 (by omega), x118]
        exact hF.1
      have h133 : baM (ntM (swM F.1 134) 134 z) 134 133 = M 133 := by
        rw [bA 133 (by decide) (by decide) (by decide) (by decide) (by decide) (by decide), m1 133 (by omega)]
        exact xA 133 (by decide) (by decide) (by decide) (by omega)
      refine ⟨hf0, ?_⟩
      rw [h133, b134 10 (by decide) (by omega), hBig 140 (by decide) (by decide) (by decide)]
      exact hF.2
  · rw [if_neg c, if_neg c] at hcc
    obtain ⟨v0, v1, v2, v3, v4⟩ := fpM_v (C := cpM X.1 17 1) (a := 133) (x0 := nI 2) (x1 := (nI (pt X.2.2.2).1)) (x2 := (nI (pt X.2.2.2).2.1)) (x3 := (nI X.2.1)) (x4 := X.2.2.1)
    have m0 : ∀ a, a ≠ 133 → fpM (cpM X.1 17 1) 133 (nI 2) (nI (pt X.2.2.2).1) (nI (pt X.2.2.2).2.1) (nI X.2.1) X.2.2.1 a = cpM X.1 17 1 a := fun a h1 => fpM_a h1
    generalize hM1 : fpM (cpM X.1 17 1) 133 (nI 2) (nI (pt X.2.2.2).1) (nI (pt X.2.2.2).2.1) (nI X.2.1) X.2.2.1 = M1 at hcc v0 v1 v2 v3 v4 m0
    have m1 : ∀ a, 17 ≤ a → a ≠ 133 → M1 a = X.1 a := fun a h1 h2 => (m0 a h2).trans (cpM_ne (by omega))
    have hRow : RowEq M1 1 (M 135) := (x17.cp (q := 1) (Or.inr (by omega))).fr2 (fun a b1 b2 => m0 a (by omega))
    obtain ⟨F, f1, f2, f3, f4, f5, f6, hdd⟩ := hd M1 (fun a ha => (m1 a (by omega) (by omega)).trans (xA a (by omega) (by omega) (by omega) (by omega))) hnp hnp14 bp hE1
    rw [hX] at f1 f2
    have c' : ¬ F.2.2.1 = 0 := by rw [← f1]; exact c
    rw [if_neg c', if_neg c', ← f1] at hdd
    obtain ⟨w10, w0, w1, w2, w3, w4⟩ := fbD_v (D := F.1) (x0 := nI 2) (x1 := (nI (pt X.2.2.2).1)) (x2 := (nI (pt X.2.2.2).2.1)) (x3 := (nI X.2.1)) (x4 := X.2.2.1)
    have wo : ∀ j, j ≠ 10 → fbD F.1 134 (nI 2) (nI (pt X.2.2.2).1) (nI (pt X.2.2.2).2.1) (nI X.2.1) X.2.2.1 134 j = F.1 134 j := fun j hj => fbD_o hj
    have wa : ∀ a, a ≠ 134 → a ≠ 140 → fbD F.1 134 (nI 2) (nI (pt X.2.2.2).1) (nI (pt X.2.2.2).2.1) (nI X.2.1) X.2.2.1 a = F.1 a := fun a h1 h2 => fbD_a h1 h2
    generalize fbD F.1 134 (nI 2) (nI (pt X.2.2.2).1) (nI (pt X.2.2.2).2.1) (nI X.2.1) X.2.2.1 = Y at hdd w10 w0 w1 w2 w3 w4 wo wa
    have bA : ∀ a, a ≠ 134 → a ≠ 135 → a ≠ 137 → a ≠ 139 → a ≠ 140 → a ≠ 141 → baM Y 134 a = M1 a := fun a h1 h2 h3 h4 h5 h6 => (baM_a h2).trans ((wa a h1 h5).trans (f4 a h1 h2 h3 h4 h6))
    have b134 : ∀ j, j < 6 → baM Y 134 134 j = M 134 j := fun j h1 => (congrFun (baM_a (by decide)) j).trans ((wo j (by omega)).trans (f5 j (Or.inl h1)))
    have b135 : ∀ j, j < 1724 → baM Y 134 135 j = M 135 j := fun j hj => by
      rw [baM_135 hj, wa 137 (by decide) (by decide)]
      exact f6 j hj
    have hX' : ∀ a, 33 ≤ a → a ≠ 115 → a ≠ 118 → (a < 119 ∨ a = 136 ∨ a = 138) → baM Y 134 a = M a := fun a h1 h2 h3 h4 => (bA a (by omega) (by omega) (by omega) (by omega) (by omega) (by omega)).trans ((m1 a (by omega) (by omega)).trans (xA a h1 h2 h3 (by omega)))
    refine ⟨_, M1, _, 6, 5, by decide, by decide, hcc, hdd, P, o, z, len, ⟨?_, (hI.ge b135).mono (Nat.le_succ t)⟩, (hH.mono (Nat.le_succ t)).fr (fun a b1 b2 => hX' a b1 (by omega) (by omega) (by omega)) (b134 2 (by decide)) (hX' 136 (by decide) (by decide) (by decide) (by omega)), TxtR.fr ⟨t1, t2, t3, t4⟩ ?_ (b134 5 (by decide)) (hX' 116 (by decide) (by decide) (by decide) (by omega)) (hX' 138 (by decide) (by decide) (by decide) (by omega)), ?_, Or.inr ⟨?_, ?_, ?_⟩⟩
    · exact (hRow.fr2 (fun a b1 b2 => bA a (by omega) (by omega) (by omega) (by omega) (by omega) (by omega))).ge b135
    · rw [bA 115 (by decide) (by decide) (by decide) (by decide) (by decide) (by decide), m1 115 (by decide) (by decide)]
      exact x115
    · rw [bA 118 (by decide) (by decide) (by decide) (by decide) (by decide) (by decide), m1 118 (by decide) (by decide), x118]
      exact hF.1
    · rw [bA 133 (by decide) (by decide) (by decide) (by decide) (by decide) (by decide), v0]
      decide
    · rw [baM_a (by decide), w10]
      decide
    · intro i hi
      rw [bA 133 (by decide) (by decide) (by decide) (by decide) (by decide) (by decide), baM_a (by decide)]
      rcases (show i = 0 ∨ i = 1 ∨ i = 2 ∨ i = 3 ∨ i = 4 by omega) with rfl | rfl | rfl | rfl | rfl
      · rw [v0, w0]
      · rw [v1, w1]
      · rw [v2, w2]
      · rw [v3, w3]
      · rw [v4, w4]
theorem b_run {sh : Sh} (hs : IsSH sh 0) (hm : IsMo sh 134) {t : Nat} {M : Mem} (hR : Rel t M) (ht : t ≤ 512) (x : Int32) : Bth mX4_run mX5_run sh Rel [.inl x] t M := by
  obtain ⟨P, o, z, len, hA⟩ := hR
  by_cases hx : isP P x
  · obtain ⟨p, hp, rfl⟩ := hx
    by_cases hf : (rtE (rtR 115 len (M 116) M)).2 = (-1)
    · exact b_run_go hs hm ht hA hp hf
    · exact b_run_pf hs hm hA hp hf
  · exact Bth.q hA (c_run_bad hs hA.wf x hx) (d_run_bad hm hA.wm x hx) (by decide) (by decide) rfl
