theorem rng {x : Int32} {n : Nat} (hn : n < 2 ^ 31) (h : nI 0 ≤ x ∧ x ≤ nI n) : ∃ i, i ≤ n ∧ x = nI i := by
  have h1 := Int32.le_iff_toInt_le.mp h.1
  have h2 := Int32.le_iff_toInt_le.mp h.2
  rw [nI_toInt (by decide)] at h1
  rw [nI_toInt hn] at h2
  refine ⟨x.toInt.toNat, by omega, Int32.toInt_inj.mp ?_⟩
  rw [nI_toInt (by omega)]
  omega
theorem rngI {x : Int32} {n : Nat} (hn : n < 2 ^ 31) (h : ¬ (x.toInt < 0 ∨ (n : Int) < x.toInt)) : ∃ i, i ≤ n ∧ x = nI i := by
  refine ⟨x.toInt.toNat, by omega, Int32.toInt_inj.mp ?_⟩
  rw [nI_toInt (by omega)]
  omega
theorem inS_x {a b : Int32} (h : inS a b) : ∃ st h2, st < 4 ∧ h2 < 24 ∧ a = nI st ∧ b = nI h2 := by
  obtain ⟨i, hi, rfl⟩ := rng (by decide) h.1
  obtain ⟨j, hj, rfl⟩ := rng (by decide) h.2
  exact ⟨i, j, by omega, by omega, rfl, rfl⟩
theorem RowEq.fr2 {C C' : Mem} {q : Nat} {g : Nat → Int32} (h : RowEq C q g) (e : ∀ a, q ≤ a → a ≤ q + 15 → C' a = C a) : RowEq C' q g := by
  obtain ⟨a1, a2, a3, a4, a5, a6⟩ := h
  refine ⟨?_, fun p hp => ?_, fun s hs => ?_, fun j hj => ?_, fun p s hp hs => ?_, fun p hp => ?_⟩
  · rw [e q (by omega) (by omega)]; exact a1
  · rw [e (q + 1) (by omega) (by omega), e (q + 3) (by omega) (by omega), e (q + 5) (by omega) (by omega), e (q + 6) (by omega) (by omega), e (q + 7) (by omega) (by omega), e (q + 8) (by omega) (by omega), e (q + 4) (by omega) (by omega)]; exact a2 p hp
  · rw [e (q + 10) (by omega) (by omega), e (q + 11) (by omega) (by omega), e (q + 12) (by omega) (by omega), e (q + 13) (by omega) (by omega), e (q + 14) (by omega) (by omega)]; exact a3 s hs
  · rw [e (q + 15) (by omega) (by omega)]; exact a4 j hj
  · rw [e (q + 9) (by omega) (by omega)]; exact a5 p s hp hs
  · rw [e (q + 2) (by omega) (by omega)]; exact a6 p hp
theorem HisR.fr {t : Nat} {M M' : Mem} {o z : Nat} (h : HisR t M o z) (e1 : ∀ a, 33 ≤ a → a ≤ 114 → M' a = M a) (e2 : M' 134 2 = M 134 2) (e3 : M' 136 = M 136) : HisR t M' o z := by
  obtain ⟨h1, h2, h3⟩ := h
  refine ⟨by rw [e1 33 (by omega) (by omega)]; exact h1, by rw [e1 33 (by omega) (by omega), e2]; exact h2, fun i hi => ?_⟩
  obtain ⟨P', b1, b2⟩ := h3 i hi
  rw [e3]
  exact ⟨P', b1.fr2 (fun a ha hb => e1 a (by omega) (by omega)), b2⟩
theorem FaiR.fr {M M' : Mem} (h : FaiR M) (e1 : M' 133 = M 133) (e2 : M' 134 10 = M 134 10) (e3 : M' 140 = M 140) (e0 : M' 118 = M 118) : FaiR M' := by
  unfold FaiR
  rw [e0, e1, e2, e3]
  exact h
theorem TxtR.fr {M M' : Mem} {len : Nat} (h : TxtR M len) (e1 : M' 115 1 = M 115 1) (e2 : M' 134 5 = M 134 5) (e3 : M' 116 = M 116) (e4 : M' 138 = M 138) : TxtR M' len := by
  unfold TxtR
  rw [e1, e2, e3, e4]
  exact h
theorem b_append {sh : Sh} (hs : IsSH sh 0) (hm : IsMo sh 134) {t : Nat} {M : Mem} (hR : Rel t M) (x : Int32) : Bth mX4_append mX5_append sh Rel [.inl x] t M := by
  obtain ⟨P, o, z, len, hA⟩ := hR
  obtain ⟨⟨hE, hI⟩, hH, hT, hF⟩ := id hA
  obtain ⟨t1, t2, t3, t4⟩ := id hT
  by_cases hx : nI 1 ≤ x ∧ x ≤ nI 255
  · by_cases hf : len = 100
    · exact Bth.q hA (c_append_full hs t1 t3 x hx hf) (d_append_full hm t2 t3 x hx hf) (by decide) (by decide) rfl
    · refine ⟨nI (len + 1), up (up M 116 len x) 115 1 (nI (len + 1)), up (up (up (up M 116 len x) 115 1 (nI (len + 1))) 138 len x) 134 5 (nI (len + 1)), 1, 1, by decide, by decide, c_append_ok hs t1 t3 x hx (by omega), d_append_ok hm (D := up (up M 116 len x) 115 1 (nI (len + 1))) ((congrFun (up_ne (by decide)) _).trans ((congrFun (up_ne (by decide)) _).trans t2)) t3 x hx (by omega), P, o, z, len + 1, ?_⟩
      have E : ∀ a, a ≠ 116 → a ≠ 115 → a ≠ 138 → a ≠ 134 → (up (up (up (up M 116 len x) 115 1 (nI (len + 1))) 138 len x) 134 5 (nI (len + 1))) a = M a := fun a h1 h2 h3 h4 => (up_ne h4).trans ((up_ne h3).trans ((up_ne h2).trans (up_ne h1)))
      have E4 : ∀ j, j ≠ 5 → (up (up (up (up M 116 len x) 115 1 (nI (len + 1))) 138 len x) 134 5 (nI (len + 1))) 134 j = M 134 j := fun j hj => (up_ne2 hj).trans ((congrFun (up_ne (by decide)) _).trans ((congrFun (up_ne (by decide)) _).trans (congrFun (up_ne (by decide)) _)))
      have E5 : (up (up (up (up M 116 len x) 115 1 (nI (len + 1))) 138 len x) 134 5 (nI (len + 1))) 116 = up M 116 len x 116 := (up_ne (by decide)).trans ((up_ne (by decide)).trans (up_ne (by decide)))
      have E6 : (up (up (up (up M 116 len x) 115 1 (nI (len + 1))) 138 len x) 134 5 (nI (len + 1))) 138 = up M 138 len x 138 := by
        refine (up_ne (by decide)).trans ?_
        funext j
        by_cases hj : j = len
        · subst hj; rw [up_eq, up_eq]
        · rw [up_ne2 hj, up_ne2 hj, up_ne (by decide), up_ne (by decide)]
      refine ⟨⟨(hE.fr2 (fun a h1 h2 => E a (by omega) (by omega) (by omega) (by omega))), ?_⟩, (hH.mono (Nat.le_succ t)).fr (fun a h1 h2 => E a (by omega) (by omega) (by omega) (by omega)) (E4 2 (by decide)) (E 136 (by decide) (by decide) (by decide) (by decide)), ⟨?_, up_eq, by omega, fun p hp => ?_⟩, hF.fr (E 133 (by decide) (by decide) (by decide) (by decide)) (E4 10 (by decide)) (E 140 (by decide) (by decide) (by decide) (by decide)) (E 118 (by decide) (by decide) (by decide) (by decide))⟩
      · rw [E 135 (by decide) (by decide) (by decide) (by decide)]; exact hI.mono (Nat.le_succ t)
      · exact (congrFun (up_ne (by decide)) _).trans ((congrFun (up_ne (by decide)) _).trans up_eq)
      · rw [E5, E6]
        by_cases hj : p = len
        · subst hj; rw [up_eq, up_eq]
        · rw [up_ne2 hj, up_ne2 hj]; exact t4 p (by omega)
  · exact Bth.q hA (c_append_bad hs t1 t3 x hx) (d_append_bad hm x hx) (by decide) (by decide) rfl
theorem b_clearText {sh : Sh} (hs : IsSH sh 0) (hm : IsMo sh 134) {t : Nat} {M : Mem} (hR : Rel t M) : Bth mX4_clearText mX5_clearText sh Rel [] t M := by
  obtain ⟨P, o, z, len, hA⟩ := hR
  obtain ⟨⟨hE, hI⟩, hH, hT, hF⟩ := id hA
  obtain ⟨t1, t2, t3, t4⟩ := id hT
  refine ⟨nI len, up M 115 1 (nI 0), up (up M 115 1 (nI 0)) 134 5 (nI 0), 0, 0, by decide, by decide, c_clearText hs t1 t3, d_clearText hm (D := up M 115 1 (nI 0)) ((congrFun (up_ne (by decide)) _).trans t2) t3, P, o, z, 0, ?_⟩
  have E : ∀ a, a ≠ 115 → a ≠ 134 → (up (up M 115 1 (nI 0)) 134 5 (nI 0)) a = M a := fun a h1 h2 => (up_ne h2).trans (up_ne h1)
  have E4 : ∀ j, j ≠ 5 → (up (up M 115 1 (nI 0)) 134 5 (nI 0)) 134 j = M 134 j := fun j hj => (up_ne2 hj).trans (congrFun (up_ne (by decide)) _)
  refine ⟨⟨(hE.fr2 (fun a h1 h2 => E a (by omega) (by omega))), ?_⟩, (hH.mono (Nat.le_succ t)).fr (fun a h1 h2 => E a (by omega) (by omega)) (E4 2 (by decide)) (E 136 (by decide) (by decide)), ⟨(congrFun (up_ne (by decide)) _).trans up_eq, up_eq, by omega, fun p hp => absurd hp (Nat.not_lt_zero p)⟩, hF.fr (E 133 (by decide) (by decide)) (E4 10 (by decide)) (E 140 (by decide) (by decide)) (E 118 (by decide) (by decide))⟩
  rw [E 135 (by decide) (by decide)]; exact hI.mono (Nat.le_succ t)
theorem b_failure {sh : Sh} (hs : IsSH sh 0) (hm : IsMo sh 134) {t : Nat} {M : Mem} (hR : Rel t M) (x : Int32) : Bth mX4_failure mX5_failure sh Rel [.inl x] t M := by
  obtain ⟨P, o, z, len, hA⟩ := hR
  by_cases hx : nI 0 ≤ x ∧ x ≤ nI 4
  · obtain ⟨i, hi, rfl⟩ := rng (by decide) hx
    rcases hA.2.2.2.2 with ⟨h1, h2⟩ | ⟨h1, h2, h3⟩
    · exact Bth.q hA (c_failure_none hs (by omega) h1) (d_failure_none hm (by omega) h2) (by decide) (by decide) rfl
    · exact Bth.q hA (c_failure_ok hs (by omega) h1) (d_failure_ok hm (by omega) h2) (by decide) (by decide) (h3 i (by omega))
  · exact Bth.q hA (c_failure_bad hs x hx) (d_failure_bad hm x hx) (by decide) (by decide) rfl
theorem b_fund {sh : Sh} (hs : IsSH sh 0) (hm : IsMo sh 134) {t : Nat} {M : Mem} (hR : Rel t M) (x : Int32) : Bth mX4_fund mX5_fund sh Rel [.inl x] t M := by
  obtain ⟨P, o, z, len, hA⟩ := hR
  by_cases hx : nI 0 ≤ x ∧ x ≤ nI 3
  · obtain ⟨i, hi, rfl⟩ := rng (by decide) hx
    exact Bth.q hA (c_fund_ok hs (by omega)) (d_fund_ok hm (by omega)) (by decide) (by decide) (hA.1.1.2.2.2.1 i (by omega))
  · exact Bth.q hA (c_fund_bad hs x hx) (d_fund_bad hm x hx) (by decide) (by decide) rfl
theorem RowEq.mk {t : Nat} {M : Mem} {P p s : Nat} (h : RowEq M 1 (M 135)) (hi : RowInv t (M 135) P) (hp : p < 12) (hs : s < 96) : bm M (0 + 1) p s = dm M 134 p s ∧ (∀ sd, sd = nI 0 ∨ sd = nI 1 → bF (bm M (0 + 1) p s) sd = aF (dm M 134 p s) sd) ∧ n01 (bm M (0 + 1) p s) = p01 (dm M 134 p s) := by
  have e : bm M (0 + 1) p s = dm M 134 p s := h.2.2.2.2.1 p s hp hs
  obtain ⟨k, h1, h2⟩ := hi.mk hp hs
  have e2 : dm M 134 p s = nI k := h1
  rw [e, e2]
  exact ⟨rfl, fun sd hsd => (mkF h2 sd hsd).1, (mkF h2 (nI 0) (Or.inl rfl)).2⟩
theorem RowEq.sb {t : Nat} {M : Mem} {P s : Nat} (h : RowEq M 1 (M 135)) (hi : RowInv t (M 135) P) (hs : s < 96) (sd : Int32) (hsd : sd = nI 0 ∨ sd = nI 1) : sB M (0 + 1) P s sd = sD M 134 P s sd := sm_c P (fun p hp => (h.mk hi (Nat.lt_of_lt_of_le hp hi.P12) hs).2.1 sd hsd)
theorem RowEq.nb {t : Nat} {M : Mem} {P s : Nat} (h : RowEq M 1 (M 135)) (hi : RowInv t (M 135) P) (hs : s < 96) : nB M (0 + 1) P s = nD M 134 P s := sm_c P (fun p hp => (h.mk hi (Nat.lt_of_lt_of_le hp hi.P12) hs).2.2)
theorem st24 (st h : Nat) : 24 * st + h = st * 24 + h := by omega
theorem b_person {sh : Sh} (hs : IsSH sh 0) (hm : IsMo sh 134) {t : Nat} {M : Mem} (hR : Rel t M) (x y : Int32) : Bth mX4_person mX5_person sh Rel [.inl x, .inl y] t M := by
  obtain ⟨P, o, z, len, hA⟩ := hR
  by_cases hx : isP P x
  · obtain ⟨p, hp, rfl⟩ := hx
    have hp12 : p < 12 := Nat.lt_of_lt_of_le hp hA.1.2.P12
    have e2 := hA.1.1.2.1 p hp12
    by_cases hy : y.toInt < 0 ∨ 7 < y.toInt
    · exact Bth.q hA (c_person_bad2 hs hA.wf hp y hy) (d_person_bad2 hm hA.wm hp y hy) (by decide) (by decide) rfl
    · obtain ⟨i, hi, rfl⟩ := rngI (n := 7) (by decide) hy
      rcases (show i = 0 ∨ i = 1 ∨ i = 2 ∨ i = 3 ∨ i = 4 ∨ i = 5 ∨ i = 6 ∨ i = 7 by omega) with rfl | rfl | rfl | rfl | rfl | rfl | rfl | rfl
      · exact Bth.q hA (c_person_0 hs hA.wf hp) (d_person_0 hm hA.wm hp) (by decide) (by decide) (e2.1)
      · exact Bth.q hA (c_person_1 hs hA.wf hp) (d_person_1 hm hA.wm hp) (by decide) (by decide) (hA.1.1.fr hA.1.2 hp12)
      · exact Bth.q hA (c_person_2 hs hA.wf hp) (d_person_2 hm hA.wm hp) (by decide) (by decide) (e2.2.1)
      · exact Bth.q hA (c_person_3 hs hA.wf hp) (d_person_3 hm hA.wm hp) (by decide) (by decide) (sm_c 96 (fun s hs9 => (hA.1.1.mk hA.1.2 hp12 hs9).2.2))
      · exact Bth.q hA (c_person_4 hs hA.wf hp) (d_person_4 hm hA.wm hp) (by decide) (by decide) (e2.2.2.1)
      · exact Bth.q hA (c_person_5 hs hA.wf hp) (d_person_5 hm hA.wm hp) (by decide) (by decide) (e2.2.2.2.1)
      · exact Bth.q hA (c_person_6 hs hA.wf hp) (d_person_6 hm hA.wm hp) (by decide) (by decide) (e2.2.2.2.2.1)
      · exact Bth.q hA (c_person_7 hs hA.wf hp) (d_person_7 hm hA.wm hp) (by decide) (by decide) (e2.2.2.2.2.2.1)
  · exact Bth.q hA (c_person_bad hs hA.wf x y hx) (d_person_bad hm hA.wm x y hx) (by decide) (by decide) rfl
theorem b_slot {sh : Sh} (hs : IsSH sh 0) (hm : IsMo sh 134) {t : Nat} {M : Mem} (hR : Rel t M) (x y v : Int32) : Bth mX4_slot mX5_slot sh Rel [.inl x, .inl y, .inl v] t M := by
  obtain ⟨P, o, z, len, hA⟩ := hR
  by_cases hx : inS x y
  · obtain ⟨st, h, hst, hh, rfl, rfl⟩ := inS_x hx
    have hs9 : st * 24 + h < 96 := by omega
    have e2 := hA.1.1.2.2.1 (st * 24 + h) hs9
    by_cases hy : v.toInt < 0 ∨ 5 < v.toInt
    · exact Bth.q hA (c_slot_bad2 hs hA.wf hst hh v hy) (d_slot_bad2 hm hA.wm hst hh v hy) (by decide) (by decide) rfl
    · obtain ⟨i, hi, rfl⟩ := rngI (n := 5) (by decide) hy
      rcases (show i = 0 ∨ i = 1 ∨ i = 2 ∨ i = 3 ∨ i = 4 ∨ i = 5 by omega) with rfl | rfl | rfl | rfl | rfl | rfl
      · exact Bth.q hA (c_slot_0 hs hA.wf hst hh) (d_slot_0 hm hA.wm hst hh) (by decide) (by decide) (by rw [st24]; exact (e2.1))
      · exact Bth.q hA (c_slot_1 hs hA.wf hst hh) (d_slot_1 hm hA.wm hst hh) (by decide) (by decide) (by rw [st24]; exact (hA.1.1.sb hA.1.2 hs9 _ (Or.inl rfl)))
      · exact Bth.q hA (c_slot_2 hs hA.wf hst hh) (d_slot_2 hm hA.wm hst hh) (by decide) (by decide) (by rw [st24]; exact (hA.1.1.sb hA.1.2 hs9 _ (Or.inr rfl)))
      · exact Bth.q hA (c_slot_3 hs hA.wf hst hh) (d_slot_3 hm hA.wm hst hh) (by decide) (by decide) (by rw [st24]; exact (e2.2.1))
      · exact Bth.q hA (c_slot_4 hs hA.wf hst hh) (d_slot_4 hm hA.wm hst hh) (by decide) (by decide) (by rw [st24]; exact (hA.1.1.nb hA.1.2 hs9))
      · exact Bth.q hA (c_slot_5 hs hA.wf hst hh) (d_slot_5 hm hA.wm hst hh) (by decide) (by decide) (by rw [st24]; exact (e2.2.2.2.2))
  · exact Bth.q hA (c_slot_bad hs hA.wf x y v hx) (d_slot_bad hm x y v hx) (by decide) (by decide) rfl
theorem b_bidOf {sh : Sh} (hs : IsSH sh 0) (hm : IsMo sh 134) {t : Nat} {M : Mem} (hR : Rel t M) (x a v : Int32) : Bth mX4_bidOf mX5_bidOf sh Rel [.inl x, .inl a, .inl v] t M := by
  obtain ⟨P, o, z, len, hA⟩ := hR
  by_cases hx : isP P x ∧ inS a v
  · obtain ⟨⟨p, hp, rfl⟩, h2⟩ := hx
    obtain ⟨st, h, hst, hh, rfl, rfl⟩ := inS_x h2
    exact Bth.q hA (c_bidOf_ok hs hA.wf hp hst hh) (d_bidOf_ok hm hA.wm hp hst hh) (by decide) (by decide) (by rw [st24, (hA.1.1.mk hA.1.2 (Nat.lt_of_lt_of_le hp hA.1.2.P12) (show st * 24 + h < 96 by omega)).1])
  · exact Bth.q hA (c_bidOf_bad hs hA.wf x a v hx) (d_bidOf_bad hm hA.wm x a v hx) (by decide) (by decide) rfl
