theorem ntM_c {D D' : Mem} {z : Nat} (h1 : ∀ j, j < 1724 → D 135 j = D' 135 j) (h2 : D 136 = D' 136) : ntM D 134 z 136 = ntM D' 134 z 136 := by
  unfold ntM
  rw [up_ne (by decide), up_ne (by decide), show (134 + 2 : Nat) = 136 from rfl]
  funext j
  have hs : ntS D 134 z 136 = ntS D' 134 z 136 := by
    unfold ntS
    by_cases h5 : z = 5
    · rw [if_pos h5, if_pos h5, up_ne (by decide), up_ne (by decide), show (134 + 2 : Nat) = 136 from rfl]
      funext i
      by_cases hi : 0 ≤ i ∧ i < 0 + 6896
      · rw [fcO_in hi, fcO_in hi, h2]
      · rw [fcO_out hi, fcO_out hi, h2]
    · rw [if_neg h5, if_neg h5, h2]
  have hn : ∀ i, i < 1724 → ntS D 134 z 135 i = ntS D' 134 z 135 i := fun i hi => by
    unfold ntS
    by_cases h5 : z = 5
    · rw [if_pos h5, if_pos h5, up_ne (by decide), up_ne (by decide), fcO_ne (by decide), fcO_ne (by decide)]; exact h1 i hi
    · rw [if_neg h5, if_neg h5]; exact h1 i hi
  by_cases hj : 1724 * ntZ z ≤ j ∧ j < 1724 * ntZ z + 1724
  · rw [fcO_in hj, fcO_in hj]; exact hn _ (by omega)
  · rw [fcO_out hj, fcO_out hj, hs]
theorem ntM_2 {D : Mem} {z : Nat} : ntM D 134 z 134 2 = nI (ntZ z + 1) := up_eq
theorem ntM_o {D : Mem} {z j : Nat} (hj : j ≠ 2) : ntM D 134 z 134 j = D 134 j := by
  unfold ntM
  rw [up_ne2 hj, fcO_ne (by decide)]
  unfold ntS
  by_cases h5 : z = 5
  · rw [if_pos h5, up_ne2 hj, fcO_ne (by decide)]
  · rw [if_neg h5]
theorem rel_rec {t : Nat} {M : Mem} {P o z len : Nat} (hA : RelAt t M P o z len) : ∃ o' : Nat, ∀ (M1 M2 : Mem) (P' : Nat), (∀ a, 17 ≤ a → M1 a = recM M 33 o z 1 a) → (∀ a, a < 134 → M2 a = M1 a) → M2 134 2 = nI (ntZ z + 1) → M2 134 5 = M 134 5 → M2 134 10 = M 134 10 → M2 136 = ntM M 134 z 136 → M2 138 = M 138 → M2 140 = M 140 → RowEq M1 1 (M2 135) → RowInv (t + 1) (M2 135) P' → Rel (t + 1) M2 := by
  obtain ⟨⟨hE, hI⟩, hH, hT, hF⟩ := id hA
  obtain ⟨o', ho⟩ := his_rec hH hE hI
  refine ⟨o', fun M1 M2 P' e1 e2 e3 e4 e5 e6 e7 e8 h1 h2 => ⟨P', o', ntZ z + 1, len, ⟨h1.fr2 (fun a b1 b2 => e2 a (by omega)), h2⟩, (ho M2 (fun a b1 b2 => (e2 a (by omega)).trans (e1 a (by omega))) e3 e6).mono (Nat.le_succ t), ?_, ?_⟩⟩
  · have r : ∀ a, 115 ≤ a → a < 134 → M2 a = M a := fun a b1 b2 => (e2 a b2).trans ((e1 a (by omega)).trans (recM_ne hH.2.1.2.2 (by omega)))
    exact hT.fr (by rw [r 115 (by decide) (by decide)]) e4 (r 116 (by decide) (by decide)) e7
  · exact hF.fr ((e2 133 (by decide)).trans ((e1 133 (by decide)).trans (recM_ne hH.2.1.2.2 (by omega)))) e5 e8 ((e2 118 (by decide)).trans ((e1 118 (by decide)).trans (recM_ne hH.2.1.2.2 (by omega))))
theorem recM_now {M : Mem} {o z a : Nat} (hz : z ≤ 5) (ha : a < 33) : recM M 33 o z 1 a = M a := recM_ne hz (Or.inl ha)
theorem recM_hi {M : Mem} {o z a : Nat} (hz : z ≤ 5) (ha : 115 ≤ a) : recM M 33 o z 1 a = M a := recM_ne hz (Or.inr ha)
theorem hld_c {g g' : Nat → Int32} {p : Nat} (e : ∀ s, s < 96 → g' (572 + 96 * p + s) = g (572 + 96 * p + s)) : hld g' p = hld g p := sm_c 96 (fun s hs => by rw [e s hs])
theorem row_set2 {M C : Mem} {g g' : Nat → Int32} (h : RowEq M 1 g) (R : ∀ a, 2 ≤ a → a ≤ 16 → C a = M a) (R1 : ∀ j, j ≠ 1 → C 1 j = M 1 j) (hx : C 1 1 = g' 2) (e : ∀ j, j < 1724 → j ≠ 2 → g' j = g j) : RowEq C 1 g' := by
  obtain ⟨⟨b1, b2, b3, b4⟩, a2, a3, a4, a5, a6⟩ := h
  refine ⟨⟨?_, hx, ?_, ?_⟩, fun p hp => ?_, fun s hs => ?_, fun j hj => ?_, fun p s hp hs => ?_, fun p hp => ?_⟩
  · rw [R1 0 (by decide), e _ (by decide) (by decide)]; exact b1
  · rw [R1 2 (by decide), e _ (by decide) (by decide)]; exact b3
  · rw [R1 3 (by decide), e _ (by decide) (by decide)]; exact b4
  · rw [R _ (by omega) (by omega), R _ (by omega) (by omega), R _ (by omega) (by omega), R _ (by omega) (by omega), R _ (by omega) (by omega), R _ (by omega) (by omega), R _ (by omega) (by omega), e _ (by omega) (by omega), e _ (by omega) (by omega), e _ (by omega) (by omega), e _ (by omega) (by omega), e _ (by omega) (by omega), e _ (by omega) (by omega), e _ (by omega) (by omega)]
    exact a2 p hp
  · rw [R _ (by omega) (by omega), R _ (by omega) (by omega), R _ (by omega) (by omega), R _ (by omega) (by omega), R _ (by omega) (by omega), e _ (by omega) (by omega), e _ (by omega) (by omega), e _ (by omega) (by omega), e _ (by omega) (by omega), e _ (by omega) (by omega)]
    exact a3 s hs
  · rw [R _ (by omega) (by omega), e _ (by omega) (by omega)]; exact a4 j hj
  · rw [R _ (by omega) (by omega), e _ (by omega) (by omega)]; exact a5 p s hp hs
  · rw [R _ (by omega) (by omega), hld_c (fun s hs => e _ (by omega) (by omega))]; exact a6 p hp
theorem inv_set2 {t P : Nat} {g g' : Nat → Int32} (h : RowInv t g P) (hi : ∃ k : Nat, g' 2 = nI k ∧ k ≤ 1000) (e : ∀ j, j < 1724 → j ≠ 2 → g' j = g j) : RowInv t g' P := by
  obtain ⟨⟨a1, b1⟩, a2, a3, a4, a5, a6, a7, a8, a9, a10, a11⟩ := h
  refine ⟨⟨by rw [e _ (by omega) (by omega)]; exact a1, b1⟩, fun p hp => by rw [e _ (by omega) (by omega)]; exact a2 p hp, fun p s hp hs => by rw [e _ (by omega) (by omega)]; exact a3 p s hp hs, fun p h1 h2 => ⟨fun w hw => by rw [e _ (by omega) (by omega)]; exact (a4 p h1 h2).1 w hw, fun s hs => by rw [e _ (by omega) (by omega)]; exact (a4 p h1 h2).2 s hs⟩, fun s hs => by rw [e _ (by omega) (by omega)]; exact a5 s hs, fun s hs => by rw [e _ (by omega) (by omega)]; exact a6 s hs, fun s hs => by rw [e _ (by omega) (by omega)]; exact a7 s hs, hi, by rw [e _ (by omega) (by omega)]; exact a9, fun p hp => by rw [e _ (by omega) (by omega)]; exact a10 p hp, fun p hp => by rw [e _ (by omega) (by omega), hld_c (fun s hs => e _ (by omega) (by omega))]; exact a11 p hp⟩
theorem b_setFine {sh : Sh} (hs : IsSH sh 0) (hm : IsMo sh 134) {t : Nat} {M : Mem} (hR : Rel t M) (x : Int32) : Bth mX4_setFine mX5_setFine sh Rel [.inl x] t M := by
  obtain ⟨P, o, z, len, hA⟩ := hR
  obtain ⟨⟨hE, hI⟩, ⟨hh1, hh2, hh3⟩, hT, hF⟩ := id hA
  have hz5 := hh2.2.2
  by_cases hx : nI 0 ≤ x ∧ x ≤ nI 1000
  · obtain ⟨o', ho⟩ := rel_rec hA
    have hc := c_setFine_ok hs hA.wf hh1.1 hh2.1 hh1.2 hz5 x hx
    have e1 : ∀ a, 17 ≤ a → (up (recM M 33 o z 1) 1 1 x) a = recM M 33 o z 1 a := fun a ha => up_ne (by omega)
    have e34 : ∀ a, 134 ≤ a → (up (recM M 33 o z 1) 1 1 x) a = M a := fun a ha => (e1 a (by omega)).trans (recM_hi hz5 (by omega))
    have hw1 : Wm (up (recM M 33 o z 1) 1 1 x) 134 P := by
      unfold Wm
      rw [show (134 + 1 : Nat) = 135 from rfl, e34 135 (by decide)]
      exact hI.wm
    have hd := d_setFine_ok (D := up (recM M 33 o z 1) 1 1 x) (z := z) hm hw1 (by rw [e34 134 (by decide)]; exact hh2.2.1) hz5 x hx
    have g0 : (ntM (up (recM M 33 o z 1) 1 1 x) 134 z) 135 = M 135 := (ntM_a (by decide) (by decide)).trans (e34 135 (by decide))
    have er : (recM M 33 o z 1) 1 1 = (ntM (up (recM M 33 o z 1) 1 1 x) 134 z) 135 2 := by
      rw [g0, recM_now hz5 (by decide)]; exact hE.1.2.1
    have hd' := hd
    rw [show (ntM (up (recM M 33 o z 1) 1 1 x) 134 z) (134 + 1) 2 = (recM M 33 o z 1) 1 1 from er.symm] at hd'
    refine ⟨_, _, _, 4, 1, by decide, by decide, hc, hd', ?_⟩
    have gg : ∀ j, j < 1724 → j ≠ 2 → (up (ntM (up (recM M 33 o z 1) 1 1 x) 134 z) 135 2 x) 135 j = M 135 j := fun j _ hj => (up_ne2 hj).trans (congrFun g0 j)
    refine ho (up (recM M 33 o z 1) 1 1 x) (up (ntM (up (recM M 33 o z 1) 1 1 x) 134 z) 135 2 x) P e1 (fun a ha => (up_ne (by omega)).trans (ntM_a (by omega) (by omega))) ((congrFun (up_ne (by decide)) _).trans ntM_2) ((congrFun (up_ne (by decide)) _).trans ((ntM_o (by decide)).trans (congrFun (e34 134 (by decide)) _))) ((congrFun (up_ne (by decide)) _).trans ((ntM_o (by decide)).trans (congrFun (e34 134 (by decide)) _))) ((up_ne (by decide)).trans (ntM_c (fun j _ => congrFun (e34 135 (by decide)) j) (e34 136 (by decide)))) ((up_ne (by decide)).trans ((ntM_a (by decide) (by decide)).trans (e34 138 (by decide)))) ((up_ne (by decide)).trans ((ntM_a (by decide) (by decide)).trans (e34 140 (by decide)))) ?_ ?_
    · have R : ∀ a, 2 ≤ a → a ≤ 16 → (up (recM M 33 o z 1) 1 1 x) a = M a := fun a b1 b2 => (up_ne (by omega)).trans (recM_now hz5 (by omega))
      have R1 : ∀ j, j ≠ 1 → (up (recM M 33 o z 1) 1 1 x) 1 j = M 1 j := fun j hj => (up_ne2 hj).trans (congrFun (recM_now hz5 (by decide)) j)
      exact row_set2 hE R R1 (up_eq.trans up_eq.symm) gg
    · obtain ⟨i, hi, rfl⟩ := rng (by decide) hx
      exact inv_set2 (hI.mono (Nat.le_succ t)) ⟨i, up_eq, hi⟩ gg
  · exact Bth.q hA (c_setFine_bad hs hA.wf x hx) (d_setFine_bad hm hA.wm x hx) (by decide) (by decide) rfl
