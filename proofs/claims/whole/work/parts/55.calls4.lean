theorem rec_fin {t : Nat} {M : Mem} {P o z len : Nat} (hA : RelAt t M P o z len) : ∃ o' : Nat, ∀ (M1 : Mem), (∀ a, 17 ≤ a → M1 a = recM M 33 o z 1 a) → (Wm M1 134 P ∧ M1 134 2 = nI z ∧ (ntM M1 134 z) 135 = M 135 ∧ M1 135 = M 135) ∧ ∀ (M2 : Mem) (P' : Nat), (∀ a, a ≠ 135 → a ≠ 137 → M2 a = ntM M1 134 z a) → RowEq M1 1 (M2 135) → RowInv (t + 1) (M2 135) P' → Rel (t + 1) M2 := by
  obtain ⟨⟨hE, hI⟩, ⟨hh1, hh2, hh3⟩, hT, hF⟩ := id hA
  have hz5 := hh2.2.2
  obtain ⟨o', ho⟩ := rel_rec hA
  refine ⟨o', fun M1 e1 => ?_⟩
  have e34 : ∀ a, 134 ≤ a → M1 a = M a := fun a ha => (e1 a (by omega)).trans (recM_hi hz5 (by omega))
  refine ⟨⟨?_, by rw [e34 134 (by decide)]; exact hh2.2.1, (ntM_a (by decide) (by decide)).trans (e34 135 (by decide)), e34 135 (by decide)⟩, fun M2 P' f h1 h2 => ?_⟩
  · unfold Wm
    rw [show (134 + 1 : Nat) = 135 from rfl, e34 135 (by decide)]
    exact hI.wm
  · refine ho M1 M2 P' e1 (fun a ha => (f a (by omega) (by omega)).trans (ntM_a (by omega) (by omega))) ?_ ?_ ?_ ((f 136 (by decide) (by decide)).trans (ntM_c (fun j _ => congrFun (e34 135 (by decide)) j) (e34 136 (by decide)))) ((f 138 (by decide) (by decide)).trans ((ntM_a (by decide) (by decide)).trans (e34 138 (by decide)))) ((f 140 (by decide) (by decide)).trans ((ntM_a (by decide) (by decide)).trans (e34 140 (by decide)))) h1 h2
    · rw [f 134 (by decide) (by decide)]; exact ntM_2
    · rw [f 134 (by decide) (by decide), ntM_o (by decide), e34 134 (by decide)]
    · rw [f 134 (by decide) (by decide), ntM_o (by decide), e34 134 (by decide)]
theorem hld_0 {g : Nat → Int32} {p : Nat} (h : ∀ s, s < 96 → g (572 + 96 * p + s) = 0) : hld g p = nI 0 := (sm_c 96 (g := fun _ => aF 0 (nI 0) + aF 0 (nI 1)) (fun s hs => by rw [h s hs])).trans (by decide +kernel)
theorem joD_a {D : Mem} {P a : Nat} {x : Int32} (h : a ≠ 135) : joD D 134 P x a = D a := by
  unfold joD
  rw [up_ne h, fcO_ne h, up_ne h, fcO_ne h]
theorem joD_v {D : Mem} {P : Nat} {x : Int32} (hP : P < 12) (hz1 : ∀ v, v < 7 → D 135 (8 + 7 * P + v) = 0) (hz2 : ∀ s, s < 96 → D 135 (572 + 96 * P + s) = 0) : joD D 134 P x 135 1 = D 135 1 + nI 1 ∧ joD D 134 P x 135 (8 + 7 * P) = x ∧ ∀ j, j < 1724 → j ≠ 1 → j ≠ 8 + 7 * P → joD D 134 P x 135 j = D 135 j := by
  unfold joD
  refine ⟨?_, ?_, fun j hj h1 h2 => ?_⟩
  · rw [show (134 + 1 : Nat) = 135 from rfl, up_eq, fcO_out (by omega), up_ne2 (by omega), fcO_out (by omega)]
  · rw [show (134 + 1 : Nat) = 135 from rfl, up_ne2 (by omega), fcO_out (by omega), up_eq]
  · rw [show (134 + 1 : Nat) = 135 from rfl, up_ne2 h1]
    by_cases hb : 572 + 96 * P ≤ j ∧ j < 572 + 96 * P + 96
    · rw [fcO_in hb]
      have := hz2 (j - (572 + 96 * P)) (by omega)
      rw [show 572 + 96 * P + (j - (572 + 96 * P)) = j by omega] at this
      exact this.symm
    · rw [fcO_out hb, up_ne2 h2]
      by_cases hc : 8 + 7 * P ≤ j ∧ j < 8 + 7 * P + 7
      · rw [fcO_in hc]
        have := hz1 (j - (8 + 7 * P)) (by omega)
        rw [show 8 + 7 * P + (j - (8 + 7 * P)) = j by omega] at this
        exact this.symm
      · rw [fcO_out hc]
theorem row_join {M C : Mem} {g g' : Nat → Int32} {P : Nat} (hP : P < 12) (h : RowEq M 1 g) (R : ∀ a, 3 ≤ a → a ≤ 16 → C a = M a) (R1 : ∀ j, j ≠ 3 → C 1 j = M 1 j) (R2 : ∀ j, j ≠ P → C 2 j = M 2 j) (hx : C 1 3 = g' 1) (hy : C 2 P = g' (8 + 7 * P)) (e : ∀ j, j < 1724 → j ≠ 1 → j ≠ 8 + 7 * P → g' j = g j) : RowEq C 1 g' := by
  obtain ⟨⟨b1, b2, b3, b4⟩, a2, a3, a4, a5, a6⟩ := h
  have eh : ∀ p, p < 12 → hld g' p = hld g p := fun p hp => hld_c (fun s hs => e _ (by omega) (by omega) (by omega))
  refine ⟨⟨?_, ?_, ?_, hx⟩, fun p hp => ?_, fun s hs => ?_, fun j hj => ?_, fun p s hp hs => ?_, fun p hp => ?_⟩
  · rw [R1 0 (by decide), e _ (by decide) (by decide) (by omega)]; exact b1
  · rw [R1 1 (by decide), e _ (by decide) (by decide) (by omega)]; exact b2
  · rw [R1 2 (by decide), e _ (by decide) (by decide) (by omega)]; exact b3
  · refine ⟨?_, ?_⟩
    · by_cases hpP : p = P
      · subst hpP; exact hy
      · rw [e (8 + 7 * p + 0) (by omega) (by omega) (by omega)]; exact (R2 p hpP).trans (a2 p hp).1
    · rw [R _ (by omega) (by omega), R _ (by omega) (by omega), R _ (by omega) (by omega), R _ (by omega) (by omega), R _ (by omega) (by omega), R _ (by omega) (by omega), e (8 + 7 * p + 1) (by omega) (by omega) (by omega), e (8 + 7 * p + 2) (by omega) (by omega) (by omega), e (8 + 7 * p + 3) (by omega) (by omega) (by omega), e (8 + 7 * p + 4) (by omega) (by omega) (by omega), e (8 + 7 * p + 5) (by omega) (by omega) (by omega), e (8 + 7 * p + 6) (by omega) (by omega) (by omega)]
      exact (a2 p hp).2
  · rw [R _ (by omega) (by omega), R _ (by omega) (by omega), R _ (by omega) (by omega), R _ (by omega) (by omega), R _ (by omega) (by omega), e _ (by omega) (by omega) (by omega), e _ (by omega) (by omega) (by omega), e _ (by omega) (by omega) (by omega), e _ (by omega) (by omega) (by omega), e _ (by omega) (by omega) (by omega)]
    exact a3 s hs
  · rw [R _ (by omega) (by omega), e _ (by omega) (by omega) (by omega)]; exact a4 j hj
  · rw [R _ (by omega) (by omega), e _ (by omega) (by omega) (by omega)]; exact a5 p s hp hs
  · rw [R _ (by omega) (by omega), eh p hp]; exact a6 p hp
theorem inv_join {t P k : Nat} {g g' : Nat → Int32} (hP : P < 12) (h : RowInv t g P) (h1 : g' 1 = nI (P + 1)) (hk : g' (8 + 7 * P) = nI k) (hk2 : k ≤ 100000) (e : ∀ j, j < 1724 → j ≠ 1 → j ≠ 8 + 7 * P → g' j = g j) : RowInv (t + 1) g' (P + 1) := by
  obtain ⟨⟨a1, b1⟩, a2, a3, a4, a5, a6, a7, a8, a9, a10, a11⟩ := h.mono (Nat.le_succ t)
  have eh : ∀ p, p < 12 → hld g' p = hld g p := fun p hp => hld_c (fun s hs => e _ (by omega) (by omega) (by omega))
  refine ⟨⟨h1, hP⟩, fun p hp => by rw [e _ (by omega) (by omega) (by omega)]; exact a2 p hp, fun p s hp hs => by rw [e _ (by omega) (by omega) (by omega)]; exact a3 p s hp hs, fun p h1 h2 => ⟨fun v hv => by rw [e _ (by omega) (by omega) (by omega)]; exact (a4 p (by omega) h2).1 v hv, fun s hs => by rw [e _ (by omega) (by omega) (by omega)]; exact (a4 p (by omega) h2).2 s hs⟩, fun s hs => by rw [e _ (by omega) (by omega) (by omega)]; exact a5 s hs, fun s hs => by rw [e _ (by omega) (by omega) (by omega)]; exact a6 s hs, fun s hs => ?_, by rw [e _ (by omega) (by omega) (by omega)]; exact a8, by rw [e _ (by omega) (by omega) (by omega)]; exact a9, fun p hp => by rw [e _ (by omega) (by omega) (by omega)]; exact a10 p hp, fun p hp => ?_⟩
  · rw [e _ (by omega) (by omega) (by omega)]
    obtain ⟨q, q1, q2⟩ := a7 s hs
    exact ⟨q, q1, Nat.lt_of_lt_of_le q2 (Nat.pow_le_pow_right (by decide) (Nat.le_succ P))⟩
  · rw [eh p hp]
    by_cases hpP : p = P
    · subst hpP
      exact ⟨k, 0, hk, by omega, hld_0 (a4 p (Nat.le_refl p) hp).2, Nat.zero_le k⟩
    · rw [e _ (by omega) (by omega) (by omega)]; exact a11 p hp
theorem b_join {sh : Sh} (hs : IsSH sh 0) (hm : IsMo sh 134) {t : Nat} {M : Mem} (hR : Rel t M) (x : Int32) : Bth mX4_join mX5_join sh Rel [.inl x] t M := by
  obtain ⟨P, o, z, len, hA⟩ := hR
  obtain ⟨⟨hE, hI⟩, ⟨hh1, hh2, hh3⟩, hT, hF⟩ := id hA
  have hz5 := hh2.2.2
  have hP12 := hI.P12
  by_cases hx : nI 0 ≤ x ∧ x ≤ nI 100000
  · by_cases hP : P = 12
    · exact Bth.q hA (c_join_full hs hA.wf x hx hP) (d_join_full hm hA.wm x hx hP) (by decide) (by decide) rfl
    · have hP : P < 12 := by omega
      obtain ⟨o', ho⟩ := rec_fin hA
      obtain ⟨⟨f1, f2, f3, f4⟩, f5⟩ := ho (up (up (recM M 33 o z 1) 2 P x) 1 3 (nI (P + 1))) (fun a ha => (up_ne (by omega)).trans (up_ne (by omega)))
      obtain ⟨v1, v2, v3⟩ := joD_v (D := ntM (up (up (recM M 33 o z 1) 2 P x) 1 3 (nI (P + 1))) 134 z) (x := x) hP (fun v hv => by rw [f3]; exact (hI.2.2.2.1 P (Nat.le_refl P) hP).1 v hv) (fun s h9 => by rw [f3]; exact (hI.2.2.2.1 P (Nat.le_refl P) hP).2 s h9)
      rw [f3] at v1 v3
      have v1' := v1.trans ((congrArg (· + nI 1) hI.P1).trans (nI_add P 1))
      refine ⟨nI P, _, _, 4, 2, by decide, by decide, c_join_ok hs hA.wf hh1.1 hh2.1 hh1.2 hz5 x hx hP, d_join_ok (D := up (up (recM M 33 o z 1) 2 P x) 1 3 (nI (P + 1))) hm f1 f2 hz5 x hx hP, ?_⟩
      refine f5 _ (P + 1) (fun a h1 h2 => joD_a h1) ?_ ?_
      · refine row_join hP hE (fun a b1 b2 => ?_) (fun j hj => ?_) (fun j hj => ?_) ?_ ?_ v3
        · exact (up_ne (by omega)).trans ((up_ne (by omega)).trans (recM_now hz5 (by omega)))
        · exact (up_ne2 hj).trans (congrFun ((up_ne (by decide)).trans (recM_now hz5 (by decide))) j)
        · exact (congrFun (up_ne (by decide)) j).trans ((up_ne2 hj).trans (congrFun (recM_now hz5 (by decide)) j))
        · exact up_eq.trans v1'.symm
        · exact ((congrFun (up_ne (by decide)) _).trans up_eq).trans v2.symm
      · obtain ⟨i, hi, rfl⟩ := rng (by decide) hx
        exact inv_join hP hI v1' v2 hi v3
  · exact Bth.q hA (c_join_bad hs hA.wf x hx) (d_join_bad hm hA.wm x hx) (by decide) (by decide) rfl
theorem resM_at {C : Mem} {o z : Nat} (hz : 0 < z) : resM C 33 o z 1 = cpM (up C 33 2 (nI (z - 1))) (35 + 16 * ((o + (z - 1)) % 5)) 1 := if_pos hz
theorem unD_a {D : Mem} {z a : Nat} (h : a ≠ 134) (h2 : a ≠ 135) : unD D 134 z a = D a := (fcO_ne h2).trans (up_ne h)
theorem b_undo {sh : Sh} (hs : IsSH sh 0) (hm : IsMo sh 134) {t : Nat} {M : Mem} (hR : Rel t M) : Bth mX4_undo mX5_undo sh Rel [] t M := by
  obtain ⟨P, o, z, len, hA⟩ := hR
  obtain ⟨⟨hE, hI⟩, ⟨hh1, hh2, hh3⟩, hT, hF⟩ := id hA
  have hz5 := hh2.2.2
  by_cases hz0 : z = 0
  · exact Bth.q hA (c_undo_ill hs hA.wf hh1.1 hh2.1 hh1.2 hz5 hz0) (d_undo_ill hm hh2.2.1 hz5 hz0) (by decide) (by decide) rfl
  · have hz : 0 < z := by omega
    obtain ⟨P', r1, r2⟩ := hh3 (z - 1) (by omega)
    have K : ∀ a, 17 ≤ a → a ≠ 33 → resM M 33 o z 1 a = M a := fun a h1 h2 => by rw [resM_at hz, cpM_ne (Or.inr (by omega)), up_ne h2]
    have K33 : resM M 33 o z 1 33 = up M 33 2 (nI (z - 1)) 33 := by rw [resM_at hz, cpM_ne (Or.inr (by omega))]
    refine ⟨nI (z - 1), _, _, 3, 0, by decide, by decide, c_undo_ok hs hA.wf hh1.1 hh2.1 hh1.2 hz5 hz, d_undo_ok (D := resM M 33 o z 1) hm (by rw [K 134 (by decide) (by decide)]; exact hh2.2.1) hz5 hz, P', o, z - 1, len, ?_⟩
    have U : ∀ a, a ≠ 134 → a ≠ 135 → unD (resM M 33 o z 1) 134 z a = resM M 33 o z 1 a := fun a h1 h2 => unD_a h1 h2
    have UK : ∀ a, 17 ≤ a → a ≠ 33 → a ≠ 134 → a ≠ 135 → unD (resM M 33 o z 1) 134 z a = M a := fun a h1 h2 h3 h4 => (U a h3 h4).trans (K a h1 h2)
    have U33 : unD (resM M 33 o z 1) 134 z 33 = up M 33 2 (nI (z - 1)) 33 := (U 33 (by decide) (by decide)).trans K33
    have g : ∀ j, j < 1724 → unD (resM M 33 o z 1) 134 z 135 j = M 136 (1724 * (z - 1) + j) := fun j hj => by
      unfold unD
      rw [show (134 + 1 : Nat) = 135 from rfl, fcO_in (by omega)]
      show resM M 33 o z 1 136 _ = _
      rw [K 136 (by decide) (by decide)]
      rfl
    have U134 : ∀ j, unD (resM M 33 o z 1) 134 z 134 j = up M 134 2 (nI (z - 1)) 134 j := fun j => by
      unfold unD
      rw [fcO_ne (by decide)]
      by_cases hj : j = 2
      · subst hj; rw [up_eq, up_eq]
      · rw [up_ne2 hj, up_ne2 hj, K 134 (by decide) (by decide)]
    have hnow : RowEq (resM M 33 o z 1) 1 (fun j => M 136 (1724 * (z - 1) + j)) := by
      rw [resM_at hz]
      exact (r1.fr2 (fun a h1 h2 => up_ne (by omega))).cp (Or.inr (by omega))
    refine ⟨⟨(hnow.ge g).fr2 (fun a h1 h2 => U a (by omega) (by omega)), (r2.mono (Nat.le_succ t)).ge g⟩, ⟨⟨?_, hh1.2⟩, ⟨?_, ?_, by omega⟩, fun i hi => ?_⟩, hT.fr ?_ ?_ (UK 116 (by decide) (by decide) (by decide) (by decide)) (UK 138 (by decide) (by decide) (by decide) (by decide)), hF.fr (UK 133 (by decide) (by decide) (by decide) (by decide)) ?_ (UK 140 (by decide) (by decide) (by decide) (by decide)) (UK 118 (by decide) (by decide) (by decide) (by decide))⟩
    · rw [U33, up_ne2 (by decide)]; exact hh1.1
    · rw [U33, up_eq]
    · rw [U134, up_eq]
    · obtain ⟨P2, s1, s2⟩ := hh3 i (by omega)
      rw [UK 136 (by decide) (by decide) (by decide) (by decide)]
      exact ⟨P2, s1.fr2 (fun a h1 h2 => UK a (by omega) (by omega) (by omega) (by omega)), s2.mono (Nat.le_succ t)⟩
    · rw [UK 115 (by decide) (by decide) (by decide) (by decide)]
    · rw [U134, up_ne2 (by decide)]
    · rw [U134, up_ne2 (by decide)]
