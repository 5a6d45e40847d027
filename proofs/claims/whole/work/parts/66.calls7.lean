/-! SETTLE AND PURSETHEN. -/
theorem stM_a {D : Mem} {m P s a : Nat} (h : a ≠ m + 1) : stM D m P s a = D a := by
  unfold stM
  split
  · rw [puM_a h, puM_a h]
  · simp only []
    rw [puM_a h, puM_a h, puM_a h, puM_a h, puM_a h, up_ne h, shD_a h, coM_a h]
theorem saL_a {D : Mem} {m P a : Nat} (h : a ≠ m + 1) : ∀ s, saL D m P s a = D a
  | 0 => rfl
  | s + 1 => (stM_a h).trans (saL_a h s)
theorem saM_a {D : Mem} {m P a : Nat} (h : a ≠ m + 1) : saM D m P a = D a := by
  unfold saM
  rw [up_ne h, fcO_ne h, saL_a h]
theorem sdD_ne {C : Mem} {q P b : Nat} (h : b < q ∨ q + 16 ≤ b) : sdD C q P b = C b := by
  unfold sdD
  rw [up_ne (by omega), fill_ne (by omega), fill_ne (by omega), sdM_ne (by omega) (by omega) (by omega) (by omega) (by omega) (by omega)]
theorem noisy_eq2 {C D : Mem} {q m : Nat} (hq : ∀ s, s < 96 → C (q + 10) s = D (m + 1) (92 + 5 * s + 0)) (ho : ∀ s, s < 96 → D (m + 1) (92 + 5 * s + 0) = nI 0 ∨ D (m + 1) (92 + 5 * s + 0) = nI 1) : sm (fun st => nI 24 - qh C q st) 4 = sm (fun s => D (m + 1) (92 + 5 * s + 0)) 96 := by
  have e : ∀ st, st < 4 → nI 24 - qh C q st = sm (fun h => D (m + 1) (92 + 5 * (24 * st + h) + 0)) 24 := fun st hst => by
    rw [← sm_q 24 (fun i hi => ho (24 * st + i) (by omega))]
    refine congrArg (nI 24 - ·) (sm_c 24 (fun i hi => ?_))
    rw [hq (st * 24 + i) (by omega), st24]
  rw [sm_c 4 e]
  rw [show (96 : Nat) = 24 + (24 + (24 + 24)) from rfl, sm_ap, sm_ap, sm_ap]
  show 0 + _ + _ + _ + _ = _
  rw [Int32.zero_add, Int32.add_assoc, Int32.add_assoc]
  rfl
theorem b_settle {sh : Sh} (hs : IsSH sh 0) (hm : IsMo sh 134) {t : Nat} {M : Mem} (hR : Rel t M) (ht : t < 512) : Bth mX4_settle mX5_settle sh Rel [] t M := by
  obtain ⟨P, o, z, len, hA⟩ := hR
  obtain ⟨⟨hE, hI⟩, ⟨hh1, hh2, hh3⟩, hT, hF⟩ := id hA
  have hz5 := hh2.2.2
  obtain ⟨k, hk1, hk2⟩ := hI.2.2.2.2.2.2.2.2.1
  have hd0 : M (0 + 1) 0 = nI k := hE.1.1.trans hk1
  by_cases hd : k = 999
  · subst hd
    exact Bth.q hA (c_settle_ill hs hA.wf (by rw [hd0]; decide)) (d_settle_ill hm hA.wm hk1) (by decide) (by decide) rfl
  · have hlt : M (0 + 1) 0 < nI 999 := by rw [hd0]; exact nI_lt (by omega) (by decide)
    obtain ⟨o', ho⟩ := rec_fin hA
    have e1 : ∀ a, 17 ≤ a → sdD (recM M 33 o z 1) 1 P a = recM M 33 o z 1 a := fun a ha => sdD_ne (by omega)
    obtain ⟨⟨f1, f2, f3, f4⟩, f5⟩ := ho (sdD (recM M 33 o z 1) 1 P) e1
    have hcc := c_settle_ok hs hA.wf hh1.1 hh2.1 hh1.2 hz5 hlt
    generalize hM1 : sdD (recM M 33 o z 1) 1 P = M1 at f1 f2 f3 f4 f5
    have hcc' : Calls mX4_settle 6 0 0 [.inr (some 0)] sh M (some (.inl (sm (fun st => nI 24 - qh M1 1 st) 4))) sh M1 := by
      rw [← hM1]; exact hcc
    have hdd := d_settle_ok (D := M1) hm f1 f2 hz5 (fun p s hp h9 => by
      rw [show dm M1 134 p s = M 135 (572 + 96 * p + s) from congrFun f4 _]
      exact hI.mk hp h9) (by
      rw [show M1 (134 + 1) 0 = nI k from (congrFun f4 0).trans hk1]
      intro y
      exact hd ((nI_eq (by omega) (by decide)).mp y))
    have hE0 : RowEq (recM M 33 o z 1) 1 (ntM M1 134 z (134 + 1)) := by
      rw [show ntM M1 134 z (134 + 1) = M 135 from f3]
      exact hE.fr2 (fun a b1 b2 => recM_now hz5 (by omega))
    obtain ⟨r1, r2, r3, r4, r5⟩ := sdD_eq (d := 1000 * t) (P := P) (B := fun _ => 2000000 * t) (by omega) hE0 (by rw [show ntM M1 134 z (134 + 1) = M 135 from f3]; exact hI.rb) (by rw [show ntM M1 134 z (134 + 1) = M 135 from f3]; exact hI.rp (by omega))
    rw [hM1] at r1
    have er : sm (fun st => nI 24 - qh M1 1 st) 4 = sm (fun s => saM (ntM M1 134 z) 134 P (134 + 1) (92 + 5 * s + 0)) 96 := noisy_eq2 (fun s h9 => (r1.2.2.1 s h9).1) r2.2.2.2.2.1
    rw [er] at hcc'
    refine ⟨_, _, _, 6, 6, by decide, by decide, hcc', hdd, f5 _ P (fun a h1 h2 => saM_a h1) r1 ((r2.mono (by omega)).inv ⟨k + 1, ?_, by omega⟩ (fun p hp => ?_))⟩
    · rw [show saM (ntM M1 134 z) 134 P 135 0 = ntM M1 134 z (134 + 1) 0 + nI 1 from r5, show ntM M1 134 z (134 + 1) = M 135 from f3, hk1, nI_add]
    · obtain ⟨kk, k1, k2, -⟩ := r3 p hp
      have k2' : kk ≤ 2000000 * t + 1150848 := k2
      exact ⟨kk, 0, k1, by omega, r4 p hp, Nat.zero_le kk⟩
theorem RelAt.fr {t : Nat} {M M' : Mem} {P o z len : Nat} (h : RelAt t M P o z len) (e : ∀ a, a < 17 ∨ 33 ≤ a → a ≠ 135 → a ≠ 137 → M' a = M a) (e2 : ∀ j, j < 1724 → M' 135 j = M 135 j) : RelAt t M' P o z len := by
  obtain ⟨⟨h1, h2⟩, h3, h4, h5⟩ := h
  have E : ∀ a, a < 17 ∨ (33 ≤ a ∧ a < 135) → M' a = M a := fun a ha => e a (by omega) (by omega) (by omega)
  refine ⟨⟨?_, h2.ge e2⟩, h3.fr (fun a b1 b2 => E a (by omega)) (by rw [E 134 (by decide)]) (e 136 (by decide) (by decide) (by decide)), h4.fr (by rw [E 115 (by decide)]) (by rw [E 134 (by decide)]) (E 116 (by decide)) (e 138 (by decide) (by decide) (by decide)), h5.fr (E 133 (by decide)) (by rw [E 134 (by decide)]) (e 140 (by decide) (by decide) (by decide)) (E 118 (by decide))⟩
  exact (h1.fr2 (fun a b1 b2 => E a (by omega))).ge e2
theorem b_purseThen {sh : Sh} (hs : IsSH sh 0) (hm : IsMo sh 134) {t : Nat} {M : Mem} (hR : Rel t M) (ht : t < 512) (x : Int32) : Bth mX4_purseThen mX5_purseThen sh Rel [.inl x] t M := by
  obtain ⟨P, o, z, len, hA⟩ := hR
  obtain ⟨⟨hE, hI⟩, -, -, -⟩ := id hA
  by_cases hx : isP P x
  · obtain ⟨p, hp, rfl⟩ := hx
    have hp12 : p < 12 := Nat.lt_of_lt_of_le hp hI.P12
    have hcc := c_purseThen_ok hs hA.wf hp
    have e1 : ∀ a, a < 17 ∨ 33 ≤ a → sdD (cpM M 1 17) 17 P a = M a := fun a ha => (sdD_ne (by omega)).trans (cpM_ne (by omega))
    have hE0 : RowEq (cpM M 1 17) 17 (M 135) := hE.cp (Or.inl (by omega))
    generalize hM1 : sdD (cpM M 1 17) 17 P = M1 at e1
    have hcc' : Calls mX4_purseThen 6 0 0 [.inr (some 0), .inl (nI p)] sh M (some (.inl (M1 18 p))) sh M1 := by
      rw [← hM1]; exact hcc
    have f4 : M1 135 = M 135 := e1 135 (by decide)
    have hA1 : asM M1 134 (134 + 1) = M 135 := (asM_a (by decide)).trans f4
    have hw1 : Wm M1 134 P := by
      unfold Wm
      rw [show M1 (134 + 1) = M 135 from f4]
      exact hI.wm
    have hdd := d_purseThen_ok (D := M1) hm hw1 hp (fun p s hp h9 => by
      rw [show dm M1 134 p s = M 135 (572 + 96 * p + s) from congrFun f4 _]
      exact hI.mk hp h9)
    obtain ⟨r1, -, -, -, -⟩ := sdD_eq (d := 1000 * t) (P := P) (B := fun _ => 2000000 * t) (q := 17) (C := cpM M 1 17) (D := asM M1 134) (m := 134) (by omega) (by rw [hA1]; exact hE0) (by rw [hA1]; exact hI.rb) (by rw [hA1]; exact hI.rp (by omega))
    rw [hM1] at r1
    rw [show M1 18 p = saM (asM M1 134) 134 P (134 + 1) (8 + 7 * p + 0) from (r1.2.1 p hp12).1] at hcc'
    refine ⟨_, _, _, 6, 6, by decide, by decide, hcc', hdd, (hA.fr (fun a h1 h2 h3 => ?_) (fun j hj => ?_)).up1⟩
    · rw [baM_a h2, saM_a h2, asM_a h3]
      exact e1 a h1
    · unfold baM
      rw [show (134 + 1 : Nat) = 135 from rfl, show (134 + 3 : Nat) = 137 from rfl, fcO_in (by omega), saM_a (by decide)]
      unfold asM
      rw [show (134 + 1 : Nat) = 135 from rfl, show (134 + 3 : Nat) = 137 from rfl, fcO_in (by omega)]
      exact congrFun f4 j
  · exact Bth.q hA (c_purseThen_bad hs hA.wf x hx) (d_purseThen_bad hm hA.wm x hx) (by decide) (by decide) rfl
