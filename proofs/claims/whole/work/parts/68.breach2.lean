theorem br_eq {t P p q m s st : Nat} {C D : Mem} (ht : t < 512) (hpP : p < P) (hs : s < 96) (hst : st = s / 24) (h : RowEq C q (D (m + 1))) (hi : RowInv t (D (m + 1)) P) : nbR C q p s = brP D m p ∧ RowEq (nbM C q P p s) q (brM D m p st s (m + 1)) ∧ RowInv (t + 1) (brM D m p st s (m + 1)) P := by
  have hb := hi.rb
  have hp : p < 12 := Nat.lt_of_lt_of_le hpP hb.P12
  have hst4 : st < 4 := by omega
  have hr := hi.rp (by omega)
  obtain ⟨f, f1, f2⟩ := hb.2.2.2.2.2.2.2.1
  obtain ⟨k, k1, k2, k3⟩ := hr p hp
  have k2' : k ≤ 2000000 * t := k2
  have k3' : ns (amt (D (m + 1)) p) 96 ≤ k := k3
  obtain ⟨e, e1, e2⟩ := hb.2.2.2.2.2.2.2.2 p hp
  obtain ⟨J1, J2⟩ := hld_ns hb hp
  have hP1 : brP D m p = nI (min f (k - ns (amt (D (m + 1)) p) 96)) := by
    unfold brP
    rw [frL_s]
    show (if D (m + 1) 2 < D (m + 1) (8 + 7 * p + 0) - hld (D (m + 1)) p then D (m + 1) 2 else D (m + 1) (8 + 7 * p + 0) - hld (D (m + 1)) p) = _
    rw [f1, k1, J1, nI_subn k3']
    by_cases c : f < k - ns (amt (D (m + 1)) p) 96
    · rw [if_pos (nI_lt c (by omega)), Nat.min_eq_left (by omega)]
    · rw [if_neg (nI_nlt (by omega) (by omega)), Nat.min_eq_right (by omega)]
  obtain ⟨⟨b1, b2, b3, b4⟩, aP, aS, aF', aB, aH⟩ := id h
  obtain ⟨c1, c2, c3, c4, c5, c6, c7⟩ := aP p hp
  have hR1 : ∀ x1 x2 x3 : Int32, mn ((up (up (up C q 2 x1) (q + 8) p x2) (q + 4) p x3) q 1) (fM (up (up (up C q 2 x1) (q + 8) p x2) (q + 4) p x3) q p) = brP D m p := fun x1 x2 x3 => by
    rw [hP1, fM, up_ne (show q ≠ q + 4 by omega), up_ne (show q ≠ q + 8 by omega), up_ne2 (show 1 ≠ 2 by decide), up_ne (show q + 1 ≠ q + 4 by omega), up_ne (show q + 1 ≠ q + 8 by omega), up_ne (show q + 1 ≠ q by omega), up_ne (show q + 2 ≠ q + 4 by omega), up_ne (show q + 2 ≠ q + 8 by omega), up_ne (show q + 2 ≠ q by omega), b2, c1, aH p hp, f1, k1, J1, nI_subn k3']
    unfold mn
    by_cases c : k - ns (amt (D (m + 1)) p) 96 < f
    · rw [if_pos (nI_lt c (by omega)), Nat.min_eq_right (by omega)]
    · rw [if_neg (nI_nlt (by omega) (by omega)), Nat.min_eq_left (by omega)]
  have hnb : nbR C q p s = brP D m p := hR1 _ _ _
  refine ⟨hnb, ?_⟩
  -- the state behind the note and the payment
  have hx1 : (nI k - brP D m p : Int32) = nI (k - min f (k - ns (amt (D (m + 1)) p) 96)) := by rw [hP1, nI_subn (by omega)]
  have hx2 : (nI e + (nI f - brP D m p) : Int32) = nI (e + (f - min f (k - ns (amt (D (m + 1)) p) 96))) := by rw [hP1, nI_subn (by omega), nI_add]
  generalize hy : min f (k - ns (amt (D (m + 1)) p) 96) = y at hP1 hx1 hx2
  have hyf : y ≤ f := by omega
  have hyk : y ≤ k - ns (amt (D (m + 1)) p) 96 := by omega
  have hB5 : RB (1000 * t + 1000) (br5 D m p st (m + 1)) P := by
    rw [br5_g]
    exact ((((hb.u3).w5 hpP).w6 hpP (vp_in_nI hst4 (by decide))).w0 hpP).w1 hpP (by omega) ⟨_, by rw [e1, f1]; exact hx2, by omega⟩
  have hP5 : RP (fun _ => 2000000 * t) (fun p => ns (amt (D (m + 1)) p) 96) (br5 D m p st (m + 1)) := by
    rw [br5_g]
    refine RP.o (fun r hr2 => ?_) (fun r hr2 => by omega)
    obtain ⟨kk, u1, u2, u3⟩ := hr r hr2
    by_cases hrp : r = p
    · subst hrp
      rw [gu_eq, k1, hx1]
      exact ⟨_, rfl, by show k - y ≤ 2000000 * t; omega, by show ns (amt (D (m + 1)) r) 96 ≤ k - y; omega⟩
    · rw [gu_ne (by omega), gu_ne (by omega), gu_ne (by omega), gu_ne (by omega)]
      exact ⟨kk, u1, u2, u3⟩
  have hE5 : ∀ C5 : Mem, C5 = (up (up (up (up (up C q 2 (C q 2 + nI 1)) (q + 8) p (C (q + 8) p + nI 1)) (q + 4) p (nI st)) (q + 1) p (C (q + 1) p - brP D m p)) (q + 3) p (C (q + 3) p + (C q 1 - brP D m p))) → RowEq C5 q (br5 D m p st (m + 1)) := fun C5 h5 => by
    rw [h5, br5_g, b2, b3, c1, c2, c6]
    exact ((((h.u2).w8 hp).w4 hp).w1 hp).w3 hp
  unfold nbM brM
  simp only []
  rw [hR1, up_ne (show q + 8 ≠ q by omega), up_ne (show q + 1 ≠ q + 4 by omega), up_ne (show q + 1 ≠ q + 8 by omega), up_ne (show q + 1 ≠ q by omega), up_ne (show q + 3 ≠ q + 1 by omega), up_ne (show q + 3 ≠ q + 4 by omega), up_ne (show q + 3 ≠ q + 8 by omega), up_ne (show q + 3 ≠ q by omega), up_ne (show q ≠ q + 1 by omega), up_ne (show q ≠ q + 4 by omega), up_ne (show q ≠ q + 8 by omega), up_ne2 (show 1 ≠ 2 by decide), ← hst]
  generalize (up (up (up (up (up C q 2 (C q 2 + nI 1)) (q + 8) p (C (q + 8) p + nI 1)) (q + 4) p (nI st)) (q + 1) p (C (q + 1) p - brP D m p)) (q + 3) p (C (q + 3) p + (C q 1 - brP D m p))) = C5 at hE5 ⊢
  have hE := hE5 C5 rfl
  have hj0 : ∀ j, 92 ≤ j → br5 D m p st (m + 1) j = D (m + 1) j := fun j hj => by
    rw [br5_g, gu_ne (by omega), gu_ne (by omega), gu_ne (by omega), gu_ne (by omega), gu_ne (by omega)]
  have hd0 : br5 D m p st (m + 1) 0 = D (m + 1) 0 := by
    rw [br5_g, gu_ne (by omega), gu_ne (by omega), gu_ne (by omega), gu_ne (by omega), gu_ne (by omega)]
  generalize br5 D m p st = D5 at hB5 hP5 hE hj0 hd0 ⊢
  rw [hP1]
  obtain ⟨mk, m1, m2⟩ := hB5.2.2.2.2.2.2.1 s hs
  have hmk : mk < 4096 := Nat.lt_of_lt_of_le m2 (show 2 ^ P ≤ 2 ^ 12 from Nat.pow_le_pow_right (by decide) hB5.P12)
  have hbc : bcF (C5 (q + 13) s) = brN D5 m s := by
    rw [show C5 (q + 13) s = nI mk from (hE.2.2.1 s hs).2.2.2.1.trans m1, bc_sum mk hmk]
    simp only [brN, bit, m1]
  obtain ⟨N, n1, n2, -⟩ := sm_n (B := 1) (f := fun i => bit D5 m s i) (fun i _ => by
    rcases bit_01 (D5 (m + 1) (92 + 5 * s + 3) >>> (nI i &&& 31)) with z | z
    · exact ⟨0, by omega, z⟩
    · exact ⟨1, by omega, z⟩) 12 (Nat.le_refl 12)
  have hN : brN D5 m s = nI N := n2
  have key : RowEq (sfMem C5 q P s (nI y)) q (bsM D5 m s (nI y / brN D5 m s) 12 (m + 1)) ∧ RB (1000 * t + 1000) (bsM D5 m s (nI y / brN D5 m s) 12 (m + 1)) P ∧ RP (fun _ => 2000000 * t + 1000) (fun p => ns (amt (D (m + 1)) p) 96) (bsM D5 m s (nI y / brN D5 m s) 12 (m + 1)) ∧ nI y - sfRes C5 q s (nI y) = bsL D5 m s (nI y / brN D5 m s) (nI y) 12 := by
    unfold sfMem sfRes
    rw [hbc]
    by_cases hN0 : N = 0
    · have hz : ¬ 0 < brN D5 m s := by
        rw [hN, hN0]
        decide
      rw [if_neg hz, if_neg hz]
      have hno : ∀ i, 0 ≤ i → i < 12 → ¬ bit D5 m s i = nI 1 := fun i _ hi h1 => brN_ne0 hi h1 (by rw [hN, hN0]; rfl)
      obtain ⟨u1, u2⟩ := bs_hi (Q := 0) (x := nI y / brN D5 m s) (l := nI y) hB5.wm hno 12 (by omega)
      have u1' : bsM D5 m s (nI y / brN D5 m s) 12 = D5 := u1
      have u2' : bsL D5 m s (nI y / brN D5 m s) (nI y) 12 = nI y := u2
      rw [u1', u2']
      exact ⟨hE, hB5, hP5.le (fun _ _ => Nat.le_add_right _ _) (fun _ _ => Nat.le_refl _), by rw [nI_0, Int32.sub_zero]⟩
    · have hpos : 0 < brN D5 m s := by rw [hN, ← nI_0]; exact nI_lt (by omega) (by omega)
      rw [if_pos hpos, if_pos hpos]
      have hX : nI y / brN D5 m s = nI (y / N) := by rw [hN, pk_div (by omega) (by omega) (by omega)]
      have hXl : y / N ≤ y := Nat.div_le_self y N
      rw [hX]
      obtain ⟨u1, u2, u3, u4⟩ := bs_eq (l := nI y) (X := y / N) (by omega) hs (by omega) hE hB5 hP5 P (Nat.le_refl P)
      have hno : ∀ i, P ≤ i → i < 12 → bit D5 m s i = nI 0 := fun i h1 h2 => by
        show (D5 (m + 1) (92 + 5 * s + 3) >>> _) &&& _ = _
        rw [m1]
        exact bit_hi i h2 mk (Nat.lt_of_lt_of_le m2 (Nat.pow_le_pow_right (by decide) h1))
      obtain ⟨w1, w2⟩ := bs_hi (Q := P) (x := nI (y / N)) (l := nI y) hB5.wm (fun i h1 h2 h3 => absurd ((hno i h1 h2).symm.trans h3) (by decide)) (12 - P) (by have := hB5.P12; omega)
      rw [show P + (12 - P) = 12 by have := hB5.P12; omega] at w1 w2
      have hsm : sm (fun i => bit D5 m s i) 12 = sm (fun i => bit D5 m s i) P := by
        have hh : ∀ n, P + n ≤ 12 → sm (fun i => bit D5 m s i) (P + n) = sm (fun i => bit D5 m s i) P := by
          intro n
          induction n with
          | zero => intro _; rfl
          | succ n ih =>
            intro hn
            show sm (fun i => bit D5 m s i) (P + n) + bit D5 m s (P + n) = _
            rw [ih (by omega), hno (P + n) (by omega) (by omega), nI_0, Int32.add_zero]
        have := hh (12 - P) (by have := hB5.P12; omega)
        rw [show P + (12 - P) = 12 by have := hB5.P12; omega] at this
        exact this
      rw [w1, w2, u4, ← hsm]
      refine ⟨u1, u2, u3.le (fun r _ => ?_) (fun _ _ => Nat.le_refl _), ?_⟩
      · show (if r < P then 2000000 * t + y / N else 2000000 * t) ≤ 2000000 * t + 1000
        split <;> omega
      · show nI y - nI (y / N) * brN D5 m s = nI y - brN D5 m s * nI (y / N)
        rw [Int32.mul_comm]
  obtain ⟨v1, v2, v3, v4⟩ := key
  rw [up_gu, v4, show sfMem C5 q P s (nI y) (q + 15) st = bsM D5 m s (nI y / brN D5 m s) 12 (m + 1) (4 + st) from v1.2.2.2.1 st hst4]
  have hmj : ∀ j, 92 ≤ j → bsM D5 m s (nI y / brN D5 m s) 12 (m + 1) j = D (m + 1) j := fun j hj => (bsM_j hB5.wm hj 12 (Nat.le_refl 12)).trans (hj0 j hj)
  have hm0 : bsM D5 m s (nI y / brN D5 m s) 12 (m + 1) 0 = D (m + 1) 0 := by
    refine v1.1.1.symm.trans (Eq.trans ?_ (hE.1.1.trans hd0))
    unfold sfMem
    split
    · rw [sfM_ne (by omega) (by omega) (by omega)]
    · rfl
  generalize bsM D5 m s (nI y / brN D5 m s) 12 = D6 at v1 v2 v3 hmj hm0 ⊢
  obtain ⟨dd, dd1, dd2⟩ := hi.2.2.2.2.2.2.2.2.1
  refine ⟨v1.f15 hst4, RB.inv (t := t + 1) (RB.mono (v2.f hst4) (by omega)) ⟨dd, by rw [gu_ne (by omega), hm0]; exact dd1, dd2⟩ (fun r hr2 => ?_)⟩
  obtain ⟨kk, u1, u2, u3⟩ := v3 r hr2
  have u2' : kk ≤ 2000000 * t + 1000 := u2
  refine ⟨kk, ns (amt (D (m + 1)) r) 96, by rw [gu_ne (by omega)]; exact u1, by omega, ?_, u3⟩
  rw [hld_c (g := D (m + 1)) (fun v hv => by rw [gu_ne (by omega)]; exact hmj _ (by omega))]
  exact (hld_ns hb hr2).1
theorem b_breach {sh : Sh} (hs : IsSH sh 0) (hm : IsMo sh 134) {t : Nat} {M : Mem} (hR : Rel t M) (ht : t < 512) (x a v : Int32) : Bth mX4_breach mX5_breach sh Rel [.inl x, .inl a, .inl v] t M := by
  obtain ⟨P, o, z, len, hA⟩ := hR
  obtain ⟨⟨hE, hI⟩, ⟨hh1, hh2, hh3⟩, hT, hF⟩ := id hA
  have hz5 := hh2.2.2
  by_cases hx : isP P x ∧ inS a v
  · obtain ⟨⟨p, hp, rfl⟩, h2⟩ := hx
    obtain ⟨st, h, hst, hh, rfl, rfl⟩ := inS_x h2
    have hs9 : st * 24 + h < 96 := by omega
    have how : M (0 + 11) (st * 24 + h) = M 135 (92 + 5 * (24 * st + h) + 0) := by rw [st24]; exact (hE.2.2.1 _ hs9).1
    by_cases hown : M 135 (92 + 5 * (24 * st + h) + 0) = nI 1
    · exact Bth.q hA (c_breach_ill hs hA.wf hp hst hh (how.trans hown)) (d_breach_ill hm hA.wm hp hst hh hown) (by decide) (by decide) rfl
    · obtain ⟨o', ho⟩ := rec_fin hA
      have hcc := c_breach_ok hs hA.wf hh1.1 hh2.1 hh1.2 hz5 hp hst hh (fun y => hown (how.symm.trans y))
      have e1 : ∀ a, 17 ≤ a → nbM (recM M 33 o z 1) 1 P p (st * 24 + h) a = recM M 33 o z 1 a := fun a ha => by
        unfold nbM
        rw [up_ne (by omega)]
        unfold sfMem
        split
        · rw [sfM_ne (by omega) (by omega) (by omega), up_ne (by omega), up_ne (by omega), up_ne (by omega), up_ne (by omega), up_ne (by omega)]
        · rw [up_ne (by omega), up_ne (by omega), up_ne (by omega), up_ne (by omega), up_ne (by omega)]
      obtain ⟨⟨f1, f2, f3, f4⟩, f5⟩ := ho (nbM (recM M 33 o z 1) 1 P p (st * 24 + h)) e1
      have hcc' : Calls mX4_breach 4 0 0 [.inr (some 0), .inl (nI p), .inl (nI st), .inl (nI h)] sh M (some (.inl (nbR (recM M 33 o z 1) 1 p (st * 24 + h)))) sh (nbM (recM M 33 o z 1) 1 P p (st * 24 + h)) := hcc
      generalize hM1 : nbM (recM M 33 o z 1) 1 P p (st * 24 + h) = M1 at f1 f2 f3 f4 f5 hcc'
      have hdd := d_breach_ok (D := M1) hm f1 hp hst hh f2 hz5 (by
        rw [show M1 (134 + 1) = M 135 from f4]
        exact hown)
      have f3' : ntM M1 134 z (134 + 1) = M 135 := f3
      have hE0 : RowEq (recM M 33 o z 1) 1 (ntM M1 134 z (134 + 1)) := by
        rw [f3']
        exact hE.fr2 (fun a b1 b2 => recM_now hz5 (by omega))
      obtain ⟨r1, r2, r3⟩ := br_eq (m := 134) (D := ntM M1 134 z) (st := st) ht hp hs9 (by omega) hE0 (by rw [f3']; exact hI)
      rw [hM1] at r2
      rw [r1] at hcc'
      rw [st24] at hdd
      exact ⟨_, _, _, 4, 3, by decide, by decide, hcc', hdd, f5 _ P (fun a h1 h2 => by
        unfold brM
        rw [up_ne h1]
        have hbs : ∀ (X : Mem) (x : Int32) (k : Nat), bsM X 134 (st * 24 + h) x k a = X a := by
          intro X x k
          induction k with
          | zero => rfl
          | succ k ih =>
            show (if _ then rcD _ _ _ _ else _) a = _
            split
            · rw [rcD_a h1]; exact ih
            · exact ih
        rw [hbs]
        unfold br5
        rw [up_ne h1, up_ne h1, adM_a h1, adM_a h1, adM_a h1]) r2 r3⟩
  · exact Bth.q hA (c_breach_bad hs hA.wf x a v hx) (d_breach_bad hm hA.wm x a v hx) (by decide) (by decide) rfl
