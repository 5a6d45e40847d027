theorem RelAt.at137 {t : Nat} {M M' : Mem} {P o z len : Nat} (h : RelAt t M P o z len) (e : ∀ a, a ≠ 137 → M' a = M a) : RelAt t M' P o z len := by
  obtain ⟨⟨h1, h2⟩, h3, h4, h5⟩ := h
  refine ⟨⟨?_, ?_⟩, h3.fr (fun a b1 b2 => e a (by omega)) (by rw [e 134 (by decide)]) (e 136 (by decide)), h4.fr (by rw [e 115 (by decide)]) (by rw [e 134 (by decide)]) (e 116 (by decide)) (e 138 (by decide)), h5.fr (e 133 (by decide)) (by rw [e 134 (by decide)]) (e 140 (by decide)) (e 118 (by decide))⟩
  · rw [e 135 (by decide)]; exact h1.fr2 (fun a b1 b2 => e a (by omega))
  · rw [e 135 (by decide)]; exact h2
theorem bEd_c {D D' : Mem} {p s : Nat} {am : Int32} (h : D 135 = D' 135) : bEd D 134 p s am = bEd D' 134 p s am := by
  have h' : D (134 + 1) = D' (134 + 1) := h
  unfold bEd blF
  simp only [frL_s, dm, h']
theorem bEd_m {D : Mem} {p s : Nat} {am : Int32} (ha : nI 0 ≤ am ∧ am ≤ nI 999) (h : ¬ bEd D 134 p s am = 0) : bEd D 134 p s am = -2 ∧ ¬ bdOk D 134 p s am := by
  unfold bEd at h ⊢
  rw [if_pos ha] at h ⊢
  by_cases c : 0 < D (134 + 1) (8 + 7 * p + 1) ∨ blF D 134 p s am < 0
  · rw [if_pos c]
    exact ⟨rfl, fun z => c.elim z.1 z.2⟩
  · rw [if_neg c] at h
    exact absurd rfl h
theorem b_bid {sh : Sh} (hs : IsSH sh 0) (hm : IsMo sh 134) {t : Nat} {M : Mem} (hR : Rel t M) (ht : t ≤ 512) (x a v sd am : Int32) : Bth mX4_bid mX5_bid sh Rel [.inl x, .inl a, .inl v, .inl sd, .inl am] t M := by
  obtain ⟨P, o, z, len, hA⟩ := hR
  obtain ⟨⟨hE, hI⟩, ⟨hh1, hh2, hh3⟩, hT, hF⟩ := id hA
  have hz5 := hh2.2.2
  have hAs : (asM M 134) 135 = M 135 := asM_a (by decide)
  have hRA : Rel (t + 1) (asM M 134) := (hA.at137 (fun a ha => asM_a (by omega))).up1
  by_cases hx : isP P x ∧ inS a v ∧ (sd = 0 ∨ sd = nI 1)
  · obtain ⟨⟨p, hp, rfl⟩, h2, hsd⟩ := hx
    obtain ⟨st, h, hst, hh, rfl, rfl⟩ := inS_x h2
    have hs9 : st * 24 + h < 96 := by omega
    obtain ⟨q1, -⟩ := bid_core (C := M) (D := asM M 134) (sd := sd) (am := am) ht hp hs9 hsd (by rw [hAs]; exact hE) (by rw [hAs]; exact hI)
    by_cases h0 : bE M 1 p (st * 24 + h) am = 0
    · have h0' : bEd (asM M 134) 134 p (st * 24 + h) am = 0 := q1.symm.trans h0
      have ham : nI 0 ≤ am ∧ am ≤ nI 999 := (bEd_0 h0').1
      obtain ⟨o', ho⟩ := rel_rec hA
      have e1 : ∀ a, 17 ≤ a → (pB (recM M 33 o z 1) 1 p (st * 24 + h) sd am) a = recM M 33 o z 1 a := fun a ha => (up_ne (by omega)).trans (up_ne (by omega))
      have e34 : ∀ a, 134 ≤ a → (pB (recM M 33 o z 1) 1 p (st * 24 + h) sd am) a = M a := fun a ha => (e1 a (by omega)).trans (recM_hi hz5 (by omega))
      generalize hM1 : pB (recM M 33 o z 1) 1 p (st * 24 + h) sd am = M1 at e1 e34
      have hc := c_bid_ok hs hA.wf hh1.1 hh2.1 hh1.2 hz5 hp hst hh sd am hsd h0
      have hA1 : (asM M1 134) 135 = M 135 := (asM_a (by decide)).trans (e34 135 (by decide))
      have hEr : RowEq (recM M 33 o z 1) 1 ((asM M1 134) 135) := by
        rw [hA1]
        exact hE.fr2 (fun a b1 b2 => recM_now hz5 (by omega))
      obtain ⟨r1, r2⟩ := bid_core (C := recM M 33 o z 1) (D := asM M1 134) (sd := sd) (am := am) ht hp hs9 hsd hEr (by rw [hA1]; exact hI)
      have h1' : bEd (asM M1 134) 134 p (st * 24 + h) am = 0 := (bEd_c (hA1.trans hAs.symm)).trans h0'
      obtain ⟨r3, r4⟩ := r2 (r1.trans h1')
      have hw1 : Wm M1 134 P := by
        unfold Wm
        rw [show (134 + 1 : Nat) = 135 from rfl, e34 135 (by decide)]
        exact hI.wm
      have hd := d_bid_ok (D := M1) hm hw1 hp hst hh (z := z) (by rw [e34 134 (by decide)]; exact hh2.2.1) hz5 sd am (sd01.mp hsd) ham (by rw [st24]; exact (bEd_0 h1').2)
      rw [st24] at hd
      have hc' : Calls mX4_bid 4 0 0 [.inr (some 0), .inl (nI p), .inl (nI st), .inl (nI h), .inl sd, .inl am] sh M (some (.inl (blF (asM M1 134) 134 p (st * 24 + h) am))) sh M1 := by
        rw [← r3, ← hM1]
        exact hc
      refine ⟨_, _, _, 4, 4, by decide, by decide, hc', hd, ?_⟩
      -- the memory behind the reference's call
      have S35 : ∀ j, j < 1724 → swM (bdM (asM M1 134) 134 p (st * 24 + h) sd am) 134 135 j = M 135 j := fun j hj => by
        unfold swM swN
        rw [show (134 + 1 : Nat) = 135 from rfl, show (134 + 3 : Nat) = 137 from rfl, fcO_ne (by decide), fcO_in (by omega), bdM_a (by decide)]
        unfold asM
        rw [show (134 + 1 : Nat) = 135 from rfl, show (134 + 3 : Nat) = 137 from rfl, fcO_in (by omega), e34 135 (by decide)]
        rfl
      have S37 : ∀ j, j < 1724 → swM (bdM (asM M1 134) 134 p (st * 24 + h) sd am) 134 137 j = bdM (asM M1 134) 134 p (st * 24 + h) sd am 135 j := fun j hj => by
        unfold swM swN
        rw [show (134 + 1 : Nat) = 135 from rfl, show (134 + 3 : Nat) = 137 from rfl, fcO_in (by omega)]
        rfl
      have So : ∀ a, a ≠ 135 → a ≠ 137 → swM (bdM (asM M1 134) 134 p (st * 24 + h) sd am) 134 a = M1 a := fun a h1 h2 => (swM_a h2 h1).trans ((bdM_a h1).trans (asM_a h2))
      have No : ∀ a, a ≠ 134 → a ≠ 135 → a ≠ 136 → a ≠ 137 → bgM M1 134 z p (st * 24 + h) sd am a = M1 a := fun a h1 h2 h3 h4 => (baM_a h2).trans ((ntM_a h1 h3).trans (So a h2 h4))
      have N34 : ∀ j, j ≠ 2 → bgM M1 134 z p (st * 24 + h) sd am 134 j = M 134 j := fun j hj => (congrFun (baM_a (by decide)) j).trans ((ntM_o hj).trans (congrFun ((So 134 (by decide) (by decide)).trans (e34 134 (by decide))) j))
      have N35 : ∀ j, j < 1724 → bgM M1 134 z p (st * 24 + h) sd am 135 j = bdM (asM M1 134) 134 p (st * 24 + h) sd am 135 j := fun j hj => by
        unfold bgM baM
        rw [show (134 + 1 : Nat) = 135 from rfl, show (134 + 3 : Nat) = 137 from rfl, fcO_in (by omega), ntM_a (by decide) (by decide)]
        exact S37 j hj
      obtain ⟨r5, r6⟩ := r4 (bgM M1 134 z p (st * 24 + h) sd am 135) N35
      rw [hM1] at r5
      exact ho M1 (bgM M1 134 z p (st * 24 + h) sd am) P e1 (fun a ha => No a (by omega) (by omega) (by omega) (by omega)) ((congrFun (baM_a (by decide)) 2).trans ntM_2) (N34 5 (by decide)) (N34 10 (by decide)) ((baM_a (by decide)).trans (ntM_c S35 ((So 136 (by decide) (by decide)).trans (e34 136 (by decide))))) ((No 138 (by decide) (by decide) (by decide) (by decide)).trans (e34 138 (by decide))) ((No 140 (by decide) (by decide) (by decide) (by decide)).trans (e34 140 (by decide))) r5 (r6.mono (Nat.le_succ t))
    · have hc := c_bid_err hs hA.wf hp hst hh sd am hsd h0
      have h0' : ¬ bEd (asM M 134) 134 p (st * 24 + h) am = 0 := fun z => h0 (q1.trans z)
      by_cases ham : nI 0 ≤ am ∧ am ≤ nI 999
      · obtain ⟨u1, u2⟩ := bEd_m ham h0'
        have hd := d_bid_ill hm hA.wm hp hst hh sd am (sd01.mp hsd) ham (by rw [st24]; exact u2)
        rw [show bE M (0 + 1) p (st * 24 + h) am = -2 from q1.trans u1] at hc
        exact ⟨_, _, _, 4, 4, by decide, by decide, hc, hd, hRA⟩
      · have u1 : bE M (0 + 1) p (st * 24 + h) am = -1 := by unfold bE; rw [if_neg ham]
        rw [u1] at hc
        exact ⟨_, _, _, 4, 4, by decide, by decide, hc, d_bid_bad hm hA.wm _ _ _ _ _ (fun z => ham z.2.2.2), hRA⟩
  · exact ⟨_, _, _, 4, 4, by decide, by decide, c_bid_bad hs hA.wf x a v sd am hx, d_bid_bad hm hA.wm x a v sd am (fun z => hx ⟨z.1, z.2.1, sd01.mpr z.2.2.1⟩), hRA⟩
