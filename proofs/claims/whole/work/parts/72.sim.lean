/-! RUNNING A PLAN, ON BOTH SIDES: the bids, the note, the memories. -/
theorem run_h {t P p st : Nat} {sd am : Int32} (ht : t ≤ 512) (hpP : p < P) (hst : st < 4) (hsd : sd = nI 0 ∨ sd = nI 1) : ∀ (n h : Nat) (X E : Mem) (k : Nat), h + n ≤ 24 → RowEq X 1 (E 135) → RowInv t (E 135) P → (rnH 1 p st sd am n h X k).2 = (rnHD 134 p st sd am n h E k).2 ∧ RowEq (rnH 1 p st sd am n h X k).1 1 ((rnHD 134 p st sd am n h E k).1 135) ∧ RowInv t ((rnHD 134 p st sd am n h E k).1 135) P
  | 0, h, X, E, k, hn, h1, h2 => ⟨rfl, h1, h2⟩
  | n + 1, h, X, E, k, hn, h1, h2 => by
    obtain ⟨q1, q2⟩ := bid_core (s := st * 24 + h) (sd := sd) (am := am) ht hpP (by omega) hsd h1 h2
    by_cases c : bE X 1 p (st * 24 + h) am = 0
    · rw [rnH_go c, rnHD_go (by rw [st24]; exact q1.symm.trans c), st24]
      obtain ⟨r1, r2⟩ := (q2 c).2 _ (fun j _ => rfl)
      exact run_h ht hpP hst hsd n (h + 1) _ _ (k + 1) (by omega) r1 r2
    · rw [rnH_no c, rnHD_no (by rw [st24]; exact fun z => c (q1.trans z)), st24]
      exact ⟨by show (k, _) = (k, _); rw [q1], h1, h2⟩
theorem run_p {t P p np : Nat} {pt : Nat → PT1} {Z : Mem} (ht : t ≤ 512) (hpP : p < P) (hZ : PtOkD Z 134 np pt) : ∀ (n i : Nat) (X E : Mem) (k : Nat), i + n = np → RowEq X 1 (E 135) → RowInv t (E 135) P → (rnP 1 p pt n i X k).2 = (rnPD 134 p pt n i E k).2 ∧ RowEq (rnP 1 p pt n i X k).1 1 ((rnPD 134 p pt n i E k).1 135) ∧ RowInv t ((rnPD 134 p pt n i E k).1 135) P
  | 0, i, X, E, k, hn, h1, h2 => ⟨rfl, h1, h2⟩
  | n + 1, i, X, E, k, hn, h1, h2 => by
    obtain ⟨-, -, ⟨-, hsd⟩, ⟨-, hst⟩, ⟨-, hfl⟩, ⟨-, hl⟩, -⟩ := hZ i (by omega)
    have hsd' : (pt i).2.2.1 = nI 0 ∨ (pt i).2.2.1 = nI 1 := by
      rcases sd01.mpr hsd with z | z
      · exact Or.inl (z.trans nI_0.symm)
      · exact Or.inr z
    obtain ⟨q1, q2, q3⟩ := run_h (am := (pt i).2.2.2.2.2.2) ht hpP hst hsd' ((pt i).2.2.2.2.2.1 + 1 - (pt i).2.2.2.2.1) (pt i).2.2.2.2.1 X E k (by omega) h1 h2
    by_cases c : (rnH 1 p (pt i).2.2.2.1 (pt i).2.2.1 (pt i).2.2.2.2.2.2 ((pt i).2.2.2.2.2.1 + 1 - (pt i).2.2.2.2.1) (pt i).2.2.2.2.1 X k).2.2 = 0
    · rw [rnP_go (C2 := (rnH 1 p (pt i).2.2.2.1 (pt i).2.2.1 (pt i).2.2.2.2.2.2 ((pt i).2.2.2.2.2.1 + 1 - (pt i).2.2.2.2.1) (pt i).2.2.2.2.1 X k).1) (m2 := (rnH 1 p (pt i).2.2.2.1 (pt i).2.2.1 (pt i).2.2.2.2.2.2 ((pt i).2.2.2.2.2.1 + 1 - (pt i).2.2.2.2.1) (pt i).2.2.2.2.1 X k).2.1) (Prod.ext rfl (Prod.ext rfl c)), rnPD_go (D2 := (rnHD 134 p (pt i).2.2.2.1 (pt i).2.2.1 (pt i).2.2.2.2.2.2 ((pt i).2.2.2.2.2.1 + 1 - (pt i).2.2.2.2.1) (pt i).2.2.2.2.1 E k).1) (k2 := (rnHD 134 p (pt i).2.2.2.1 (pt i).2.2.1 (pt i).2.2.2.2.2.2 ((pt i).2.2.2.2.2.1 + 1 - (pt i).2.2.2.2.1) (pt i).2.2.2.2.1 E k).2.1) (Prod.ext rfl (Prod.ext rfl (by rw [← q1]; exact c))), ← q1]
      exact run_p ht hpP hZ n (i + 1) _ _ _ (by omega) q2 q3
    · rw [rnP_no (C2 := (rnH 1 p (pt i).2.2.2.1 (pt i).2.2.1 (pt i).2.2.2.2.2.2 ((pt i).2.2.2.2.2.1 + 1 - (pt i).2.2.2.2.1) (pt i).2.2.2.2.1 X k).1) (m2 := (rnH 1 p (pt i).2.2.2.1 (pt i).2.2.1 (pt i).2.2.2.2.2.2 ((pt i).2.2.2.2.2.1 + 1 - (pt i).2.2.2.2.1) (pt i).2.2.2.2.1 X k).2.1) c rfl, rnPD_no (D2 := (rnHD 134 p (pt i).2.2.2.1 (pt i).2.2.1 (pt i).2.2.2.2.2.2 ((pt i).2.2.2.2.2.1 + 1 - (pt i).2.2.2.2.1) (pt i).2.2.2.2.1 E k).1) (k2 := (rnHD 134 p (pt i).2.2.2.1 (pt i).2.2.1 (pt i).2.2.2.2.2.2 ((pt i).2.2.2.2.2.1 + 1 - (pt i).2.2.2.2.1) (pt i).2.2.2.2.1 E k).2.1) (er := (rnHD 134 p (pt i).2.2.2.1 (pt i).2.2.1 (pt i).2.2.2.2.2.2 ((pt i).2.2.2.2.2.1 + 1 - (pt i).2.2.2.2.1) (pt i).2.2.2.2.1 E k).2.2) (fun z => c (by rw [q1]; exact z)) rfl]
      exact ⟨by rw [q1], q2, q3⟩
theorem rnHD_a {m p st : Nat} {sd am : Int32} {a : Nat} (h1 : a ≠ m + 1) : ∀ (n h : Nat) (E : Mem) (k : Nat), (rnHD m p st sd am n h E k).1 a = E a
  | 0, _, _, _ => rfl
  | n + 1, h, E, k => by
    unfold rnHD
    split
    · rw [rnHD_a h1 n, bdM_a h1]
    · rfl
theorem rnPD_a {m p : Nat} {pt : Nat → PT1} {a : Nat} (h1 : a ≠ m + 1) : ∀ (n i : Nat) (E : Mem) (k : Nat), (rnPD m p pt n i E k).1 a = E a
  | 0, _, _, _ => rfl
  | n + 1, i, E, k => by
    unfold rnPD
    simp only []
    split
    · rw [rnPD_a h1 n, rnHD_a h1]
    · exact rnHD_a h1 _ _ _ _
/-- the class's rows behind a record, taken from f -/
theorem recM_atF {C : Mem} {o z f : Nat} (a : Nat) (ha : a ≠ 33) : recM C 33 o z f a = cpM C f (33 + 2 + 16 * ((o + z) % 5)) a := by
  unfold recM
  by_cases h : z < 5
  · rw [if_pos h, up_ne ha]
  · rw [if_neg h, up_ne ha]
theorem his_recF {t : Nat} {M : Mem} {o z P f : Nat} (hf : f + 16 ≤ 33) (h : HisR t M o z) (he : RowEq M f (M 135)) (hi : RowInv t (M 135) P) : ∃ o', ∀ M2 : Mem, (∀ a, 33 ≤ a → a ≤ 114 → M2 a = recM M 33 o z f a) → M2 134 2 = nI (ntZ z + 1) → M2 136 = ntM M 134 z 136 → HisR t M2 o' (ntZ z + 1) := by
  obtain ⟨⟨h1, h2⟩, ⟨h3, h4, h5⟩, h6⟩ := h
  have hq : cpM M f (33 + 2 + 16 * ((o + z) % 5)) 33 = M 33 := cpM_ne (by omega)
  have hnew : RowEq (cpM M f (33 + 2 + 16 * ((o + z) % 5))) (33 + 2 + 16 * ((o + z) % 5)) (M 135) := he.cp (Or.inl (by omega))
  refine ⟨if z = 5 then (o + 1) % 5 else o, fun M2 e1 e2 e3 => ?_⟩
  have e33 : M2 33 = recM M 33 o z f 33 := e1 33 (by omega) (by omega)
  have E : ∀ a, 34 ≤ a → a ≤ 114 → M2 a = cpM M f (33 + 2 + 16 * ((o + z) % 5)) a := fun a b1 b2 => (e1 a (by omega) b2).trans (recM_atF a (by omega))
  have hM2new : RowEq M2 (35 + 16 * ((o + z) % 5)) (M 135) := hnew.fr2 (fun a b1 b2 => E a (by omega) (by omega))
  by_cases hz : z = 5
  · subst hz
    have hr : recM M 33 o 5 f 33 = up (cpM M f (33 + 2 + 16 * ((o + 5) % 5))) 33 1 (nI ((o + 1) % 5)) 33 := by
      unfold recM
      rw [if_neg (by decide)]
    rw [if_pos rfl]
    refine ⟨⟨by rw [e33, hr, up_eq], Nat.mod_lt _ (by decide)⟩, ⟨by rw [e33, hr, up_ne2 (by decide), hq]; exact h3, e2, by decide⟩, fun i hi5 => ?_⟩
    have hi5' : i < 5 := hi5
    by_cases e : i = 4
    · subst e
      refine ⟨P, ?_, ?_⟩
      · rw [show ((o + 1) % 5 + 4) % 5 = (o + 5) % 5 by omega]
        exact hM2new.ge (fun j hj => by rw [e3]; exact ntM_new (z := 5) (by decide) hj)
      · exact hi.ge (fun j hj => by rw [e3]; exact ntM_new (z := 5) (by decide) hj)
    · obtain ⟨P', r1, r2⟩ := h6 (i + 1) (by omega)
      have g : ∀ j, j < 1724 → M2 136 (1724 * i + j) = M 136 (1724 * (i + 1) + j) := fun j hj => by rw [e3, ntM_old (z := 5) (by decide) (by show i < 4; omega) hj, if_pos rfl]
      refine ⟨P', ?_, r2.ge g⟩
      rw [show ((o + 1) % 5 + i) % 5 = (o + (i + 1)) % 5 by omega]
      exact (r1.ge g).fr2 (fun a b1 b2 => (E a (by omega) (by omega)).trans (cpM_ne (by omega)))
  · have hz4 : z < 5 := by omega
    have hr : recM M 33 o z f 33 = up (cpM M f (33 + 2 + 16 * ((o + z) % 5))) 33 2 (nI (z + 1)) 33 := by
      unfold recM
      rw [if_pos hz4]
    have hnz : ntZ z = z := if_neg hz
    rw [hnz] at e2 ⊢
    rw [if_neg hz]
    refine ⟨⟨by rw [e33, hr, up_ne2 (by decide), hq]; exact h1, h2⟩, ⟨by rw [e33, hr, up_eq], e2, by omega⟩, fun i hiz => ?_⟩
    by_cases e : i = z
    · subst e
      refine ⟨P, hM2new.ge (fun j hj => ?_), hi.ge (fun j hj => ?_)⟩ <;> · rw [e3, show (1724 * i + j) = 1724 * ntZ i + j by rw [hnz]]; exact ntM_new h5 hj
    · obtain ⟨P', r1, r2⟩ := h6 i (by omega)
      have g : ∀ j, j < 1724 → M2 136 (1724 * i + j) = M 136 (1724 * i + j) := fun j hj => by rw [e3, ntM_old h5 (by rw [hnz]; omega) hj, if_neg hz]
      exact ⟨P', (r1.ge g).fr2 (fun a b1 b2 => (E a (by omega) (by omega)).trans (cpM_ne (by omega))), r2.ge g⟩
/-- the memory behind a reading -/
theorem rdM_a {C : Mem} {len a : Nat} {tx : Nat → Int32} (h1 : a ≠ 115) (h2 : a ≠ 118) (h3 : a < 119 ∨ 133 ≤ a) : rdM C 115 len tx a = C a := by
  unfold rdM
  rw [PL_ne h1]
  exact rtL_a (by omega) (by omega) 100 (rt0 C)
theorem rdM_1 {C : Mem} {len : Nat} {tx : Nat → Int32} : rdM C 115 len tx 115 1 = C 115 1 := by
  unfold rdM
  rw [PL_f (by omega)]
  exact congrFun (rtL_a (by omega) (by omega) 100 (rt0 C)) 1
theorem rtL_f {q len : Nat} {g : Nat → Int32} : ∀ (n : Nat) (t : PSt), (rtL q len g n t).1 (q + 3) 0 = t.1 (q + 3) 0
  | 0, _ => rfl
  | n + 1, t => by
    have hog : ∀ (C : Mem) (l : LxS) (de : Nat) (f : Int32), ogM C q g l de f (q + 3) 0 = C (q + 3) 0 := fun C l de f => by
      unfold ogM
      split
      · exact up_ne2 (by omega)
      · rfl
    unfold rtL
    split
    · rw [rtL_f n]
      unfold rpF
      split
      · rfl
      · split
        · exact hog _ _ _ _
        · split
          · exact hog _ _ _ _
          · exact congrFun (rbM_a (by omega)) 0
    · rfl
theorem rdM_f {C : Mem} {len : Nat} {tx : Nat → Int32} : rdM C 115 len tx 118 0 = C 118 0 := by
  unfold rdM
  rw [PL_ne (by decide)]
  exact rtL_f (q := 115) 100 (rt0 C)
theorem qrR_a {D : Mem} {len a : Nat} {tx : Nat → Int32} (h1 : a ≠ 139) (h2 : a ≠ 141) : (qrR 134 len tx D).1 a = D a := (qrL_a h1 h2 101 _).trans (up_ne h1)
theorem rdD_a {D : Mem} {len a : Nat} {tx : Nat → Int32} (h1 : a ≠ 134) (h2 : a ≠ 139) (h3 : a ≠ 140) (h4 : a ≠ 141) : rdD D 134 len tx a = D a := by
  unfold rdD
  rw [QL_ne h1 (by omega)]
  exact qrR_a h2 h4
theorem rdD_o {D : Mem} {len j : Nat} {tx : Nat → Int32} (h : j < 6) : rdD D 134 len tx 134 j = D 134 j := by
  unfold rdD
  rw [QL_o (Or.inl h)]
  exact congrFun (qrR_a (by decide) (by decide)) j
theorem fpM_v {C : Mem} {a : Nat} {x0 x1 x2 x3 x4 : Int32} : fpM C a x0 x1 x2 x3 x4 a 0 = x0 ∧ fpM C a x0 x1 x2 x3 x4 a 1 = x1 ∧ fpM C a x0 x1 x2 x3 x4 a 2 = x2 ∧ fpM C a x0 x1 x2 x3 x4 a 3 = x3 ∧ fpM C a x0 x1 x2 x3 x4 a 4 = x4 := by
  unfold fpM
  refine ⟨?_, ?_, ?_, ?_, up_eq⟩
  · rw [up_ne2 (by decide), up_ne2 (by decide), up_ne2 (by decide), up_ne2 (by decide), up_eq]
  · rw [up_ne2 (by decide), up_ne2 (by decide), up_ne2 (by decide), up_eq]
  · rw [up_ne2 (by decide), up_ne2 (by decide), up_eq]
  · rw [up_ne2 (by decide), up_eq]
theorem fpM_a {C : Mem} {a b : Nat} {x0 x1 x2 x3 x4 : Int32} (h : b ≠ a) : fpM C a x0 x1 x2 x3 x4 b = C b := by
  unfold fpM
  rw [up_ne h, up_ne h, up_ne h, up_ne h, up_ne h]
theorem fbD_v {D : Mem} {x0 x1 x2 x3 x4 : Int32} : fbD D 134 x0 x1 x2 x3 x4 134 10 = nI 1 ∧ fbD D 134 x0 x1 x2 x3 x4 140 0 = x0 ∧ fbD D 134 x0 x1 x2 x3 x4 140 1 = x1 ∧ fbD D 134 x0 x1 x2 x3 x4 140 2 = x2 ∧ fbD D 134 x0 x1 x2 x3 x4 140 3 = x3 ∧ fbD D 134 x0 x1 x2 x3 x4 140 4 = x4 := by
  unfold fbD
  rw [show (134 + 6 : Nat) = 140 from rfl]
  refine ⟨?_, ?_, ?_, ?_, ?_, up_eq⟩
  · rw [up_ne (by decide), up_ne (by decide), up_ne (by decide), up_ne (by decide), up_ne (by decide), up_eq]
  · rw [up_ne2 (by decide), up_ne2 (by decide), up_ne2 (by decide), up_ne2 (by decide), up_eq]
  · rw [up_ne2 (by decide), up_ne2 (by decide), up_ne2 (by decide), up_eq]
  · rw [up_ne2 (by decide), up_ne2 (by decide), up_eq]
  · rw [up_ne2 (by decide), up_eq]
theorem fbD_o {D : Mem} {x0 x1 x2 x3 x4 : Int32} {j : Nat} (h : j ≠ 10) : fbD D 134 x0 x1 x2 x3 x4 134 j = D 134 j := by
  unfold fbD
  rw [up_ne (by decide), up_ne (by decide), up_ne (by decide), up_ne (by decide), up_ne (by decide), up_ne2 h]
theorem ptD_sw {C D : Mem} {t m np : Nat} {pt pt' : Nat → PT1} (h1 : PtOk C t np pt) (h2 : PtOk C t np pt') (h3 : PtOkD D m np pt') : PtOkD D m np pt := fun i hi => by
  obtain ⟨a1, a2, a3, ⟨a4, a4'⟩, ⟨a5, a5'⟩, ⟨a6, a6'⟩, a7⟩ := h1 i hi
  obtain ⟨b1, b2, b3, ⟨b4, b4'⟩, ⟨b5, b5'⟩, ⟨b6, b6'⟩, b7⟩ := h2 i hi
  obtain ⟨c1, c2, ⟨c3, c3'⟩, ⟨c4, c4'⟩, ⟨c5, c5'⟩, ⟨c6, c6'⟩, c7⟩ := h3 i hi
  have e3 : (pt' i).2.2.1 = (pt i).2.2.1 := b3.symm.trans a3
  exact ⟨c1.trans (b1.symm.trans a1), c2.trans (b2.symm.trans a2), ⟨c3.trans e3, by rw [← e3]; exact c3'⟩, ⟨c4.trans (b4.symm.trans a4), a4'⟩, ⟨c5.trans (b5.symm.trans a5), a5'⟩, ⟨c6.trans (b6.symm.trans a6), a6'⟩, c7.trans (b7.symm.trans a7)⟩
