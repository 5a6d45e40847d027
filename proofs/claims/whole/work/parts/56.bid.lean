theorem sm_k {f : Nat → Int32} : ∀ n, n ≤ 96 → (∀ s, s < n → ∃ j : Nat, j ≤ 999 ∧ f s = nI j) → ∃ J : Nat, J ≤ 999 * n ∧ sm f n = nI J ∧ ∀ s, s < n → ∀ j : Nat, j ≤ 999 → f s = nI j → j ≤ J
  | 0, _, _ => ⟨0, Nat.le_refl 0, rfl, fun s hs => absurd hs (Nat.not_lt_zero s)⟩
  | n + 1, hn, h => by
    obtain ⟨J, h1, h2, h3⟩ := sm_k n (by omega) (fun s hs => h s (by omega))
    obtain ⟨j, j1, j2⟩ := h n (by omega)
    refine ⟨J + j, by omega, by show sm f n + f n = _; rw [h2, j2, nI_add], fun s hs i hi hf => ?_⟩
    by_cases e : s = n
    · subst e
      have : i = j := (nI_eq (by omega) (by omega)).mp (hf.symm.trans j2)
      omega
    · have := h3 s (by omega) i hi hf
      omega
theorem sm_u {f f' : Nat → Int32} {i : Nat} : ∀ n, i < n → (∀ s, s < n → s ≠ i → f' s = f s) → sm f' n = sm f n + (f' i - f i)
  | 0, h, _ => absurd h (Nat.not_lt_zero i)
  | n + 1, h, e => by
    show sm f' n + f' n = sm f n + f n + (f' i - f i)
    by_cases hi : i = n
    · subst hi
      rw [sm_c i (fun s hs => e s (by omega) (by omega)), Int32.add_assoc, Int32.add_comm (f i), Int32.sub_add_cancel]
    · rw [sm_u n (by omega) (fun s hs => e s (by omega)), e n (by omega) (by omega), Int32.add_assoc, Int32.add_assoc, Int32.add_comm (f' i - f i)]
/-- what a mark holds: one side's amount, below 1000 -/
theorem mkA {k : Nat} (hk : k ≤ 999 ∨ (1001 ≤ k ∧ k ≤ 1999)) : ∃ j : Nat, j ≤ 999 ∧ aF (nI k) (nI 0) + aF (nI k) (nI 1) = nI j := by
  have Hk : ∀ k, k < 2000 → (k ≤ 999 ∨ 1001 ≤ k) → aF (nI k) (nI 0) + aF (nI k) (nI 1) = nI (if k ≤ 999 then k else k - 1000) := by decide +kernel
  refine ⟨if k ≤ 999 then k else k - 1000, by split <;> omega, Hk k (by omega) (by omega)⟩
theorem mkN {i : Nat} (hi : i ≤ 999) {sd : Int32} (hsd : sd = nI 0 ∨ sd = nI 1) : mkB sd (nI i) = (if nI i = 0 then nI 0 else nI i + nI 1000 * sd) ∧ (∃ k : Nat, (if nI i = 0 then nI 0 else nI i + nI 1000 * sd) = nI k ∧ (k ≤ 999 ∨ (1001 ≤ k ∧ k ≤ 1999))) ∧ aF (if nI i = 0 then nI 0 else nI i + nI 1000 * sd) (nI 0) + aF (if nI i = 0 then nI 0 else nI i + nI 1000 * sd) (nI 1) = nI i := by
  have Hk : ∀ i, i < 1000 → (mkB (nI 0) (nI i) = (if nI i = 0 then nI 0 else nI i + nI 1000 * nI 0) ∧ (if nI i = 0 then nI 0 else nI i + nI 1000 * nI 0) = nI i ∧ aF (if nI i = 0 then nI 0 else nI i + nI 1000 * nI 0) (nI 0) + aF (if nI i = 0 then nI 0 else nI i + nI 1000 * nI 0) (nI 1) = nI i) ∧ (mkB (nI 1) (nI i) = (if nI i = 0 then nI 0 else nI i + nI 1000 * nI 1) ∧ (if nI i = 0 then nI 0 else nI i + nI 1000 * nI 1) = nI (if i = 0 then 0 else 1000 + i) ∧ aF (if nI i = 0 then nI 0 else nI i + nI 1000 * nI 1) (nI 0) + aF (if nI i = 0 then nI 0 else nI i + nI 1000 * nI 1) (nI 1) = nI i) := by decide +kernel
  obtain ⟨⟨a1, a2, a3⟩, ⟨b1, b2, b3⟩⟩ := Hk i (by omega)
  rcases hsd with rfl | rfl
  · exact ⟨a1, ⟨i, a2, by omega⟩, a3⟩
  · exact ⟨b1, ⟨_, b2, by split <;> omega⟩, b3⟩
/-- a person's money, as numbers -/
theorem RowInv.mny {t P p : Nat} {g : Nat → Int32} (h : RowInv t g P) (ht : t ≤ 512) (hp : p < 12) : ∃ k J : Nat, g (8 + 7 * p + 0) = nI k ∧ k ≤ 2000000 * t ∧ hld g p = nI J ∧ J ≤ k ∧ J ≤ 95904 ∧ ∀ s, s < 96 → ∀ j : Nat, j ≤ 999 → aF (g (572 + 96 * p + s)) (nI 0) + aF (g (572 + 96 * p + s)) (nI 1) = nI j → j ≤ J := by
  obtain ⟨k, j, h1, h2, h3, h4⟩ := h.2.2.2.2.2.2.2.2.2.2 p hp
  obtain ⟨J, j1, j2, j3⟩ := sm_k (f := fun s => aF (g (572 + 96 * p + s)) (nI 0) + aF (g (572 + 96 * p + s)) (nI 1)) 96 (Nat.le_refl 96) (fun s hs => by
    obtain ⟨q, q1, q2⟩ := h.mk hp hs
    obtain ⟨i, i1, i2⟩ := mkA q2
    exact ⟨i, i1, by rw [q1]; exact i2⟩)
  have e : j = J := (nI_eq (by omega) (by omega)).mp (h3.symm.trans j2)
  subst e
  exact ⟨k, j, h1, h2, h3, h4, j1, j3⟩
theorem nI_subn {a b : Nat} (h : b ≤ a) : nI a - nI b = nI (a - b) := by
  have : nI (a - b) + nI b = nI a := by rw [nI_add]; congr 1; omega
  rw [← this]
  exact Int32.add_sub_cancel _ _
theorem nI_slt {a b : Nat} (ha : a < 2 ^ 30 * 2 - 1000) (hb : b ≤ 999) : nI a - nI b < 0 ↔ a < b := by
  by_cases h : b ≤ a
  · rw [nI_subn h]
    constructor
    · intro z; exact absurd z (nI_pos (by omega))
    · intro z; omega
  · have hl : a < b := by omega
    refine ⟨fun _ => hl, fun _ => ?_⟩
    have e : nI a - nI b = - nI (b - a) := by rw [← nI_subn (Nat.le_of_lt hl), Int32.neg_sub]
    rw [e]
    have Hk : ∀ c, c < 1000 → 0 < c → - nI c < 0 := by decide +kernel
    exact Hk (b - a) (by omega) (by omega)
theorem row_bid {C : Mem} {g g' : Nat → Int32} {p s : Nat} {sd am : Int32} (hp : p < 12) (hs : s < 96) (h : RowEq C 1 g) (hm : mkB sd am = g' (572 + 96 * p + s)) (ha : aF (g' (572 + 96 * p + s)) (nI 0) + aF (g' (572 + 96 * p + s)) (nI 1) = am) (hbA : bA C 1 p s = aF (g (572 + 96 * p + s)) (nI 0) + aF (g (572 + 96 * p + s)) (nI 1)) (e : ∀ j, j < 1724 → j ≠ 572 + 96 * p + s → g' j = g j) : RowEq (pB C 1 p s sd am) 1 g' := by
  have R : ∀ a, a ≠ 3 → a ≠ 10 → (pB C 1 p s sd am) a = C a := fun a h1 h2 => (up_ne h2).trans (up_ne h1)
  have e0 : ∀ j, j < 572 → g' j = g j := fun j hj => e j (by omega) (by omega)
  obtain ⟨⟨b1, b2, b3, b4⟩, a2, a3, a4, a5, a6⟩ := h
  refine ⟨⟨?_, ?_, ?_, ?_⟩, fun q hq => ?_, fun v hv => ?_, fun j hj => ?_, fun q v hq hv => ?_, fun q hq => ?_⟩
  · rw [R _ (by omega) (by omega), e0 _ (by omega)]; exact b1
  · rw [R _ (by omega) (by omega), e0 _ (by omega)]; exact b2
  · rw [R _ (by omega) (by omega), e0 _ (by omega)]; exact b3
  · rw [R _ (by omega) (by omega), e0 _ (by omega)]; exact b4
  · rw [R _ (by omega) (by omega), R _ (by omega) (by omega), R _ (by omega) (by omega), R _ (by omega) (by omega), R _ (by omega) (by omega), R _ (by omega) (by omega), R _ (by omega) (by omega), e0 _ (by omega), e0 _ (by omega), e0 _ (by omega), e0 _ (by omega), e0 _ (by omega), e0 _ (by omega), e0 _ (by omega)]
    exact a2 q hq
  · rw [R _ (by omega) (by omega), R _ (by omega) (by omega), R _ (by omega) (by omega), R _ (by omega) (by omega), R _ (by omega) (by omega), e0 _ (by omega), e0 _ (by omega), e0 _ (by omega), e0 _ (by omega), e0 _ (by omega)]
    exact a3 v hv
  · rw [R _ (by omega) (by omega), e0 _ (by omega)]; exact a4 j hj
  · by_cases hqv : q = p ∧ v = s
    · obtain ⟨rfl, rfl⟩ := hqv
      exact up_eq.trans hm
    · have n1 : q * 96 + v ≠ p * 96 + s := by omega
      have n2 : 572 + 96 * q + v ≠ 572 + 96 * p + s := by omega
      rw [e _ (by omega) n2]
      exact (up_ne2 n1).trans ((congrFun (up_ne (by omega)) _).trans (a5 q v hq hv))
  · by_cases hqp : q = p
    · subst hqp
      have h1 : hld g' q = hld g q + ((aF (g' (572 + 96 * q + s)) (nI 0) + aF (g' (572 + 96 * q + s)) (nI 1)) - (aF (g (572 + 96 * q + s)) (nI 0) + aF (g (572 + 96 * q + s)) (nI 1))) := sm_u (i := s) 96 hs (fun v hv hvs => by rw [e _ (by omega) (by omega)])
      rw [h1, ha, ← hbA]
      have h2 : (pB C 1 q s sd am) (1 + 2) q = C (1 + 2) q + (am - bA C 1 q s) := (congrFun (up_ne (by omega)) _).trans up_eq
      rw [h2, a6 q hq]
    · rw [hld_c (fun v hv => e _ (by omega) (by omega))]
      exact (congrFun (up_ne (by omega)) _).trans ((up_ne2 hqp).trans (a6 q hq))
theorem inv_bid {t P p s : Nat} {g g' : Nat → Int32} {am : Int32} (hpP : p < P) (hp : p < 12) (hs : s < 96) (h : RowInv t g P) (hk : ∃ k : Nat, g' (572 + 96 * p + s) = nI k ∧ (k ≤ 999 ∨ (1001 ≤ k ∧ k ≤ 1999))) (hJ : ∃ k j : Nat, g (8 + 7 * p + 0) = nI k ∧ k ≤ 2000000 * t ∧ hld g' p = nI j ∧ j ≤ k) (e : ∀ j, j < 1724 → j ≠ 572 + 96 * p + s → g' j = g j) : RowInv t g' P := by
  have e0 : ∀ j, j < 572 → g' j = g j := fun j hj => e j (by omega) (by omega)
  obtain ⟨⟨a1, b1⟩, a2, a3, a4, a5, a6, a7, a8, a9, a10, a11⟩ := h
  refine ⟨⟨by rw [e0 _ (by omega)]; exact a1, b1⟩, fun q hq => by rw [e0 _ (by omega)]; exact a2 q hq, fun q v hq hv => ?_, fun q h1 h2 => ⟨fun v hv => by rw [e0 _ (by omega)]; exact (a4 q h1 h2).1 v hv, fun v hv => by rw [e _ (by omega) (by omega)]; exact (a4 q h1 h2).2 v hv⟩, fun v hv => by rw [e0 _ (by omega)]; exact a5 v hv, fun v hv => by rw [e0 _ (by omega)]; exact a6 v hv, fun v hv => by rw [e0 _ (by omega)]; exact a7 v hv, by rw [e0 _ (by omega)]; exact a8, by rw [e0 _ (by omega)]; exact a9, fun q hq => by rw [e0 _ (by omega)]; exact a10 q hq, fun q hq => ?_⟩
  · by_cases hqv : q = p ∧ v = s
    · obtain ⟨rfl, rfl⟩ := hqv; exact hk
    · rw [e _ (by omega) (by omega)]; exact a3 q v hq hv
  · rw [e0 _ (by omega)]
    by_cases hqp : q = p
    · subst hqp; exact hJ
    · rw [hld_c (fun v hv => e _ (by omega) (by omega))]; exact a11 q hq
/-- one bid, with no note: the same answer, the same row behind it -/
theorem bid_core {t P p s : Nat} {C D : Mem} {sd am : Int32} (ht : t ≤ 512) (hpP : p < P) (hs : s < 96) (hsd : sd = nI 0 ∨ sd = nI 1) (h : RowEq C 1 (D 135)) (hi : RowInv t (D 135) P) : bE C 1 p s am = bEd D 134 p s am ∧ (bE C 1 p s am = 0 → fM (pB C 1 p s sd am) 1 p = blF D 134 p s am ∧ ∀ g' : Nat → Int32, (∀ j, j < 1724 → g' j = bdM D 134 p s sd am 135 j) → RowEq (pB C 1 p s sd am) 1 g' ∧ RowInv t g' P) := by
  have hp : p < 12 := Nat.lt_of_lt_of_le hpP hi.P12
  obtain ⟨k, J, k1, k2, J1, J2, J3, J4⟩ := hi.mny ht hp
  obtain ⟨q, q1, q2⟩ := hi.mk hp hs
  obtain ⟨a, a1, a2⟩ := mkA q2
  have hA : aF (D 135 (572 + 96 * p + s)) (nI 0) + aF (D 135 (572 + 96 * p + s)) (nI 1) = nI a := by rw [q1]; exact a2
  have hbm : C (1 + 9) (p * 96 + s) = D 135 (572 + 96 * p + s) := h.2.2.2.2.1 p s hp hs
  have hbA : bA C 1 p s = nI a := by
    show bF (C (1 + 9) (p * 96 + s)) (nI 0) + bF (C (1 + 9) (p * 96 + s)) (nI 1) = _
    rw [hbm, q1, (mkF q2 (nI 0) (Or.inl rfl)).1, (mkF q2 (nI 1) (Or.inr rfl)).1]
    exact a2
  have hfM : fM C 1 p = nI (k - J) := by
    show C (1 + 1) p - C (1 + 2) p = _
    rw [(h.2.1 p hp).1, h.2.2.2.2.2 p hp, k1, J1, nI_subn J2]
  have hfr : frL D 134 p 96 = nI (k - J) := by
    rw [frL_s]
    show D 135 (8 + 7 * p + 0) - hld (D 135) p = _
    rw [k1, J1, nI_subn J2]
  have hbl : ∀ i, blF D 134 p s (nI i) = nI (k - J + a) - nI i := fun i => by
    unfold blF
    rw [hfr, Int32.add_assoc]
    show nI (k - J) + (aF (D 135 (572 + 96 * p + s)) (nI 0) + aF (D 135 (572 + 96 * p + s)) (nI 1)) - nI i = _
    rw [hA, nI_add]
  have haJ : a ≤ J := J4 s hs a a1 hA
  have hde : C (1 + 3) p = D (134 + 1) (8 + 7 * p + 1) := (h.2.1 p hp).2.1
  by_cases ham : nI 0 ≤ am ∧ am ≤ nI 999
  · obtain ⟨i, hi9, rfl⟩ := rng (by decide) ham
    have hcmp : (fM C 1 p + bA C 1 p s < nI i) ↔ (blF D 134 p s (nI i) < 0) := by
      rw [hfM, hbA, hbl, nI_add, nI_slt (by omega) hi9, nI_ltI (by omega) (by omega)]
    have hEq : bE C 1 p s (nI i) = bEd D 134 p s (nI i) := by
      unfold bE bEd
      rw [if_pos ham, if_pos ham, hde]
      by_cases hc : 0 < D (134 + 1) (8 + 7 * p + 1) ∨ blF D 134 p s (nI i) < 0
      · rw [if_pos hc, if_pos (hc.imp id hcmp.mpr)]
      · rw [if_neg hc, if_neg (fun z => hc (z.imp id hcmp.mp))]
    refine ⟨hEq, fun h0 => ?_⟩
    have hno : ¬ (fM C 1 p + bA C 1 p s < nI i) := fun z => by
      unfold bE at h0
      rw [if_pos ham, if_pos (Or.inr z)] at h0
      exact absurd h0 (by decide)
    have hle : i ≤ k - J + a := by
      rw [hfM, hbA, nI_add, nI_ltI (by omega) (by omega)] at hno
      omega
    obtain ⟨m1, m2, m3⟩ := mkN hi9 hsd
    refine ⟨?_, fun g' hg => ?_⟩
    · show (pB C 1 p s sd (nI i)) (1 + 1) p - (pB C 1 p s sd (nI i)) (1 + 2) p = _
      have x1 : (pB C 1 p s sd (nI i)) (1 + 1) p = nI k := (congrFun ((up_ne (by omega)).trans (up_ne (by omega))) p).trans ((h.2.1 p hp).1.trans k1)
      have x2 : (pB C 1 p s sd (nI i)) (1 + 2) p = nI J + (nI i - nI a) := by
        rw [← hbA]
        exact ((congrFun (up_ne (by omega)) _).trans up_eq).trans (congrArg (· + (nI i - bA C 1 p s)) ((h.2.2.2.2.2 p hp).trans J1))
      rw [x1, x2, hbl, nI_subn hle]
      have x3 : nI J + (nI i - nI a) = nI (J - a + i) := by
        rw [Int32.add_comm, show nI J = nI (J - a) + nI a by rw [nI_add]; congr 1; omega, Int32.add_comm (nI (J - a)), ← Int32.add_assoc, Int32.sub_add_cancel, nI_add]
        congr 1
        omega
      rw [x3, nI_subn (by omega)]
      congr 1
      omega
    · have g1 : g' (572 + 96 * p + s) = (if nI i = 0 then nI 0 else nI i + nI 1000 * sd) := (hg _ (by omega)).trans up_eq
      have g2 : ∀ j, j < 1724 → j ≠ 572 + 96 * p + s → g' j = D 135 j := fun j hj hne => (hg j hj).trans (up_ne2 hne)
      refine ⟨row_bid hp hs h (m1.trans g1.symm) (by rw [g1]; exact m3) (hbA.trans hA.symm) g2, inv_bid (am := nI i) hpP hp hs hi (by rw [g1]; exact m2) ⟨k, J - a + i, k1, k2, ?_, by omega⟩ g2⟩
      have h1 : hld g' p = hld (D 135) p + ((aF (g' (572 + 96 * p + s)) (nI 0) + aF (g' (572 + 96 * p + s)) (nI 1)) - (aF (D 135 (572 + 96 * p + s)) (nI 0) + aF (D 135 (572 + 96 * p + s)) (nI 1))) := sm_u (i := s) 96 hs (fun v hv hvs => by rw [g2 _ (by omega) (by omega)])
      rw [h1, hA, J1, g1, m3, Int32.add_comm, show nI J = nI (J - a) + nI a by rw [nI_add]; congr 1; omega, Int32.add_comm (nI (J - a)), ← Int32.add_assoc, Int32.sub_add_cancel, nI_add]
      congr 1
      omega
  · have e1 : bE C 1 p s am = -1 := by unfold bE; rw [if_neg ham]
    have e2 : bEd D 134 p s am = -1 := by unfold bEd; rw [if_neg ham]
    refine ⟨e1.trans e2.symm, fun h0 => ?_⟩
    rw [e1] at h0
    exact absurd h0 (by decide)
