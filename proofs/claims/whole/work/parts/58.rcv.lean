theorem vp4 {x : Int32} (h : vp_in x 4) : ∃ j, j < 4 ∧ x = nI j := by
  have h1 : ¬ x < 0 := fun z => h (Or.inl z)
  have h2 : ¬ 4 ≤ x.toNatClampNeg := fun z => h (Or.inr z)
  have h3 : ¬ x.toInt < (0 : Int32).toInt := fun z => h1 (Int32.lt_iff_toInt_lt.mpr z)
  rw [Int32.toInt_zero] at h3
  have h4 : x.toNatClampNeg = x.toInt.toNat := rfl
  refine ⟨x.toInt.toNat, by omega, Int32.toInt_inj.mp ?_⟩
  rw [nI_toInt (by omega)]
  omega
/-- what a receipt does to the row -/
def rcG (g : Nat → Int32) (p : Nat) (v : Int32) (st : Nat) : Nat → Int32 := fun j =>
  let t := if v < g (8 + 7 * p + 1) then v else g (8 + 7 * p + 1)
  if j = 4 + st then g j + t else if j = 8 + 7 * p + 0 then g j + (v - t) else if j = 8 + 7 * p + 1 then g j - t else g j
theorem rcD_g {D : Mem} {p st : Nat} {v : Int32} (hst : st < 4) (hs : D 135 (8 + 7 * p + 6) = nI st) : rcD D 134 p v 135 = rcG (D 135) p v st := by
  have e6 : adM (adM D 134 p 1 (-tkM D 134 p v)) 134 p 0 (v - tkM D 134 p v) (134 + 1) (8 + 7 * p + 6) = nI st := by
    rw [adM_ne (by omega), adM_ne (by omega)]; exact hs
  have ix : ixN (nI 4 + nI st) = 4 + st := by rw [nI_add]; exact nI_clamp (by omega)
  funext j
  unfold rcD rcG
  simp only []
  rw [e6, ix, show (134 + 1 : Nat) = 135 from rfl]
  by_cases h1 : j = 4 + st
  · subst h1
    rw [up_eq, if_pos rfl]
    congr 1
    exact (adM_ne (by omega)).trans (adM_ne (by omega))
  · rw [up_ne2 h1, if_neg h1]
    by_cases h2 : j = 8 + 7 * p + 0
    · subst h2
      rw [if_pos rfl]
      show up (adM D 134 p 1 _) 135 (8 + 7 * p + 0) _ 135 (8 + 7 * p + 0) = _
      rw [up_eq]
      congr 1
      exact adM_ne (by omega)
    · rw [if_neg h2]
      have e1 : adM (adM D 134 p 1 (-tkM D 134 p v)) 134 p 0 (v - tkM D 134 p v) 135 j = adM D 134 p 1 (-tkM D 134 p v) 135 j := up_ne2 h2
      rw [e1]
      by_cases h3 : j = 8 + 7 * p + 1
      · subst h3
        rw [if_pos rfl]
        refine up_eq.trans ?_
        rw [Int32.sub_eq_add_neg]
        rfl
      · rw [if_neg h3]
        exact up_ne2 h3
theorem row_rcv {C : Mem} {g : Nat → Int32} {p st : Nat} {v : Int32} (hp : p < 12) (hst : st < 4) (hs : g (8 + 7 * p + 6) = nI st) (h : RowEq C 1 g) : RowEq (rcv C 1 p v) 1 (rcG g p v st) := by
  obtain ⟨⟨b1, b2, b3, b4⟩, a2, a3, a4, a5, a6⟩ := h
  obtain ⟨c1, c2, c3, c4, c5, c6, c7⟩ := a2 p hp
  have et : mn (C (1 + 3) p) v = (if v < g (8 + 7 * p + 1) then v else g (8 + 7 * p + 1)) := by rw [c2]; rfl
  have ix : ixN ((up C (1 + 3) p (C (1 + 3) p - mn (C (1 + 3) p) v)) (1 + 4) p) = st := by
    rw [up_ne (by decide), c7, hs]; exact nI_clamp (by omega)
  have G : ∀ j, j ≠ 4 + st → j ≠ 8 + 7 * p + 0 → j ≠ 8 + 7 * p + 1 → rcG g p v st j = g j := fun j h1 h2 h3 => by
    unfold rcG
    simp only []
    rw [if_neg h1, if_neg h2, if_neg h3]
  have g0 : rcG g p v st (8 + 7 * p + 0) = g (8 + 7 * p + 0) + (v - (if v < g (8 + 7 * p + 1) then v else g (8 + 7 * p + 1))) := by
    unfold rcG
    simp only []
    rw [if_neg (by omega), if_pos trivial]
  have g1 : rcG g p v st (8 + 7 * p + 1) = g (8 + 7 * p + 1) - (if v < g (8 + 7 * p + 1) then v else g (8 + 7 * p + 1)) := by
    unfold rcG
    simp only []
    rw [if_neg (by omega), if_neg (by omega), if_pos trivial]
  have g4 : rcG g p v st (4 + st) = g (4 + st) + (if v < g (8 + 7 * p + 1) then v else g (8 + 7 * p + 1)) := by
    unfold rcG
    simp only []
    rw [if_pos trivial]
  have eh : ∀ q, q < 12 → hld (rcG g p v st) q = hld g q := fun q hq => hld_c (fun s hs => G _ (by omega) (by omega) (by omega))
  have R : ∀ a, a ≠ 2 → a ≠ 4 → a ≠ 16 → rcv C 1 p v a = C a := fun a h1 h2 h3 => rcv_ne h1 h2 h3
  have V : rcv C 1 p v = up (up (up C (1 + 3) p (C (1 + 3) p - mn (C (1 + 3) p) v)) (1 + 15) st (C (1 + 15) st + mn (C (1 + 3) p) v)) (1 + 1) p (C (1 + 1) p + (v - mn (C (1 + 3) p) v)) := by
    unfold rcv
    simp only []
    rw [ix, up_ne (by decide : (1 + 15) ≠ 1 + 3), up_ne (by decide : (1 + 1) ≠ 1 + 15), up_ne (by decide : (1 + 1) ≠ 1 + 3)]
  refine ⟨⟨?_, ?_, ?_, ?_⟩, fun q hq => ⟨?_, ?_, ?_⟩, fun s hs => ?_, fun j hj => ?_, fun q s hq hs => ?_, fun q hq => ?_⟩
  · rw [R _ (by decide) (by decide) (by decide), G _ (by omega) (by omega) (by omega)]; exact b1
  · rw [R _ (by decide) (by decide) (by decide), G _ (by omega) (by omega) (by omega)]; exact b2
  · rw [R _ (by decide) (by decide) (by decide), G _ (by omega) (by omega) (by omega)]; exact b3
  · rw [R _ (by decide) (by decide) (by decide), G _ (by omega) (by omega) (by omega)]; exact b4
  · rw [V]
    by_cases hqp : q = p
    · subst hqp
      rw [up_eq, g0, et, c1]
    · rw [up_ne2 hqp, up_ne (by decide), up_ne (by decide), G _ (by omega) (by omega) (by omega)]
      exact (a2 q hq).1
  · rw [V, up_ne (by decide), up_ne (by decide)]
    by_cases hqp : q = p
    · subst hqp
      rw [up_eq, g1, et, c2]
    · rw [up_ne2 hqp, G _ (by omega) (by omega) (by omega)]
      exact (a2 q hq).2.1
  · rw [R _ (by decide) (by decide) (by decide), R _ (by decide) (by decide) (by decide), R _ (by decide) (by decide) (by decide), R _ (by decide) (by decide) (by decide), R _ (by decide) (by decide) (by decide), G _ (by omega) (by omega) (by omega), G _ (by omega) (by omega) (by omega), G _ (by omega) (by omega) (by omega), G _ (by omega) (by omega) (by omega), G _ (by omega) (by omega) (by omega)]
    exact (a2 q hq).2.2
  · rw [R _ (by decide) (by decide) (by decide), R _ (by decide) (by decide) (by decide), R _ (by decide) (by decide) (by decide), R _ (by decide) (by decide) (by decide), R _ (by decide) (by decide) (by decide), G _ (by omega) (by omega) (by omega), G _ (by omega) (by omega) (by omega), G _ (by omega) (by omega) (by omega), G _ (by omega) (by omega) (by omega), G _ (by omega) (by omega) (by omega)]
    exact a3 s hs
  · rw [V, up_ne (by decide)]
    by_cases hjs : j = st
    · subst hjs
      rw [up_eq, g4, et, a4 j hj]
    · rw [up_ne2 hjs, up_ne (by decide), G _ (by omega) (by omega) (by omega)]
      exact a4 j hj
  · rw [R _ (by decide) (by decide) (by decide), G _ (by omega) (by omega) (by omega)]; exact a5 q s hq hs
  · rw [R _ (by decide) (by decide) (by decide), eh q hq]; exact a6 q hq
theorem nI_neg1 {am : Int32} (h1 : -100000 ≤ am) (h2 : am < 0) : ∃ i : Nat, i ≤ 100000 ∧ 0 < i ∧ -am = nI i ∧ am = -nI i := by
  have a1 := Int32.le_iff_toInt_le.mp h1
  have a2 := Int32.lt_iff_toInt_lt.mp h2
  have e1 : (-100000 : Int32).toInt = -100000 := by decide
  rw [e1] at a1
  rw [Int32.toInt_zero] at a2
  have e : am = -nI (-am.toInt).toNat := by
    apply Int32.toInt_inj.mp
    rw [Int32.toInt_neg, nI_toInt (by omega)]
    rw [Int.bmod_def]
    split <;> omega
  exact ⟨(-am.toInt).toNat, by omega, by omega, by rw [e]; rw [Int32.neg_neg]; congr 1; rw [← e], e⟩
theorem RowInv.deb {t P p : Nat} {g : Nat → Int32} (h : RowInv t g P) (hp : p < 12) : ∃ k : Nat, g (8 + 7 * p + 1) = nI k ∧ k ≤ 1000 * t := h.2.2.2.2.2.2.2.2.2.1 p hp
theorem inv_rcv {t P p st k d : Nat} {g : Nat → Int32} (ht : t ≤ 512) (hpP : p < P) (hst : st < 4) (hk : k ≤ 2000000) (h : RowInv t g P) : RowInv (t + 1) (rcG g p (nI k) st) P := by
  have hp : p < 12 := Nat.lt_of_lt_of_le hpP h.P12
  obtain ⟨d, d1, d2⟩ := h.deb hp
  obtain ⟨m, J, k1, k2, J1, J2, -, -⟩ := h.mny ht hp
  have G : ∀ j, j ≠ 4 + st → j ≠ 8 + 7 * p + 0 → j ≠ 8 + 7 * p + 1 → rcG g p (nI k) st j = g j := fun j h1 h2 h3 => by
    unfold rcG
    simp only []
    rw [if_neg h1, if_neg h2, if_neg h3]
  have eh : ∀ q, q < 12 → hld (rcG g p (nI k) st) q = hld g q := fun q hq => hld_c (fun s hs => G _ (by omega) (by omega) (by omega))
  have et : (if nI k < g (8 + 7 * p + 1) then nI k else g (8 + 7 * p + 1)) = nI (min k d) := by
    rw [d1]
    by_cases c : k < d
    · rw [if_pos (nI_lt c (by omega)), Nat.min_eq_left (by omega)]
    · rw [if_neg (nI_nlt (by omega) (by omega)), Nat.min_eq_right (by omega)]
  have g0 : rcG g p (nI k) st (8 + 7 * p + 0) = nI (m + (k - min k d)) := by
    unfold rcG
    simp only []
    rw [if_neg (by omega), if_pos trivial, et, k1, nI_subn (Nat.min_le_left k d), nI_add]
  have g1 : rcG g p (nI k) st (8 + 7 * p + 1) = nI (d - min k d) := by
    unfold rcG
    simp only []
    rw [if_neg (by omega), if_neg (by omega), if_pos trivial, et, d1, nI_subn (Nat.min_le_right k d)]
  obtain ⟨⟨a1, b1⟩, a2, a3, a4, a5, a6, a7, a8, a9, a10, a11⟩ := h.mono (Nat.le_succ t)
  refine ⟨⟨by rw [G _ (by omega) (by omega) (by omega)]; exact a1, b1⟩, fun q hq => by rw [G _ (by omega) (by omega) (by omega)]; exact a2 q hq, fun q v hq hv => by rw [G _ (by omega) (by omega) (by omega)]; exact a3 q v hq hv, fun q h1 h2 => ⟨fun v hv => by rw [G _ (by omega) (by omega) (by omega)]; exact (a4 q h1 h2).1 v hv, fun v hv => by rw [G _ (by omega) (by omega) (by omega)]; exact (a4 q h1 h2).2 v hv⟩, fun v hv => by rw [G _ (by omega) (by omega) (by omega)]; exact a5 v hv, fun v hv => by rw [G _ (by omega) (by omega) (by omega)]; exact a6 v hv, fun v hv => by rw [G _ (by omega) (by omega) (by omega)]; exact a7 v hv, by rw [G _ (by omega) (by omega) (by omega)]; exact a8, by rw [G _ (by omega) (by omega) (by omega)]; exact a9, fun q hq => ?_, fun q hq => ?_⟩
  · by_cases hqp : q = p
    · subst hqp; exact ⟨_, g1, by omega⟩
    · rw [G _ (by omega) (by omega) (by omega)]; exact a10 q hq
  · rw [eh q hq]
    by_cases hqp : q = p
    · subst hqp; exact ⟨_, J, g0, by omega, J1, by omega⟩
    · rw [G _ (by omega) (by omega) (by omega)]; exact a11 q hq
/-- money taken from a purse -/
theorem row_tk {C : Mem} {g g' : Nat → Int32} {p : Nat} {x : Int32} (hp : p < 12) (h : RowEq C 1 g) (hx : g' (8 + 7 * p + 0) = x) (e : ∀ j, j < 1724 → j ≠ 8 + 7 * p + 0 → g' j = g j) : RowEq (up C (1 + 1) p x) 1 g' := by
  have R : ∀ a, a ≠ 2 → (up C (1 + 1) p x) a = C a := fun a h1 => up_ne h1
  obtain ⟨⟨b1, b2, b3, b4⟩, a2, a3, a4, a5, a6⟩ := h
  refine ⟨⟨?_, ?_, ?_, ?_⟩, fun q hq => ⟨?_, ?_⟩, fun s hs => ?_, fun j hj => ?_, fun q s hq hs => ?_, fun q hq => ?_⟩
  · rw [R _ (by decide), e _ (by omega) (by omega)]; exact b1
  · rw [R _ (by decide), e _ (by omega) (by omega)]; exact b2
  · rw [R _ (by decide), e _ (by omega) (by omega)]; exact b3
  · rw [R _ (by decide), e _ (by omega) (by omega)]; exact b4
  · by_cases hqp : q = p
    · subst hqp; rw [up_eq, hx]
    · rw [up_ne2 hqp, e _ (by omega) (by omega)]; exact (a2 q hq).1
  · rw [R _ (by decide), R _ (by decide), R _ (by decide), R _ (by decide), R _ (by decide), R _ (by decide), e _ (by omega) (by omega), e _ (by omega) (by omega), e _ (by omega) (by omega), e _ (by omega) (by omega), e _ (by omega) (by omega), e _ (by omega) (by omega)]
    exact (a2 q hq).2
  · rw [R _ (by decide), R _ (by decide), R _ (by decide), R _ (by decide), R _ (by decide), e _ (by omega) (by omega), e _ (by omega) (by omega), e _ (by omega) (by omega), e _ (by omega) (by omega), e _ (by omega) (by omega)]
    exact a3 s hs
  · rw [R _ (by decide), e _ (by omega) (by omega)]; exact a4 j hj
  · rw [R _ (by decide), e _ (by omega) (by omega)]; exact a5 q s hq hs
  · rw [R _ (by decide), hld_c (fun s hs => e _ (by omega) (by omega))]; exact a6 q hq
theorem inv_tk {t P p k J : Nat} {g g' : Nat → Int32} (hpP : p < P) (h : RowInv t g P) (hx : g' (8 + 7 * p + 0) = nI k) (hk : k ≤ 2000000 * t) (hJ : hld g p = nI J) (hJk : J ≤ k) (e : ∀ j, j < 1724 → j ≠ 8 + 7 * p + 0 → g' j = g j) : RowInv t g' P := by
  have hp : p < 12 := Nat.lt_of_lt_of_le hpP h.P12
  obtain ⟨⟨a1, b1⟩, a2, a3, a4, a5, a6, a7, a8, a9, a10, a11⟩ := h
  refine ⟨⟨by rw [e _ (by omega) (by omega)]; exact a1, b1⟩, fun q hq => by rw [e _ (by omega) (by omega)]; exact a2 q hq, fun q v hq hv => by rw [e _ (by omega) (by omega)]; exact a3 q v hq hv, fun q h1 h2 => ⟨fun v hv => by rw [e _ (by omega) (by omega)]; exact (a4 q h1 h2).1 v hv, fun v hv => by rw [e _ (by omega) (by omega)]; exact (a4 q h1 h2).2 v hv⟩, fun v hv => by rw [e _ (by omega) (by omega)]; exact a5 v hv, fun v hv => by rw [e _ (by omega) (by omega)]; exact a6 v hv, fun v hv => by rw [e _ (by omega) (by omega)]; exact a7 v hv, by rw [e _ (by omega) (by omega)]; exact a8, by rw [e _ (by omega) (by omega)]; exact a9, fun q hq => by rw [e _ (by omega) (by omega)]; exact a10 q hq, fun q hq => ?_⟩
  rw [hld_c (g := g) (fun s hs => e _ (by omega) (by omega))]
  by_cases hqp : q = p
  · subst hqp; exact ⟨k, J, hx, hk, hJ, hJk⟩
  · rw [e _ (by omega) (by omega)]; exact a11 q hq
