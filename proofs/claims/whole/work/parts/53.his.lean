theorem cpy_in {C : Mem} {a b n j : Nat} (h : j < n) : cpy C a b 0 0 n b j = C a j := by
  simp [cpy, va_cpy, h]
theorem cpM_w0 {C : Mem} {f q : Nat} (h : f + 16 ≤ q ∨ q + 16 ≤ f) : cpM C f q q 0 = C f 0 := by
  unfold cpM
  repeat rw [cpy_ne (by omega)]
  repeat (first | rw [up_eq] | rw [up_ne2 (by omega)])
  repeat rw [up_ne (by omega)]
theorem cpM_w1 {C : Mem} {f q : Nat} (h : f + 16 ≤ q ∨ q + 16 ≤ f) : cpM C f q q 1 = C f 1 := by
  unfold cpM
  repeat rw [cpy_ne (by omega)]
  repeat (first | rw [up_eq] | rw [up_ne2 (by omega)])
  repeat rw [up_ne (by omega)]
theorem cpM_w2 {C : Mem} {f q : Nat} (h : f + 16 ≤ q ∨ q + 16 ≤ f) : cpM C f q q 2 = C f 2 := by
  unfold cpM
  repeat rw [cpy_ne (by omega)]
  repeat (first | rw [up_eq] | rw [up_ne2 (by omega)])
  repeat rw [up_ne (by omega)]
theorem cpM_w3 {C : Mem} {f q : Nat} (h : f + 16 ≤ q ∨ q + 16 ≤ f) : cpM C f q q 3 = C f 3 := by
  unfold cpM
  repeat rw [cpy_ne (by omega)]
  repeat (first | rw [up_eq] | rw [up_ne2 (by omega)])
  repeat rw [up_ne (by omega)]
theorem cpM_v1 {C : Mem} {f q j : Nat} (h : f + 16 ≤ q ∨ q + 16 ≤ f) (hj : j < 12) : cpM C f q (q + 1) j = C (f + 1) j := by
  unfold cpM
  repeat rw [cpy_ne (by omega)]
  rw [cpy_in hj]
  repeat rw [cpy_ne (by omega)]
  repeat rw [up_ne (by omega)]
theorem cpM_v2 {C : Mem} {f q j : Nat} (h : f + 16 ≤ q ∨ q + 16 ≤ f) (hj : j < 12) : cpM C f q (q + 2) j = C (f + 2) j := by
  unfold cpM
  repeat rw [cpy_ne (by omega)]
  rw [cpy_in hj]
  repeat rw [cpy_ne (by omega)]
  repeat rw [up_ne (by omega)]
theorem cpM_v3 {C : Mem} {f q j : Nat} (h : f + 16 ≤ q ∨ q + 16 ≤ f) (hj : j < 12) : cpM C f q (q + 3) j = C (f + 3) j := by
  unfold cpM
  repeat rw [cpy_ne (by omega)]
  rw [cpy_in hj]
  repeat rw [cpy_ne (by omega)]
  repeat rw [up_ne (by omega)]
theorem cpM_v4 {C : Mem} {f q j : Nat} (h : f + 16 ≤ q ∨ q + 16 ≤ f) (hj : j < 12) : cpM C f q (q + 4) j = C (f + 4) j := by
  unfold cpM
  repeat rw [cpy_ne (by omega)]
  rw [cpy_in hj]
  repeat rw [cpy_ne (by omega)]
  repeat rw [up_ne (by omega)]
theorem cpM_v5 {C : Mem} {f q j : Nat} (h : f + 16 ≤ q ∨ q + 16 ≤ f) (hj : j < 12) : cpM C f q (q + 5) j = C (f + 5) j := by
  unfold cpM
  repeat rw [cpy_ne (by omega)]
  rw [cpy_in hj]
  repeat rw [cpy_ne (by omega)]
  repeat rw [up_ne (by omega)]
theorem cpM_v6 {C : Mem} {f q j : Nat} (h : f + 16 ≤ q ∨ q + 16 ≤ f) (hj : j < 12) : cpM C f q (q + 6) j = C (f + 6) j := by
  unfold cpM
  repeat rw [cpy_ne (by omega)]
  rw [cpy_in hj]
  repeat rw [cpy_ne (by omega)]
  repeat rw [up_ne (by omega)]
theorem cpM_v7 {C : Mem} {f q j : Nat} (h : f + 16 ≤ q ∨ q + 16 ≤ f) (hj : j < 12) : cpM C f q (q + 7) j = C (f + 7) j := by
  unfold cpM
  repeat rw [cpy_ne (by omega)]
  rw [cpy_in hj]
  repeat rw [cpy_ne (by omega)]
  repeat rw [up_ne (by omega)]
theorem cpM_v8 {C : Mem} {f q j : Nat} (h : f + 16 ≤ q ∨ q + 16 ≤ f) (hj : j < 12) : cpM C f q (q + 8) j = C (f + 8) j := by
  unfold cpM
  repeat rw [cpy_ne (by omega)]
  rw [cpy_in hj]
  repeat rw [cpy_ne (by omega)]
  repeat rw [up_ne (by omega)]
theorem cpM_v9 {C : Mem} {f q j : Nat} (h : f + 16 ≤ q ∨ q + 16 ≤ f) (hj : j < 1152) : cpM C f q (q + 9) j = C (f + 9) j := by
  unfold cpM
  repeat rw [cpy_ne (by omega)]
  rw [cpy_in hj]
  repeat rw [cpy_ne (by omega)]
  repeat rw [up_ne (by omega)]
theorem cpM_v10 {C : Mem} {f q j : Nat} (h : f + 16 ≤ q ∨ q + 16 ≤ f) (hj : j < 96) : cpM C f q (q + 10) j = C (f + 10) j := by
  unfold cpM
  repeat rw [cpy_ne (by omega)]
  rw [cpy_in hj]
  repeat rw [cpy_ne (by omega)]
  repeat rw [up_ne (by omega)]
theorem cpM_v11 {C : Mem} {f q j : Nat} (h : f + 16 ≤ q ∨ q + 16 ≤ f) (hj : j < 96) : cpM C f q (q + 11) j = C (f + 11) j := by
  unfold cpM
  repeat rw [cpy_ne (by omega)]
  rw [cpy_in hj]
  repeat rw [cpy_ne (by omega)]
  repeat rw [up_ne (by omega)]
theorem cpM_v12 {C : Mem} {f q j : Nat} (h : f + 16 ≤ q ∨ q + 16 ≤ f) (hj : j < 96) : cpM C f q (q + 12) j = C (f + 12) j := by
  unfold cpM
  repeat rw [cpy_ne (by omega)]
  rw [cpy_in hj]
  repeat rw [cpy_ne (by omega)]
  repeat rw [up_ne (by omega)]
theorem cpM_v13 {C : Mem} {f q j : Nat} (h : f + 16 ≤ q ∨ q + 16 ≤ f) (hj : j < 96) : cpM C f q (q + 13) j = C (f + 13) j := by
  unfold cpM
  repeat rw [cpy_ne (by omega)]
  rw [cpy_in hj]
  repeat rw [cpy_ne (by omega)]
  repeat rw [up_ne (by omega)]
theorem cpM_v14 {C : Mem} {f q j : Nat} (h : f + 16 ≤ q ∨ q + 16 ≤ f) (hj : j < 96) : cpM C f q (q + 14) j = C (f + 14) j := by
  unfold cpM
  repeat rw [cpy_ne (by omega)]
  rw [cpy_in hj]
  repeat rw [cpy_ne (by omega)]
  repeat rw [up_ne (by omega)]
theorem cpM_v15 {C : Mem} {f q j : Nat} (h : f + 16 ≤ q ∨ q + 16 ≤ f) (hj : j < 4) : cpM C f q (q + 15) j = C (f + 15) j := by
  unfold cpM
  repeat rw [cpy_ne (by omega)]
  rw [cpy_in hj]
  repeat rw [cpy_ne (by omega)]
  repeat rw [up_ne (by omega)]
theorem RowEq.cp {C : Mem} {f q : Nat} {g : Nat → Int32} (h : RowEq C f g) (hd : f + 16 ≤ q ∨ q + 16 ≤ f) : RowEq (cpM C f q) q g := by
  obtain ⟨⟨b1, b2, b3, b4⟩, a2, a3, a4, a5, a6⟩ := h
  refine ⟨⟨(cpM_w0 hd).trans b1, (cpM_w1 hd).trans b2, (cpM_w2 hd).trans b3, (cpM_w3 hd).trans b4⟩, fun p hp => ?_, fun s hs => ?_, fun j hj => (cpM_v15 hd hj).trans (a4 j hj), fun p s hp hs => (cpM_v9 hd (by omega)).trans (a5 p s hp hs), fun p hp => (cpM_v2 hd hp).trans (a6 p hp)⟩
  · obtain ⟨c1, c2, c3, c4, c5, c6, c7⟩ := a2 p hp
    exact ⟨(cpM_v1 hd hp).trans c1, (cpM_v3 hd hp).trans c2, (cpM_v5 hd hp).trans c3, (cpM_v6 hd hp).trans c4, (cpM_v7 hd hp).trans c5, (cpM_v8 hd hp).trans c6, (cpM_v4 hd hp).trans c7⟩
  · obtain ⟨c1, c2, c3, c4, c5⟩ := a3 s hs
    exact ⟨(cpM_v10 hd hs).trans c1, (cpM_v11 hd hs).trans c2, (cpM_v12 hd hs).trans c3, (cpM_v13 hd hs).trans c4, (cpM_v14 hd hs).trans c5⟩
theorem hld_g {g g' : Nat → Int32} (e : ∀ j, j < 1724 → g' j = g j) {p : Nat} (hp : p < 12) : hld g' p = hld g p := sm_c 96 (fun s hs => by rw [e _ (by omega)])
theorem RowEq.ge {C : Mem} {q : Nat} {g g' : Nat → Int32} (h : RowEq C q g) (e : ∀ j, j < 1724 → g' j = g j) : RowEq C q g' := by
  obtain ⟨⟨b1, b2, b3, b4⟩, a2, a3, a4, a5, a6⟩ := h
  refine ⟨⟨by rw [e _ (by omega)]; exact b1, by rw [e _ (by omega)]; exact b2, by rw [e _ (by omega)]; exact b3, by rw [e _ (by omega)]; exact b4⟩, fun p hp => ?_, fun s hs => ?_, fun j hj => by rw [e _ (by omega)]; exact a4 j hj, fun p s hp hs => by rw [e _ (by omega)]; exact a5 p s hp hs, fun p hp => by rw [hld_g e hp]; exact a6 p hp⟩
  · rw [e _ (by omega), e _ (by omega), e _ (by omega), e _ (by omega), e _ (by omega), e _ (by omega), e _ (by omega)]; exact a2 p hp
  · rw [e _ (by omega), e _ (by omega), e _ (by omega), e _ (by omega), e _ (by omega)]; exact a3 s hs
theorem RowInv.ge {t P : Nat} {g g' : Nat → Int32} (h : RowInv t g P) (e : ∀ j, j < 1724 → g' j = g j) : RowInv t g' P := by
  obtain ⟨⟨a1, b1⟩, a2, a3, a4, a5, a6, a7, a8, a9, a10, a11⟩ := h
  refine ⟨⟨by rw [e _ (by omega)]; exact a1, b1⟩, fun p hp => by rw [e _ (by omega)]; exact a2 p hp, fun p s hp hs => by rw [e _ (by omega)]; exact a3 p s hp hs, fun p h1 h2 => ⟨fun w hw => by rw [e _ (by omega)]; exact (a4 p h1 h2).1 w hw, fun s hs => by rw [e _ (by omega)]; exact (a4 p h1 h2).2 s hs⟩, fun s hs => by rw [e _ (by omega)]; exact a5 s hs, fun s hs => by rw [e _ (by omega)]; exact a6 s hs, fun s hs => by rw [e _ (by omega)]; exact a7 s hs, by rw [e _ (by omega)]; exact a8, by rw [e _ (by omega)]; exact a9, fun p hp => by rw [e _ (by omega)]; exact a10 p hp, fun p hp => by rw [e _ (by omega), hld_g e hp]; exact a11 p hp⟩
/-- the reference's kept rows behind a note -/
theorem ntM_old {D : Mem} {z i j : Nat} (hz5 : z ≤ 5) (hi : i < ntZ z) (hj : j < 1724) : ntM D 134 z 136 (1724 * i + j) = D 136 (1724 * (if z = 5 then i + 1 else i) + j) := by
  unfold ntM
  rw [up_ne (by decide)]
  unfold ntZ at hi ⊢
  unfold ntS
  by_cases h5 : z = 5
  · rw [if_pos h5] at hi ⊢
    rw [if_pos h5, if_pos h5]
    rw [show (134 + 2 : Nat) = 136 from rfl, fcO_out (by omega), up_ne (by decide), fcO_in (by omega)]
    show D (134 + 2) _ = _
    congr 1
    omega
  · rw [if_neg h5] at hi ⊢
    rw [if_neg h5, if_neg h5]
    rw [show (134 + 2 : Nat) = 136 from rfl, fcO_out (by omega)]
theorem ntM_new {D : Mem} {z j : Nat} (hz5 : z ≤ 5) (hj : j < 1724) : ntM D 134 z 136 (1724 * ntZ z + j) = D 135 j := by
  unfold ntM
  rw [up_ne (by decide), show (134 + 2 : Nat) = 136 from rfl, fcO_in (by omega), Nat.add_sub_cancel_left]
  unfold ntS
  by_cases h5 : z = 5
  · rw [if_pos h5, up_ne (by decide), fcO_ne (by decide)]
  · rw [if_neg h5]
/-- the class's rows behind a record -/
theorem recM_at {C : Mem} {o z : Nat} (a : Nat) (ha : a ≠ 33) : recM C 33 o z 1 a = cpM C 1 (33 + 2 + 16 * ((o + z) % 5)) a := by
  unfold recM
  by_cases h : z < 5
  · rw [if_pos h, up_ne ha]
  · rw [if_neg h, up_ne ha]
theorem his_rec {t : Nat} {M : Mem} {o z P : Nat} (h : HisR t M o z) (he : RowEq M 1 (M 135)) (hi : RowInv t (M 135) P) : ∃ o', ∀ M2 : Mem, (∀ a, 33 ≤ a → a ≤ 114 → M2 a = recM M 33 o z 1 a) → M2 134 2 = nI (ntZ z + 1) → M2 136 = ntM M 134 z 136 → HisR t M2 o' (ntZ z + 1) := by
  obtain ⟨⟨h1, h2⟩, ⟨h3, h4, h5⟩, h6⟩ := h
  have hq : cpM M 1 (33 + 2 + 16 * ((o + z) % 5)) 33 = M 33 := cpM_ne (by omega)
  have hnew : RowEq (cpM M 1 (33 + 2 + 16 * ((o + z) % 5))) (33 + 2 + 16 * ((o + z) % 5)) (M 135) := he.cp (Or.inl (by omega))
  refine ⟨if z = 5 then (o + 1) % 5 else o, fun M2 e1 e2 e3 => ?_⟩
  have e33 : M2 33 = recM M 33 o z 1 33 := e1 33 (by omega) (by omega)
  have E : ∀ a, 34 ≤ a → a ≤ 114 → M2 a = cpM M 1 (33 + 2 + 16 * ((o + z) % 5)) a := fun a b1 b2 => (e1 a (by omega) b2).trans (recM_at a (by omega))
  have hM2new : RowEq M2 (35 + 16 * ((o + z) % 5)) (M 135) := hnew.fr2 (fun a b1 b2 => E a (by omega) (by omega))
  by_cases hz : z = 5
  · subst hz
    have hr : recM M 33 o 5 1 33 = up (cpM M 1 (33 + 2 + 16 * ((o + 5) % 5))) 33 1 (nI ((o + 1) % 5)) 33 := by
      unfold recM
      rw [if_neg (by decide)]
    rw [if_pos rfl]
    refine ⟨⟨by rw [e33, hr, up_eq], Nat.mod_lt _ (by decide)⟩, ⟨by rw [e33, hr, up_ne2 (by decide), hq]; exact h3, e2, by decide⟩, fun i hi5 => ?_⟩
    have hi5' : i < 5 := hi5
    by_cases e : i = 4
    · subst e
      refine ⟨P, ?_, ?_⟩
      · rw [show ((o + 1) % 5 + 4) % 5 = (o + 5) % 5 by omega]
        exact hM2new.ge (fun j hj => by rw [e3]; exact ntM_new (z := 5) (by decide) hj)
      · exact hi.ge (fun j hj => by rw [e3]; exact ntM_new (z := 5) (by decide) hj)
    · obtain ⟨P', r1, r2⟩ := h6 (i + 1) (by omega)
      have g : ∀ j, j < 1724 → M2 136 (1724 * i + j) = M 136 (1724 * (i + 1) + j) := fun j hj => by rw [e3, ntM_old (z := 5) (by decide) (by show i < 4; omega) hj, if_pos rfl]
      refine ⟨P', ?_, r2.ge g⟩
      rw [show ((o + 1) % 5 + i) % 5 = (o + (i + 1)) % 5 by omega]
      exact (r1.ge g).fr2 (fun a b1 b2 => (E a (by omega) (by omega)).trans (cpM_ne (by omega)))
  · have hz4 : z < 5 := by omega
    have hr : recM M 33 o z 1 33 = up (cpM M 1 (33 + 2 + 16 * ((o + z) % 5))) 33 2 (nI (z + 1)) 33 := by
      unfold recM
      rw [if_pos hz4]
    have hnz : ntZ z = z := if_neg hz
    rw [hnz] at e2 ⊢
    rw [if_neg hz]
    refine ⟨⟨by rw [e33, hr, up_ne2 (by decide), hq]; exact h1, h2⟩, ⟨by rw [e33, hr, up_eq], e2, by omega⟩, fun i hiz => ?_⟩
    by_cases e : i = z
    · subst e
      refine ⟨P, hM2new.ge (fun j hj => ?_), hi.ge (fun j hj => ?_)⟩ <;> · rw [e3, show (1724 * i + j) = 1724 * ntZ i + j by rw [hnz]]; exact ntM_new h5 hj
    · obtain ⟨P', r1, r2⟩ := h6 i (by omega)
      have g : ∀ j, j < 1724 → M2 136 (1724 * i + j) = M 136 (1724 * i + j) := fun j hj => by rw [e3, ntM_old h5 (by rw [hnz]; omega) hj, if_neg hz]
      exact ⟨P', (r1.ge g).fr2 (fun a b1 b2 => (E a (by omega) (by omega)).trans (cpM_ne (by omega))), r2.ge g⟩
