/-! THE HISTORY: what is recorded, what undo brings back. -/
theorem cpy_in {C : Mem} {a b n j : Nat} (h : j < n) : cpy C a b 0 0 n b j = C a j := by
  simp [cpy, va_cpy, h]
theorem cpM_w0 {C : Mem} {f q : Nat} (h : f + 16 ≤ q ∨ q + 16 ≤ f) : cpM C f q q 0 = C f 0 := by
  unfold cpM
  repeat rw [cpy_ne (by omega)]
  repeat (first | rw [up_eq] | rw [up_ne2 (by omega)])
  repeat rw [up_ne (by omega)]
theorem cpM_w1 {C : Mem} {f q : Nat} (h : f + 16 ≤ q ∨ q + 16 ≤ f) : cpM C f q q 1 = C f 1 := by
  unfold cpM
  repeat rw [cpy_ne (by omega)]
  repeat (first | rw [up_eq] | rw [up_ne2 (by omega)])
  repeat rw [up_ne (by omega)]
theorem cpM_w2 {C : Mem} {f q : Nat} (h : f + 16 ≤ q ∨ q + 16 ≤ f) : cpM C f q q 2 = C f 2 := by
  unfold cpM
  repeat rw [cpy_ne (by omega)]
  repeat (first | rw [up_eq] | rw [up_ne2 (by omega)])
  repeat rw [up_ne (by omega)]
theorem cpM_w3 {C : Mem} {f q : Nat} (h : f + 16 ≤ q ∨ q + 16 ≤ f) : cpM C f q q 3 = C f 3 := by
  unfold cpM
  repeat rw [cpy_ne (by omega)]
  repeat (first | rw [up_eq] | rw [up_ne2 (by omega)])
  repeat rw [up_ne (by omega)]
theorem cpM_v1 {C : Mem} {f q j : Nat} (h : f + 16 ≤ q ∨ q + 16 ≤ f) (hj : j < 12) : cpM C f q (q + 1) j = C (f + 1) j := by
  unfold cpM
  repeat rw [cpy_ne (by omega)]
  rw [cpy_in hj]
  repeat rw [cpy_ne (by omega)]
  repeat rw [up_ne (by omega)]
theorem cpM_v2 {C : Mem} {f q j : Nat} (h : f + 16 ≤ q ∨ q + 16 ≤ f) (hj : j < 12) : cpM C f q (q + 2) j = C (f + 2) j := by
  unfold cpM
  repeat rw [cpy_ne (by omega)]
  rw [cpy_in hj]
  repeat rw [cpy_ne (by omega)]
  repeat rw [up_ne (by omega)]
theorem cpM_v3 {C : Mem} {f q j : Nat} (h : f + 16 ≤ q ∨ q + 16 ≤ f) (hj : j < 12) : cpM C f q (q + 3) j = C (f + 3) j := by
  unfold cpM
  repeat rw [cpy_ne (by omega)]
  rw [cpy_in hj]
  repeat rw [cpy_ne (by omega)]
  repeat rw [up_ne (by omega)]
theorem cpM_v4 {C : Mem} {f q j : Nat} (h : f + 16 ≤ q ∨ q + 16 ≤ f) (hj : j < 12) : cpM C f q (q + 4) j = C (f + 4) j := by
  unfold cpM
  repeat rw [cpy_ne (by omega)]
  rw [cpy_in hj]
  repeat rw [cpy_ne (by omega)]
  repeat rw [up_ne (by omega)]
theorem cpM_v5 {C : Mem} {f q j : Nat} (h : f + 16 ≤ q ∨ q + 16 ≤ f) (hj : j < 12) : cpM C f q (q + 5) j = C (f + 5) j := by
  unfold cpM
  repeat rw [cpy_ne (by omega)]
  rw [cpy_in hj]
  repeat rw [cpy_ne (by omega)]
  repeat rw [up_ne (by omega)]
theorem cpM_v6 {C : Mem} {f q j : Nat} (h : f + 16 ≤ q ∨ q + 16 ≤ f) (hj : j < 12) : cpM C f q (q + 6) j = C (f + 6) j := by
  unfold cpM
  repeat rw [cpy_ne (by omega)]
  rw [cpy_in hj]
  repeat rw [cpy_ne (by omega)]
  repeat rw [up_ne (by omega)]
theorem cpM_v7 {C : Mem} {f q j : Nat} (h : f + 16 ≤ q ∨ q + 16 ≤ f) (hj : j < 12) : cpM C f q (q + 7) j = C (f + 7) j := by
  unfold cpM
  repeat rw [cpy_ne (by omega)]
  rw [cpy_in hj]
  repeat rw [cpy_ne (by omega)]
  repeat rw [up_ne (by omega)]
theorem cpM_v8 {C : Mem} {f q j : Nat} (h : f + 16 ≤ q ∨ q + 16 ≤ f) (hj : j < 12) : cpM C f q (q + 8) j = C (f + 8) j := by
  unfold cpM
  repeat rw [cpy_ne (by omega)]
  rw [cpy_in hj]
  repeat rw [cpy_ne (by omega)]
  repeat rw [up_ne (by omega)]
theorem cpM_v9 {C : Mem} {f q j : Nat} (h : f + 16 ≤ q ∨ q + 16 ≤ f) (hj : j < 1152) : cpM C f q (q + 9) j = C (f + 9) j := by
  unfold cpM
  repeat rw [cpy_ne (by omega)]
  rw [cpy_in hj]
  repeat rw [cpy_ne (by omega)]
  repeat rw [up_ne (by omega)]
theorem cpM_v10 {C : Mem} {f q j : Nat} (h : f + 16 ≤ q ∨ q + 16 ≤ f) (hj : j < 96) : cpM C f q (q + 10) j = C (f + 10) j := by
  unfold cpM
  repeat rw [cpy_ne (by omega)]
  rw [cpy_in hj]
  repeat rw [cpy_ne (by omega)]
  repeat rw [up_ne (by omega)]
theorem cpM_v11 {C : Mem} {f q j : Nat} (h : f + 16 ≤ q ∨ q + 16 ≤ f) (hj : j < 96) : cpM C f q (q + 11) j = C (f + 11) j := by
  unfold cpM
  repeat rw [cpy_ne (by omega)]
  rw [cpy_in hj]
  repeat rw [cpy_ne (by omega)]
  repeat rw [up_ne (by omega)]
theorem cpM_v12 {C : Mem} {f q j : Nat} (h : f + 16 ≤ q ∨ q + 16 ≤ f) (hj : j < 96) : cpM C f q (q + 12) j = C (f + 12) j := by
  unfold cpM
  repeat rw [cpy_ne (by omega)]
  rw [cpy_in hj]
  repeat rw [cpy_ne (by omega)]
  repeat rw [up_ne (by omega)]
theorem cpM_v13 {C : Mem} {f q j : Nat} (h : f + 16 ≤ q ∨ q + 16 ≤ f) (hj : j < 96) : cpM C f q (q + 13) j = C (f + 13) j := by
  unfold cpM
  repeat rw [cpy_ne (by omega)]
  rw [cpy_in hj]
  repeat rw [cpy_ne (by omega)]
  repeat rw [up_ne (by omega)]
theorem cpM_v14 {C : Mem} {f q j : Nat} (h : f + 16 ≤ q ∨ q + 16 ≤ f) (hj : j < 96) : cpM C f q (q + 14) j = C (f + 14) j := by
  unfold cpM
  repeat rw [cpy_ne (by omega)]
  rw [cpy_in hj]
  repeat rw [cpy_ne (by omega)]
  repeat rw [up_ne (by omega)]
theorem cpM_v15 {C : Mem} {f q j : Nat} (h : f + 16 ≤ q ∨ q + 16 ≤ f) (hj : j < 4) : cpM C f q (q + 15) j = C (f + 15) j := by
  unfold cpM
  repeat rw [cpy_ne (by omega)]
  rw [cpy_in hj]
  repeat rw [cpy_ne (by omega)]
  repeat rw [up_ne (by omega)]
theorem SE.cp {C : Mem} {f q : Nat} (h : f + 16 ≤ q ∨ q + 16 ≤ f) : SE C f (cpM C f q) q := by
  intro i j hi hj
  match i, hi with
  | 0, _ =>
    have hj : j < 4 := hj
    rcases (show j = 0 ∨ j = 1 ∨ j = 2 ∨ j = 3 by omega) with rfl | rfl | rfl | rfl
    · exact (cpM_w0 h).symm
    · exact (cpM_w1 h).symm
    · exact (cpM_w2 h).symm
    · exact (cpM_w3 h).symm
  | 1, _ => exact (cpM_v1 h hj).symm
  | 2, _ => exact (cpM_v2 h hj).symm
  | 3, _ => exact (cpM_v3 h hj).symm
  | 4, _ => exact (cpM_v4 h hj).symm
  | 5, _ => exact (cpM_v5 h hj).symm
  | 6, _ => exact (cpM_v6 h hj).symm
  | 7, _ => exact (cpM_v7 h hj).symm
  | 8, _ => exact (cpM_v8 h hj).symm
  | 9, _ => exact (cpM_v9 h hj).symm
  | 10, _ => exact (cpM_v10 h hj).symm
  | 11, _ => exact (cpM_v11 h hj).symm
  | 12, _ => exact (cpM_v12 h hj).symm
  | 13, _ => exact (cpM_v13 h hj).symm
  | 14, _ => exact (cpM_v14 h hj).symm
  | 15, _ => exact (cpM_v15 h hj).symm
  | n + 16, h16 => exact absurd h16 (by omega)
section
variable {C C' M M' : Mem} {q q' P t t' o z len : Nat} {E E' B F B' F' : Nat → Nat}
theorem SB.se (h : SB E C q P) (e : SE C q C' q') : SB E C' q' P := by
  obtain ⟨a1, a2, a3, a4, a5, a6⟩ := h
  refine ⟨e.wf a1, fun r s hr hs => ?_, fun r h1 h2 => ⟨fun i' h3 h4 => ?_, fun s hs => ?_⟩, fun s hs => ?_, ?_, fun r hr => ?_⟩
  · rw [show bm C' q' r s = bm C q r s from (e.m hr hs).symm]; exact a2 r s hr hs
  · rw [← e.pe h3 h4 h2]; exact (a3 r h1 h2).1 i' h3 h4
  · rw [show bm C' q' r s = bm C q r s from (e.m h2 hs).symm]; exact (a3 r h1 h2).2 s hs
  · rw [← e.sl (i := 10) (by decide) (by decide) hs, ← e.sl (i := 11) (by decide) (by decide) hs, ← e.sl (i := 12) (by decide) (by decide) hs, ← e.sl (i := 13) (by decide) (by decide) hs]; exact a4 s hs
  · rw [← e.f (j := 1) (by decide)]; exact a5
  · rw [← e.pe (i := 3) (by decide) (by decide) hr]; exact a6 r hr
theorem SI.se (h : SI t C q P) (e : SE C q C' q') : SI t C' q' P := by
  obtain ⟨a1, a2, a3, a4, a5⟩ := h
  refine ⟨a1.se e, fun p hp => ?_, fun p hp => ?_, ?_, ?_⟩
  · rw [← e.pe (i := 1) (by decide) (by decide) hp]
    show ∃ k, C (q + 1) p = nI k ∧ hm C' q' p ≤ k ∧ k ≤ 2000000 * t
    rw [← e.hm hp]; exact a2 p hp
  · rw [← e.pe (i := 2) (by decide) (by decide) hp, ← e.hm hp]; exact a3 p hp
  · rw [← e.f (j := 0) (by decide)]; exact a4
  · rw [← e.f (j := 2) (by decide), a5]
    exact sm_c P (fun p hp => e.pe (i := 8) (by decide) (by decide) (Nat.lt_of_lt_of_le hp a1.P12))
theorem SI.mono (h : SI t C q P) (ht : t ≤ t') : SI t' C q P := by
  obtain ⟨a1, a2, a3, ⟨k, k1, k2⟩, a5⟩ := h
  exact ⟨a1.mono (fun _ _ => Nat.mul_le_mul_left _ ht), a2.le (fun _ _ => Nat.mul_le_mul_left _ ht) (fun _ _ => Nat.le_refl _), a3, ⟨k, k1, by omega⟩, a5⟩
theorem SI.P12 (h : SI t C q P) : P ≤ 12 := h.1.P12
theorem SI.wf (h : SI t C q P) : Wf C q P := h.1.wf
def HisI (t : Nat) (M : Mem) (o z : Nat) : Prop := (M 33 1 = nI o ∧ o < 5) ∧ (M 33 2 = nI z ∧ z ≤ 5) ∧ ∀ i, i < z → ∃ P', SI t M (35 + 16 * ((o + i) % 5)) P'
/-- the whole, between two calls -/
def At (t : Nat) (M : Mem) (P o z len : Nat) : Prop := SI t M 1 P ∧ HisI t M o z ∧ (M 115 1 = nI len ∧ len ≤ 100) ∧ M 118 0 = nI 1
def zN (z : Nat) : Nat := if z < 5 then z + 1 else 5
def oN (o z : Nat) : Nat := if z < 5 then o else (o + 1) % 5
/-- the place of the latest state -/
def tp (o z : Nat) : Nat := 35 + 16 * ((o + (z - 1)) % 5)
theorem zN_p : 0 < zN z ∧ (z ≤ 5 → zN z ≤ 5) := by unfold zN; split <;> omega
theorem HisI.mono (h : HisI t M o z) (ht : t ≤ t') : HisI t' M o z := ⟨h.1, h.2.1, fun i hi => by
  obtain ⟨P', h1⟩ := h.2.2 i hi
  exact ⟨P', h1.mono ht⟩⟩
theorem recM_at {f : Nat} (a : Nat) (ha : a ≠ 33) : recM M 33 o z f a = cpM M f (35 + 16 * ((o + z) % 5)) a := by
  unfold recM
  by_cases h : z < 5
  · rw [if_pos h, up_ne ha]
  · rw [if_neg h, up_ne ha]
theorem recM_33 {f : Nat} (hf : f + 16 ≤ 33) (h1 : M 33 1 = nI o) (h2 : M 33 2 = nI z) (hz : z ≤ 5) : recM M 33 o z f 33 1 = nI (oN o z) ∧ recM M 33 o z f 33 2 = nI (zN z) := by
  have e : ∀ j, cpM M f (35 + 16 * ((o + z) % 5)) 33 j = M 33 j := fun j => congrFun (cpM_ne (by omega)) j
  unfold recM oN zN
  by_cases h : z < 5
  · rw [if_pos h, if_pos h, if_pos h, up_eq, up_ne2 (by decide), show 33 + 2 = 35 from rfl, e, h1]
    exact ⟨rfl, rfl⟩
  · rw [if_neg h, if_neg h, if_neg h, up_eq, up_ne2 (by decide), show 33 + 2 = 35 from rfl, e, h2]
    exact ⟨rfl, by congr 1; omega⟩
theorem his_rec {f : Nat} (hf : f + 16 ≤ 33) (h : HisI t M o z) (hS : SI t M f P) (M2 : Mem) (hM : ∀ a, 33 ≤ a → a ≤ 114 → M2 a = recM M 33 o z f a) : HisI t M2 (oN o z) (zN z) ∧ SE M f M2 (tp (oN o z) (zN z)) ∧ (0 < z → tp (oN o z) (zN z - 1) = tp o z ∧ SE M (tp o z) M2 (tp o z)) := by
  obtain ⟨⟨h1, h2⟩, ⟨h3, h4⟩, h5⟩ := h
  obtain ⟨e1, e2⟩ := recM_33 (z := z) hf h1 h3 h4
  have hnew : tp (oN o z) (zN z) = 35 + 16 * ((o + z) % 5) := by
    unfold tp oN zN
    by_cases h : z < 5
    · rw [if_pos h, if_pos h]; congr 1
    · rw [if_neg h, if_neg h]; congr 2; omega
  have hm5 : (o + z) % 5 < 5 := Nat.mod_lt _ (by decide)
  have hSE : SE M f M2 (35 + 16 * ((o + z) % 5)) := by
    have k1 : SE M f (cpM M f (35 + 16 * ((o + z) % 5))) (35 + 16 * ((o + z) % 5)) := SE.cp (by omega)
    refine k1.tr (SE.fr (fun a a1 a2 => ?_))
    rw [hM a (by omega) (by omega), recM_at a (by omega)]
  have hold : ∀ j, j < 5 → j ≠ (o + z) % 5 → SE M (35 + 16 * j) M2 (35 + 16 * j) := fun j hj hne => SE.fr (fun a a1 a2 => by
    rw [hM a (by omega) (by omega), recM_at a (by omega), cpM_ne (by omega)])
  refine ⟨⟨⟨by rw [hM 33 (by decide) (by decide)]; exact e1, ?_⟩, ⟨by rw [hM 33 (by decide) (by decide)]; exact e2, zN_p.2 h4⟩, fun i hi => ?_⟩, by rw [hnew]; exact hSE, fun hz => ?_⟩
  · unfold oN; split <;> omega
  · by_cases hz : z < 5
    · have ho : oN o z = o := if_pos hz
      have hzz : zN z = z + 1 := if_pos hz
      rw [ho]
      by_cases e : i = z
      · subst e; exact ⟨P, hS.se hSE⟩
      · obtain ⟨P', g⟩ := h5 i (by omega)
        exact ⟨P', g.se (hold ((o + i) % 5) (Nat.mod_lt _ (by decide)) (by omega))⟩
    · have ho : oN o z = (o + 1) % 5 := if_neg hz
      have hzz : zN z = 5 := if_neg hz
      rw [ho]
      by_cases e : i = 4
      · subst e
        refine ⟨P, ?_⟩
        rw [show ((o + 1) % 5 + 4) % 5 = (o + z) % 5 by omega]
        exact hS.se hSE
      · obtain ⟨P', g⟩ := h5 (i + 1) (by omega)
        refine ⟨P', ?_⟩
        rw [show ((o + 1) % 5 + i) % 5 = (o + (i + 1)) % 5 by omega]
        exact g.se (hold ((o + (i + 1)) % 5) (Nat.mod_lt _ (by decide)) (by omega))
  · refine ⟨?_, hold _ (Nat.mod_lt _ (by decide)) (by omega)⟩
    unfold tp oN zN
    by_cases h : z < 5
    · rw [if_pos h, if_pos h]; congr 3
    · rw [if_neg h, if_neg h]; congr 2; omega
/-- an action: its state is recorded, then the state is written -/
theorem At.act (hA : At t M P o z len) (ht : t ≤ t') {M1 : Mem} {P' : Nat} (hM : ∀ a, 17 ≤ a → M1 a = recM M 33 o z 1 a) (hS : SI t' M1 1 P') : At t' M1 P' (oN o z) (zN z) len ∧ SE M 1 M1 (tp (oN o z) (zN z)) ∧ (0 < z → tp (oN o z) (zN z - 1) = tp o z ∧ SE M (tp o z) M1 (tp o z)) := by
  obtain ⟨a1, a2, ⟨a3, a4⟩, a5⟩ := hA
  obtain ⟨h1, h2, h3⟩ := his_rec (by decide) a2 a1 M1 (fun a x _ => hM a (by omega))
  refine ⟨⟨hS, h1.mono ht, ⟨?_, a4⟩, ?_⟩, h2, h3⟩
  · rw [hM 115 (by decide), recM_ne a2.2.1.2 (by decide)]; exact a3
  · rw [hM 118 (by decide), recM_ne a2.2.1.2 (by decide)]; exact a5
/-- undo -/
theorem At.undo (hA : At t M P o z len) (hz : 0 < z) {P' : Nat} (hT : SI t M (tp o z) P') : At t (resM M 33 o z 1) P' o (z - 1) len ∧ SE M (tp o z) (resM M 33 o z 1) 1 ∧ ∀ a, 17 ≤ a → a ≠ 33 → resM M 33 o z 1 a = M a := by
  obtain ⟨a1, ⟨⟨b1, b2⟩, ⟨b3, b4⟩, b5⟩, ⟨a3, a4⟩, a5⟩ := hA
  have hm5 : (o + (z - 1)) % 5 < 5 := Nat.mod_lt _ (by decide)
  have er : resM M 33 o z 1 = cpM (up M 33 2 (nI (z - 1))) (35 + 16 * ((o + (z - 1)) % 5)) 1 := if_pos hz
  have R : ∀ a, 17 ≤ a → resM M 33 o z 1 a = up M 33 2 (nI (z - 1)) a := fun a ha => by
    rw [er, cpM_ne (by omega)]
  have R2 : ∀ a, 17 ≤ a → a ≠ 33 → resM M 33 o z 1 a = M a := fun a ha hne => by
    rw [R a ha, up_ne hne]
  have hSE : SE M (tp o z) (resM M 33 o z 1) 1 := by
    rw [er]
    have k1 : SE M (tp o z) (up M 33 2 (nI (z - 1))) (tp o z) := SE.fr (fun a h1 h2 => up_ne (by unfold tp at h1; omega))
    exact k1.tr (SE.cp (by unfold tp; omega))
  refine ⟨⟨hT.se hSE, ⟨⟨?_, b2⟩, ⟨?_, by omega⟩, fun i hi => ?_⟩, ⟨?_, a4⟩, ?_⟩, hSE, R2⟩
  · rw [R 33 (by decide), up_ne2 (by decide)]; exact b1
  · rw [R 33 (by decide), up_eq]
  · obtain ⟨P2, g⟩ := b5 i (by omega)
    have : (o + i) % 5 < 5 := Nat.mod_lt _ (by decide)
    exact ⟨P2, g.se (SE.fr (fun a h1 h2 => R2 a (by omega) (by omega)))⟩
  · rw [R2 115 (by decide) (by decide)]; exact a3
  · rw [R2 118 (by decide) (by decide)]; exact a5
theorem At.wf (h : At t M P o z len) : Wf M (0 + 1) P := h.1.wf
theorem At.mono (h : At t M P o z len) (ht : t ≤ t') : At t' M P o z len := ⟨h.1.mono ht, h.2.1.mono ht, h.2.2⟩
/-- what touches neither state, history, text's length nor first factor -/
theorem At.fr (h : At t M P o z len) (e : ∀ a, (1 ≤ a ∧ a ≤ 16) ∨ (33 ≤ a ∧ a ≤ 114) ∨ a = 115 ∨ a = 118 → M' a = M a) : At t M' P o z len := by
  obtain ⟨a1, ⟨⟨b1, b2⟩, ⟨b3, b4⟩, b5⟩, ⟨a3, a4⟩, a5⟩ := h
  refine ⟨a1.se (SE.fr (fun a h1 h2 => e a (by omega))), ⟨⟨by rw [e 33 (by omega)]; exact b1, b2⟩, ⟨by rw [e 33 (by omega)]; exact b3, b4⟩, fun i hi => ?_⟩, ⟨by rw [e 115 (by omega)]; exact a3, a4⟩, by rw [e 118 (by omega)]; exact a5⟩
  obtain ⟨P2, g⟩ := b5 i hi
  have : (o + i) % 5 < 5 := Nat.mod_lt _ (by decide)
  exact ⟨P2, g.se (SE.fr (fun a h1 h2 => e a (by omega)))⟩
end
