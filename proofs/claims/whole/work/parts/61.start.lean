theorem memZ_lo {a : Nat} (h1 : 2 ≤ a) (h2 : a ≤ 16) : memZ a = mem0 a := by
  unfold memZ cSM plM hiM hiM hiM hiM hiM hiM
  repeat rw [up_ne (by omega)]
theorem memZ_1 : memZ 1 = up mem0 1 1 (nI 20) 1 := by
  unfold memZ cSM plM hiM hiM hiM hiM hiM hiM
  repeat rw [up_ne (by omega)]
theorem memZ_135 : memZ 135 = up mem0 135 2 (nI 20) 135 := by
  unfold memZ
  funext j
  by_cases hj : j = 2
  · subst hj; rw [up_eq, up_eq]
  · rw [up_ne2 hj, up_ne2 hj]
    unfold cSM plM hiM hiM hiM hiM hiM hiM
    repeat rw [up_ne (by omega)]
theorem memZ_o {a : Nat} (h : a = 33 ∨ a = 133 ∨ a = 134 ∨ a = 116 ∨ a = 138) : memZ a = mem0 a := by
  unfold memZ cSM plM hiM hiM hiM hiM hiM hiM
  repeat rw [up_ne (by omega)]
theorem memZ_115 : memZ 115 1 = 0 := by
  unfold memZ cSM plM
  rw [up_ne (by omega), up_ne (by omega), up_ne2 (by omega)]
  unfold hiM hiM hiM hiM hiM hiM
  repeat rw [up_ne (by omega)]
  rfl
theorem memZ_118 : memZ 118 0 = nI 1 := by
  unfold memZ cSM plM
  rw [up_ne (by omega)]
  exact up_eq
theorem gZ2 : memZ 135 2 = nI 20 := by rw [memZ_135]; exact up_eq
theorem gZ {j : Nat} (h : j ≠ 2) : memZ 135 j = 0 := by rw [memZ_135]; exact up_ne2 h
theorem rel_0 : Rel 0 memZ := by
  have hl : ∀ p, p < 12 → hld (memZ 135) p = nI 0 := fun p hp => hld_0 (fun s hs => gZ (by omega))
  refine ⟨0, 0, 0, 0, ⟨⟨⟨?_, ?_, ?_, ?_⟩, fun p hp => ?_, fun s hs => ?_, fun j hj => ?_, fun p s hp hs => ?_, fun p hp => ?_⟩, ⟨gZ (by decide), by decide⟩, fun p hp => ?_, fun p s hp hs => ⟨0, gZ (by omega), by omega⟩, fun p h1 h2 => ⟨fun v hv => gZ (by omega), fun s hs => gZ (by omega)⟩, fun s hs => Or.inl (gZ (by omega)), fun s hs => ⟨0, gZ (by omega), by omega⟩, fun s hs => ⟨0, gZ (by omega), by decide⟩, ⟨20, gZ2, by decide⟩, ⟨0, gZ (by decide), by decide⟩, fun p hp => ⟨0, gZ (by omega), by omega⟩, fun p hp => ⟨0, 0, gZ (by omega), by omega, hl p hp, Nat.le_refl 0⟩⟩, ⟨⟨by rw [memZ_o (Or.inl rfl)]; rfl, by decide⟩, ⟨by rw [memZ_o (Or.inl rfl)]; rfl, by rw [memZ_o (by omega)]; rfl, by decide⟩, fun i hi => absurd hi (Nat.not_lt_zero i)⟩, ⟨memZ_115, by rw [memZ_o (by omega)]; rfl, by decide, fun p hp => absurd hp (Nat.not_lt_zero p)⟩, memZ_118, Or.inl ⟨by rw [memZ_o (by omega)]; rfl, by rw [memZ_o (by omega)]; rfl⟩⟩
  · rw [memZ_1, gZ (by decide)]; exact up_ne2 (by decide)
  · rw [memZ_1, gZ2]; exact up_eq
  · rw [memZ_1, gZ (by decide)]; exact up_ne2 (by decide)
  · rw [memZ_1, gZ (by decide)]; exact up_ne2 (by decide)
  · rw [memZ_lo (a := 1 + 1) (by decide) (by decide), memZ_lo (a := 1 + 3) (by decide) (by decide), memZ_lo (a := 1 + 5) (by decide) (by decide), memZ_lo (a := 1 + 6) (by decide) (by decide), memZ_lo (a := 1 + 7) (by decide) (by decide), memZ_lo (a := 1 + 8) (by decide) (by decide), memZ_lo (a := 1 + 4) (by decide) (by decide), gZ (by omega), gZ (by omega), gZ (by omega), gZ (by omega), gZ (by omega), gZ (by omega), gZ (by omega)]
    exact ⟨rfl, rfl, rfl, rfl, rfl, rfl, rfl⟩
  · rw [memZ_lo (a := 1 + 10) (by decide) (by decide), memZ_lo (a := 1 + 11) (by decide) (by decide), memZ_lo (a := 1 + 12) (by decide) (by decide), memZ_lo (a := 1 + 13) (by decide) (by decide), memZ_lo (a := 1 + 14) (by decide) (by decide), gZ (by omega), gZ (by omega), gZ (by omega), gZ (by omega), gZ (by omega)]
    exact ⟨rfl, rfl, (if_neg (by decide)).symm, rfl, rfl⟩
  · rw [memZ_lo (a := 1 + 15) (by decide) (by decide), gZ (by omega)]; rfl
  · rw [memZ_lo (a := 1 + 9) (by decide) (by decide), gZ (by omega)]; rfl
  · rw [memZ_lo (a := 1 + 2) (by decide) (by decide), hl p hp]; rfl
  · rw [gZ (by omega)]; unfold vp_in; decide
