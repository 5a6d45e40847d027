/-! ===== shapes, small words, call rows without new cells ===== -/
def stLen (j : Nat) : Nat := if j < 8 then 12 else if j = 8 then 1152 else if j < 14 then 96 else 4
def IsSt (sh : Sh) (q : Nat) : Prop := q + 16 ≤ sh.1 ∧ sh.2.1 q = 3 ∧ ∀ j, j < 15 → sh.2.1 (q + 1 + j) = 6 ∧ sh.2.2.2 q (4 + j) = some (q + 1 + j) ∧ sh.2.2.1 (q + 1 + j) = stLen j
theorem IsSt.i {sh : Sh} {q : Nat} (h : IsSt sh q) : q < sh.1 := by have := h.1; omega
theorem IsSt.k {sh : Sh} {q : Nat} (h : IsSt sh q) : sh.2.1 q = 3 := h.2.1
theorem IsSt.i0 {sh : Sh} {q : Nat} (h : IsSt sh q) : q + 1 < sh.1 := by have := h.1; omega
theorem IsSt.k0 {sh : Sh} {q : Nat} (h : IsSt sh q) : sh.2.1 (q + 1) = 6 := (h.2.2 0 (by decide)).1
theorem IsSt.r0 {sh : Sh} {q : Nat} (h : IsSt sh q) : sh.2.2.2 q 4 = some (q + 1) := (h.2.2 0 (by decide)).2.1
theorem IsSt.n0 {sh : Sh} {q : Nat} (h : IsSt sh q) : sh.2.2.1 (q + 1) = 12 := (h.2.2 0 (by decide)).2.2
theorem IsSt.L0 {sh : Sh} {q : Nat} (h : IsSt sh q) : sh.2.2.1 (q + 1) < 2 ^ 31 := by rw [h.n0]; decide
theorem IsSt.i1 {sh : Sh} {q : Nat} (h : IsSt sh q) : q + 2 < sh.1 := by have := h.1; omega
theorem IsSt.k1 {sh : Sh} {q : Nat} (h : IsSt sh q) : sh.2.1 (q + 2) = 6 := (h.2.2 1 (by decide)).1
theorem IsSt.r1 {sh : Sh} {q : Nat} (h : IsSt sh q) : sh.2.2.2 q 5 = some (q + 2) := (h.2.2 1 (by decide)).2.1
theorem IsSt.n1 {sh : Sh} {q : Nat} (h : IsSt sh q) : sh.2.2.1 (q + 2) = 12 := (h.2.2 1 (by decide)).2.2
theorem IsSt.L1 {sh : Sh} {q : Nat} (h : IsSt sh q) : sh.2.2.1 (q + 2) < 2 ^ 31 := by rw [h.n1]; decide
theorem IsSt.i2 {sh : Sh} {q : Nat} (h : IsSt sh q) : q + 3 < sh.1 := by have := h.1; omega
theorem IsSt.k2 {sh : Sh} {q : Nat} (h : IsSt sh q) : sh.2.1 (q + 3) = 6 := (h.2.2 2 (by decide)).1
theorem IsSt.r2 {sh : Sh} {q : Nat} (h : IsSt sh q) : sh.2.2.2 q 6 = some (q + 3) := (h.2.2 2 (by decide)).2.1
theorem IsSt.n2 {sh : Sh} {q : Nat} (h : IsSt sh q) : sh.2.2.1 (q + 3) = 12 := (h.2.2 2 (by decide)).2.2
theorem IsSt.L2 {sh : Sh} {q : Nat} (h : IsSt sh q) : sh.2.2.1 (q + 3) < 2 ^ 31 := by rw [h.n2]; decide
theorem IsSt.i3 {sh : Sh} {q : Nat} (h : IsSt sh q) : q + 4 < sh.1 := by have := h.1; omega
theorem IsSt.k3 {sh : Sh} {q : Nat} (h : IsSt sh q) : sh.2.1 (q + 4) = 6 := (h.2.2 3 (by decide)).1
theorem IsSt.r3 {sh : Sh} {q : Nat} (h : IsSt sh q) : sh.2.2.2 q 7 = some (q + 4) := (h.2.2 3 (by decide)).2.1
theorem IsSt.n3 {sh : Sh} {q : Nat} (h : IsSt sh q) : sh.2.2.1 (q + 4) = 12 := (h.2.2 3 (by decide)).2.2
theorem IsSt.L3 {sh : Sh} {q : Nat} (h : IsSt sh q) : sh.2.2.1 (q + 4) < 2 ^ 31 := by rw [h.n3]; decide
theorem IsSt.i4 {sh : Sh} {q : Nat} (h : IsSt sh q) : q + 5 < sh.1 := by have := h.1; omega
theorem IsSt.k4 {sh : Sh} {q : Nat} (h : IsSt sh q) : sh.2.1 (q + 5) = 6 := (h.2.2 4 (by decide)).1
theorem IsSt.r4 {sh : Sh} {q : Nat} (h : IsSt sh q) : sh.2.2.2 q 8 = some (q + 5) := (h.2.2 4 (by decide)).2.1
theorem IsSt.n4 {sh : Sh} {q : Nat} (h : IsSt sh q) : sh.2.2.1 (q + 5) = 12 := (h.2.2 4 (by decide)).2.2
theorem IsSt.L4 {sh : Sh} {q : Nat} (h : IsSt sh q) : sh.2.2.1 (q + 5) < 2 ^ 31 := by rw [h.n4]; decide
theorem IsSt.i5 {sh : Sh} {q : Nat} (h : IsSt sh q) : q + 6 < sh.1 := by have := h.1; omega
theorem IsSt.k5 {sh : Sh} {q : Nat} (h : IsSt sh q) : sh.2.1 (q + 6) = 6 := (h.2.2 5 (by decide)).1
theorem IsSt.r5 {sh : Sh} {q : Nat} (h : IsSt sh q) : sh.2.2.2 q 9 = some (q + 6) := (h.2.2 5 (by decide)).2.1
theorem IsSt.n5 {sh : Sh} {q : Nat} (h : IsSt sh q) : sh.2.2.1 (q + 6) = 12 := (h.2.2 5 (by decide)).2.2
theorem IsSt.L5 {sh : Sh} {q : Nat} (h : IsSt sh q) : sh.2.2.1 (q + 6) < 2 ^ 31 := by rw [h.n5]; decide
theorem IsSt.i6 {sh : Sh} {q : Nat} (h : IsSt sh q) : q + 7 < sh.1 := by have := h.1; omega
theorem IsSt.k6 {sh : Sh} {q : Nat} (h : IsSt sh q) : sh.2.1 (q + 7) = 6 := (h.2.2 6 (by decide)).1
theorem IsSt.r6 {sh : Sh} {q : Nat} (h : IsSt sh q) : sh.2.2.2 q 10 = some (q + 7) := (h.2.2 6 (by decide)).2.1
theorem IsSt.n6 {sh : Sh} {q : Nat} (h : IsSt sh q) : sh.2.2.1 (q + 7) = 12 := (h.2.2 6 (by decide)).2.2
theorem IsSt.L6 {sh : Sh} {q : Nat} (h : IsSt sh q) : sh.2.2.1 (q + 7) < 2 ^ 31 := by rw [h.n6]; decide
theorem IsSt.i7 {sh : Sh} {q : Nat} (h : IsSt sh q) : q + 8 < sh.1 := by have := h.1; omega
theorem IsSt.k7 {sh : Sh} {q : Nat} (h : IsSt sh q) : sh.2.1 (q + 8) = 6 := (h.2.2 7 (by decide)).1
theorem IsSt.r7 {sh : Sh} {q : Nat} (h : IsSt sh q) : sh.2.2.2 q 11 = some (q + 8) := (h.2.2 7 (by decide)).2.1
theorem IsSt.n7 {sh : Sh} {q : Nat} (h : IsSt sh q) : sh.2.2.1 (q + 8) = 12 := (h.2.2 7 (by decide)).2.2
theorem IsSt.L7 {sh : Sh} {q : Nat} (h : IsSt sh q) : sh.2.2.1 (q + 8) < 2 ^ 31 := by rw [h.n7]; decide
theorem IsSt.i8 {sh : Sh} {q : Nat} (h : IsSt sh q) : q + 9 < sh.1 := by have := h.1; omega
theorem IsSt.k8 {sh : Sh} {q : Nat} (h : IsSt sh q) : sh.2.1 (q + 9) = 6 := (h.2.2 8 (by decide)).1
theorem IsSt.r8 {sh : Sh} {q : Nat} (h : IsSt sh q) : sh.2.2.2 q 12 = some (q + 9) := (h.2.2 8 (by decide)).2.1
theorem IsSt.n8 {sh : Sh} {q : Nat} (h : IsSt sh q) : sh.2.2.1 (q + 9) = 1152 := (h.2.2 8 (by decide)).2.2
theorem IsSt.L8 {sh : Sh} {q : Nat} (h : IsSt sh q) : sh.2.2.1 (q + 9) < 2 ^ 31 := by rw [h.n8]; decide
theorem IsSt.i9 {sh : Sh} {q : Nat} (h : IsSt sh q) : q + 10 < sh.1 := by have := h.1; omega
theorem IsSt.k9 {sh : Sh} {q : Nat} (h : IsSt sh q) : sh.2.1 (q + 10) = 6 := (h.2.2 9 (by decide)).1
theorem IsSt.r9 {sh : Sh} {q : Nat} (h : IsSt sh q) : sh.2.2.2 q 13 = some (q + 10) := (h.2.2 9 (by decide)).2.1
theorem IsSt.n9 {sh : Sh} {q : Nat} (h : IsSt sh q) : sh.2.2.1 (q + 10) = 96 := (h.2.2 9 (by decide)).2.2
theorem IsSt.L9 {sh : Sh} {q : Nat} (h : IsSt sh q) : sh.2.2.1 (q + 10) < 2 ^ 31 := by rw [h.n9]; decide
theorem IsSt.i10 {sh : Sh} {q : Nat} (h : IsSt sh q) : q + 11 < sh.1 := by have := h.1; omega
theorem IsSt.k10 {sh : Sh} {q : Nat} (h : IsSt sh q) : sh.2.1 (q + 11) = 6 := (h.2.2 10 (by decide)).1
theorem IsSt.r10 {sh : Sh} {q : Nat} (h : IsSt sh q) : sh.2.2.2 q 14 = some (q + 11) := (h.2.2 10 (by decide)).2.1
theorem IsSt.n10 {sh : Sh} {q : Nat} (h : IsSt sh q) : sh.2.2.1 (q + 11) = 96 := (h.2.2 10 (by decide)).2.2
theorem IsSt.L10 {sh : Sh} {q : Nat} (h : IsSt sh q) : sh.2.2.1 (q + 11) < 2 ^ 31 := by rw [h.n10]; decide
theorem IsSt.i11 {sh : Sh} {q : Nat} (h : IsSt sh q) : q + 12 < sh.1 := by have := h.1; omega
theorem IsSt.k11 {sh : Sh} {q : Nat} (h : IsSt sh q) : sh.2.1 (q + 12) = 6 := (h.2.2 11 (by decide)).1
theorem IsSt.r11 {sh : Sh} {q : Nat} (h : IsSt sh q) : sh.2.2.2 q 15 = some (q + 12) := (h.2.2 11 (by decide)).2.1
theorem IsSt.n11 {sh : Sh} {q : Nat} (h : IsSt sh q) : sh.2.2.1 (q + 12) = 96 := (h.2.2 11 (by decide)).2.2
theorem IsSt.L11 {sh : Sh} {q : Nat} (h : IsSt sh q) : sh.2.2.1 (q + 12) < 2 ^ 31 := by rw [h.n11]; decide
theorem IsSt.i12 {sh : Sh} {q : Nat} (h : IsSt sh q) : q + 13 < sh.1 := by have := h.1; omega
theorem IsSt.k12 {sh : Sh} {q : Nat} (h : IsSt sh q) : sh.2.1 (q + 13) = 6 := (h.2.2 12 (by decide)).1
theorem IsSt.r12 {sh : Sh} {q : Nat} (h : IsSt sh q) : sh.2.2.2 q 16 = some (q + 13) := (h.2.2 12 (by decide)).2.1
theorem IsSt.n12 {sh : Sh} {q : Nat} (h : IsSt sh q) : sh.2.2.1 (q + 13) = 96 := (h.2.2 12 (by decide)).2.2
theorem IsSt.L12 {sh : Sh} {q : Nat} (h : IsSt sh q) : sh.2.2.1 (q + 13) < 2 ^ 31 := by rw [h.n12]; decide
theorem IsSt.i13 {sh : Sh} {q : Nat} (h : IsSt sh q) : q + 14 < sh.1 := by have := h.1; omega
theorem IsSt.k13 {sh : Sh} {q : Nat} (h : IsSt sh q) : sh.2.1 (q + 14) = 6 := (h.2.2 13 (by decide)).1
theorem IsSt.r13 {sh : Sh} {q : Nat} (h : IsSt sh q) : sh.2.2.2 q 17 = some (q + 14) := (h.2.2 13 (by decide)).2.1
theorem IsSt.n13 {sh : Sh} {q : Nat} (h : IsSt sh q) : sh.2.2.1 (q + 14) = 96 := (h.2.2 13 (by decide)).2.2
theorem IsSt.L13 {sh : Sh} {q : Nat} (h : IsSt sh q) : sh.2.2.1 (q + 14) < 2 ^ 31 := by rw [h.n13]; decide
theorem IsSt.i14 {sh : Sh} {q : Nat} (h : IsSt sh q) : q + 15 < sh.1 := by have := h.1; omega
theorem IsSt.k14 {sh : Sh} {q : Nat} (h : IsSt sh q) : sh.2.1 (q + 15) = 6 := (h.2.2 14 (by decide)).1
theorem IsSt.r14 {sh : Sh} {q : Nat} (h : IsSt sh q) : sh.2.2.2 q 18 = some (q + 15) := (h.2.2 14 (by decide)).2.1
theorem IsSt.n14 {sh : Sh} {q : Nat} (h : IsSt sh q) : sh.2.2.1 (q + 15) = 4 := (h.2.2 14 (by decide)).2.2
theorem IsSt.L14 {sh : Sh} {q : Nat} (h : IsSt sh q) : sh.2.2.1 (q + 15) < 2 ^ 31 := by rw [h.n14]; decide
def IsHi (sh : Sh) (h : Nat) : Prop := h + 82 ≤ sh.1 ∧ sh.2.1 h = 0 ∧ sh.2.2.2 h 0 = some (h + 1) ∧ sh.2.1 (h + 1) = 8 ∧ sh.2.2.1 (h + 1) = 5 ∧ ∀ j, j < 5 → sh.2.2.2 (h + 1) j = some (h + 2 + 16 * j) ∧ IsSt sh (h + 2 + 16 * j)
theorem IsHi.i {sh : Sh} {q : Nat} (h : IsHi sh q) : q < sh.1 := by have := h.1; omega
theorem IsHi.k {sh : Sh} {q : Nat} (h : IsHi sh q) : sh.2.1 q = 0 := h.2.1
theorem IsHi.r0 {sh : Sh} {q : Nat} (h : IsHi sh q) : sh.2.2.2 q 0 = some (q + 1) := h.2.2.1
theorem IsHi.i0 {sh : Sh} {q : Nat} (h : IsHi sh q) : q + 1 < sh.1 := by have := h.1; omega
theorem IsHi.k0 {sh : Sh} {q : Nat} (h : IsHi sh q) : sh.2.1 (q + 1) = 8 := h.2.2.2.1
theorem IsHi.n0 {sh : Sh} {q : Nat} (h : IsHi sh q) : sh.2.2.1 (q + 1) = 5 := h.2.2.2.2.1
theorem IsHi.L0 {sh : Sh} {q : Nat} (h : IsHi sh q) : sh.2.2.1 (q + 1) < 2 ^ 31 := by rw [h.n0]; decide
theorem IsHi.row {sh : Sh} {q j : Nat} (h : IsHi sh q) (hj : j < 5) : sh.2.2.2 (q + 1) j = some (q + 2 + 16 * j) := (h.2.2.2.2.2 j hj).1
theorem IsHi.st {sh : Sh} {q j : Nat} (h : IsHi sh q) (hj : j < 5) : IsSt sh (q + 2 + 16 * j) := (h.2.2.2.2.2 j hj).2
def IsPl (sh : Sh) (p : Nat) : Prop := p + 18 ≤ sh.1 ∧ sh.2.1 p = 2 ∧ (sh.2.2.2 p 0 = some (p + 1) ∧ sh.2.1 (p + 1) = 6 ∧ sh.2.2.1 (p + 1) = 100) ∧ (sh.2.2.2 p 2 = some (p + 2) ∧ sh.2.1 (p + 2) = 7 ∧ sh.2.2.1 (p + 2) = 14) ∧ (sh.2.2.2 p 7 = some (p + 3) ∧ sh.2.1 (p + 3) = 6 ∧ sh.2.2.1 (p + 3) = 5) ∧ ∀ j, j < 14 → sh.2.2.2 (p + 2) j = some (p + 4 + j) ∧ sh.2.1 (p + 4 + j) = 1
theorem IsPl.i {sh : Sh} {q : Nat} (h : IsPl sh q) : q < sh.1 := by have := h.1; omega
theorem IsPl.k {sh : Sh} {q : Nat} (h : IsPl sh q) : sh.2.1 q = 2 := h.2.1
theorem IsPl.i0 {sh : Sh} {q : Nat} (h : IsPl sh q) : q + 1 < sh.1 := by have := h.1; omega
theorem IsPl.r0 {sh : Sh} {q : Nat} (h : IsPl sh q) : sh.2.2.2 q 0 = some (q + 1) := h.2.2.1.1
theorem IsPl.k0 {sh : Sh} {q : Nat} (h : IsPl sh q) : sh.2.1 (q + 1) = 6 := h.2.2.1.2.1
theorem IsPl.n0 {sh : Sh} {q : Nat} (h : IsPl sh q) : sh.2.2.1 (q + 1) = 100 := h.2.2.1.2.2
theorem IsPl.L0 {sh : Sh} {q : Nat} (h : IsPl sh q) : sh.2.2.1 (q + 1) < 2 ^ 31 := by rw [h.n0]; decide
theorem IsPl.i2 {sh : Sh} {q : Nat} (h : IsPl sh q) : q + 2 < sh.1 := by have := h.1; omega
theorem IsPl.r2 {sh : Sh} {q : Nat} (h : IsPl sh q) : sh.2.2.2 q 2 = some (q + 2) := h.2.2.2.1.1
theorem IsPl.k2 {sh : Sh} {q : Nat} (h : IsPl sh q) : sh.2.1 (q + 2) = 7 := h.2.2.2.1.2.1
theorem IsPl.n2 {sh : Sh} {q : Nat} (h : IsPl sh q) : sh.2.2.1 (q + 2) = 14 := h.2.2.2.1.2.2
theorem IsPl.L2 {sh : Sh} {q : Nat} (h : IsPl sh q) : sh.2.2.1 (q + 2) < 2 ^ 31 := by rw [h.n2]; decide
theorem IsPl.i7 {sh : Sh} {q : Nat} (h : IsPl sh q) : q + 3 < sh.1 := by have := h.1; omega
theorem IsPl.r7 {sh : Sh} {q : Nat} (h : IsPl sh q) : sh.2.2.2 q 7 = some (q + 3) := h.2.2.2.2.1.1
theorem IsPl.k7 {sh : Sh} {q : Nat} (h : IsPl sh q) : sh.2.1 (q + 3) = 6 := h.2.2.2.2.1.2.1
theorem IsPl.n7 {sh : Sh} {q : Nat} (h : IsPl sh q) : sh.2.2.1 (q + 3) = 5 := h.2.2.2.2.1.2.2
theorem IsPl.L7 {sh : Sh} {q : Nat} (h : IsPl sh q) : sh.2.2.1 (q + 3) < 2 ^ 31 := by rw [h.n7]; decide
theorem IsPl.pr {sh : Sh} {q j : Nat} (h : IsPl sh q) (hj : j < 14) : sh.2.2.2 (q + 2) j = some (q + 4 + j) := (h.2.2.2.2.2 j hj).1
theorem IsPl.pk {sh : Sh} {q j : Nat} (h : IsPl sh q) (hj : j < 14) : sh.2.1 (q + 4 + j) = 1 := (h.2.2.2.2.2 j hj).2
theorem IsPl.pi {sh : Sh} {q j : Nat} (h : IsPl sh q) (hj : j < 14) : q + 4 + j < sh.1 := by have := h.1; omega
def IsSH (sh : Sh) (b : Nat) : Prop := b + 134 ≤ sh.1 ∧ sh.2.1 b = 4 ∧ sh.2.2.2 b 0 = some (b + 1) ∧ sh.2.2.2 b 1 = some (b + 17) ∧ sh.2.2.2 b 2 = some (b + 33) ∧ sh.2.2.2 b 3 = some (b + 115) ∧ sh.2.2.2 b 4 = some (b + 133) ∧ IsSt sh (b + 1) ∧ IsSt sh (b + 17) ∧ IsHi sh (b + 33) ∧ IsPl sh (b + 115) ∧ sh.2.1 (b + 133) = 6 ∧ sh.2.2.1 (b + 133) = 5
theorem IsSH.i {sh : Sh} {q : Nat} (h : IsSH sh q) : q < sh.1 := by have := h.1; omega
theorem IsSH.k {sh : Sh} {q : Nat} (h : IsSH sh q) : sh.2.1 q = 4 := h.2.1
theorem IsSH.r0 {sh : Sh} {q : Nat} (h : IsSH sh q) : sh.2.2.2 q 0 = some (q + 1) := h.2.2.1
theorem IsSH.r1 {sh : Sh} {q : Nat} (h : IsSH sh q) : sh.2.2.2 q 1 = some (q + 17) := h.2.2.2.1
theorem IsSH.r2 {sh : Sh} {q : Nat} (h : IsSH sh q) : sh.2.2.2 q 2 = some (q + 33) := h.2.2.2.2.1
theorem IsSH.r3 {sh : Sh} {q : Nat} (h : IsSH sh q) : sh.2.2.2 q 3 = some (q + 115) := h.2.2.2.2.2.1
theorem IsSH.r4 {sh : Sh} {q : Nat} (h : IsSH sh q) : sh.2.2.2 q 4 = some (q + 133) := h.2.2.2.2.2.2.1
theorem IsSH.st {sh : Sh} {q : Nat} (h : IsSH sh q) : IsSt sh (q + 1) := h.2.2.2.2.2.2.2.1
theorem IsSH.sp {sh : Sh} {q : Nat} (h : IsSH sh q) : IsSt sh (q + 17) := h.2.2.2.2.2.2.2.2.1
theorem IsSH.hi {sh : Sh} {q : Nat} (h : IsSH sh q) : IsHi sh (q + 33) := h.2.2.2.2.2.2.2.2.2.1
theorem IsSH.pl {sh : Sh} {q : Nat} (h : IsSH sh q) : IsPl sh (q + 115) := h.2.2.2.2.2.2.2.2.2.2.1
theorem IsSH.k4 {sh : Sh} {q : Nat} (h : IsSH sh q) : sh.2.1 (q + 133) = 6 := h.2.2.2.2.2.2.2.2.2.2.2.1
theorem IsSH.n4 {sh : Sh} {q : Nat} (h : IsSH sh q) : sh.2.2.1 (q + 133) = 5 := h.2.2.2.2.2.2.2.2.2.2.2.2
theorem IsSH.i4 {sh : Sh} {q : Nat} (h : IsSH sh q) : q + 133 < sh.1 := by have := h.1; omega
theorem IsSH.L4 {sh : Sh} {q : Nat} (h : IsSH sh q) : sh.2.2.1 (q + 133) < 2 ^ 31 := by rw [h.n4]; decide
def moF (j : Nat) : Nat := match j with
  | 0 => 0
  | 1 => 1
  | 2 => 3
  | 3 => 4
  | 4 => 8
  | 5 => 11
  | _ => 12
def moL (j : Nat) : Nat := match j with
  | 0 => 1724
  | 1 => 8620
  | 2 => 1724
  | 3 => 100
  | 4 => 5
  | 5 => 5
  | _ => 140
def b01 (p : Prop) [Decidable p] : Int32 := if p then 1 else 0
theorem b01_t {p : Prop} [Decidable p] (h : p) : b01 p = 1 := if_pos h
theorem b01_f {p : Prop} [Decidable p] (h : ¬ p) : b01 p = 0 := if_neg h
theorem b01_01 {p : Prop} [Decidable p] : b01 p = 0 ∨ b01 p = 1 := by by_cases h : p <;> simp [b01, h]
noncomputable def b01c (p : Prop) : Int32 := @ite _ p (Classical.propDecidable p) 1 0
theorem b01c_t {p : Prop} (h : p) : b01c p = nI 1 := if_pos h
theorem b01c_f {p : Prop} (h : ¬ p) : b01c p = nI 0 := if_neg h
theorem b01c_01 {p : Prop} : b01c p = 0 ∨ b01c p = 1 := by by_cases h : p <;> simp [b01c, h]
def sm (f : Nat → Int32) : Nat → Int32
  | 0 => 0
  | n + 1 => sm f n + f n
theorem up_eq {C : Mem} {a j : Nat} {x : Int32} : up C a j x a j = x := by simp [up, upd]
theorem up_ne {C : Mem} {a b j : Nat} {x : Int32} (h : b ≠ a) : up C a j x b = C b := by simp [up, h]
theorem up_ne2 {C : Mem} {a i j : Nat} {x : Int32} (h : i ≠ j) : up C a j x a i = C a i := by simp [up, upd, h]
theorem vin {x : Int32} {n : Nat} (h0 : 0 ≤ x.toInt) (h1 : x.toInt < n) : vp_in x n := vp_in_iff.mpr ⟨h0, h1⟩
/-- the index that a value is -/
abbrev ixN (x : Int32) : Nat := x.toNatClampNeg
theorem hd_eq {x x2 : Int32} (h : x = x2) : some (some (Sum.inl x : AV)) = some (some (Sum.inl x2)) := by rw [h]
theorem zw_icmp_ge_n {y : MI} {d pc : Nat} {ls : List (Option AV)} {stk : List AV} {sh sh' : Sh} {C C' : Mem} {r : Option AV} {a b tgt : Nat} {off : Int} (hd : decode y.2.1 pc = .ok (.if_icmp .ge off, 3)) (ht : (pc : Int) + off = (tgt : Int)) (ha : a < 2 ^ 31) (hb : b < 2 ^ 31) (kt : b ≤ a → WP y d 0 0 tgt ls stk sh C r sh' C') (kf : a < b → WP y d 0 0 (pc + 3) ls stk sh C r sh' C') : WP y d 0 0 pc ls (.inl (nI b) :: .inl (nI a) :: stk) sh C r sh' C' :=
  zw_icmp_ge hd ht (fun q => kt (Nat.le_of_not_lt (fun z => q ((nI_ltI ha hb).mpr z)))) (fun q => kf ((nI_ltI ha hb).mp q))
theorem zw_icmp_lt_n {y : MI} {d pc : Nat} {ls : List (Option AV)} {stk : List AV} {sh sh' : Sh} {C C' : Mem} {r : Option AV} {a b tgt : Nat} {off : Int} (hd : decode y.2.1 pc = .ok (.if_icmp .lt off, 3)) (ht : (pc : Int) + off = (tgt : Int)) (ha : a < 2 ^ 31) (hb : b < 2 ^ 31) (kt : a < b → WP y d 0 0 tgt ls stk sh C r sh' C') (kf : b ≤ a → WP y d 0 0 (pc + 3) ls stk sh C r sh' C') : WP y d 0 0 pc ls (.inl (nI b) :: .inl (nI a) :: stk) sh C r sh' C' :=
  zw_icmp_lt hd ht (fun q => kt ((nI_ltI ha hb).mp q)) (fun q => kf (Nat.le_of_not_lt (fun z => q ((nI_ltI ha hb).mpr z))))
theorem zw_icmp_gt_n {y : MI} {d pc : Nat} {ls : List (Option AV)} {stk : List AV} {sh sh' : Sh} {C C' : Mem} {r : Option AV} {a b tgt : Nat} {off : Int} (hd : decode y.2.1 pc = .ok (.if_icmp .gt off, 3)) (ht : (pc : Int) + off = (tgt : Int)) (ha : a < 2 ^ 31) (hb : b < 2 ^ 31) (kt : b < a → WP y d 0 0 tgt ls stk sh C r sh' C') (kf : a ≤ b → WP y d 0 0 (pc + 3) ls stk sh C r sh' C') : WP y d 0 0 pc ls (.inl (nI b) :: .inl (nI a) :: stk) sh C r sh' C' :=
  zw_icmp_gt hd ht (fun q => kt ((nI_ltI hb ha).mp q)) (fun q => kf (Nat.le_of_not_lt (fun z => q ((nI_ltI hb ha).mpr z))))
theorem zw_icmp_le_n {y : MI} {d pc : Nat} {ls : List (Option AV)} {stk : List AV} {sh sh' : Sh} {C C' : Mem} {r : Option AV} {a b tgt : Nat} {off : Int} (hd : decode y.2.1 pc = .ok (.if_icmp .le off, 3)) (ht : (pc : Int) + off = (tgt : Int)) (ha : a < 2 ^ 31) (hb : b < 2 ^ 31) (kt : a ≤ b → WP y d 0 0 tgt ls stk sh C r sh' C') (kf : b < a → WP y d 0 0 (pc + 3) ls stk sh C r sh' C') : WP y d 0 0 pc ls (.inl (nI b) :: .inl (nI a) :: stk) sh C r sh' C' :=
  zw_icmp_le hd ht (fun q => kt (Nat.le_of_not_lt (fun z => q ((nI_ltI hb ha).mpr z)))) (fun q => kf ((nI_ltI hb ha).mp q))
theorem zw_icmp_eq_n {y : MI} {d pc : Nat} {ls : List (Option AV)} {stk : List AV} {sh sh' : Sh} {C C' : Mem} {r : Option AV} {a b tgt : Nat} {off : Int} (hd : decode y.2.1 pc = .ok (.if_icmp .eq off, 3)) (ht : (pc : Int) + off = (tgt : Int)) (ha : a < 2 ^ 31) (hb : b < 2 ^ 31) (kt : a = b → WP y d 0 0 tgt ls stk sh C r sh' C') (kf : a ≠ b → WP y d 0 0 (pc + 3) ls stk sh C r sh' C') : WP y d 0 0 pc ls (.inl (nI b) :: .inl (nI a) :: stk) sh C r sh' C' :=
  zw_icmp_eq hd ht (fun q => kt ((nI_eq ha hb).mp q)) (fun q => kf (fun z => q ((nI_eq ha hb).mpr z)))
theorem zw_icmp_ne_n {y : MI} {d pc : Nat} {ls : List (Option AV)} {stk : List AV} {sh sh' : Sh} {C C' : Mem} {r : Option AV} {a b tgt : Nat} {off : Int} (hd : decode y.2.1 pc = .ok (.if_icmp .ne off, 3)) (ht : (pc : Int) + off = (tgt : Int)) (ha : a < 2 ^ 31) (hb : b < 2 ^ 31) (kt : a ≠ b → WP y d 0 0 tgt ls stk sh C r sh' C') (kf : a = b → WP y d 0 0 (pc + 3) ls stk sh C r sh' C') : WP y d 0 0 pc ls (.inl (nI b) :: .inl (nI a) :: stk) sh C r sh' C' :=
  zw_icmp_ne hd ht (fun q => kt (fun z => q ((nI_eq ha hb).mpr z))) (fun q => kf ((nI_eq ha hb).mp q))
theorem zw_if_eq_n {y : MI} {d pc : Nat} {ls : List (Option AV)} {stk : List AV} {sh sh' : Sh} {C C' : Mem} {r : Option AV} {a tgt : Nat} {off : Int} (hd : decode y.2.1 pc = .ok (.ifCond .eq off, 3)) (ht : (pc : Int) + off = (tgt : Int)) (ha : a < 2 ^ 31) (kt : a = 0 → WP y d 0 0 tgt ls stk sh C r sh' C') (kf : a ≠ 0 → WP y d 0 0 (pc + 3) ls stk sh C r sh' C') : WP y d 0 0 pc ls (.inl (nI a) :: stk) sh C r sh' C' := by
  have h1 : nI a = 0 ↔ a = 0 := by rw [← nI_0]; exact nI_eq ha (by decide)
  have h2 : ¬ nI a < 0 := nI_pos ha
  have h3 : 0 ≤ nI a := nI_pos' ha
  have h4 : nI a ≤ 0 ↔ a = 0 := by rw [← nI_0, nI_leI ha (by decide)]; omega
  have h5 : 0 < nI a ↔ 0 < a := by rw [← nI_0]; exact nI_ltI (by decide) ha
  exact zw_if_eq hd ht (fun q => kt (h1.mp q)) (fun q => kf (fun z => q (h1.mpr z)))
theorem zw_if_ne_n {y : MI} {d pc : Nat} {ls : List (Option AV)} {stk : List AV} {sh sh' : Sh} {C C' : Mem} {r : Option AV} {a tgt : Nat} {off : Int} (hd : decode y.2.1 pc = .ok (.ifCond .ne off, 3)) (ht : (pc : Int) + off = (tgt : Int)) (ha : a < 2 ^ 31) (kt : a ≠ 0 → WP y d 0 0 tgt ls stk sh C r sh' C') (kf : a = 0 → WP y d 0 0 (pc + 3) ls stk sh C r sh' C') : WP y d 0 0 pc ls (.inl (nI a) :: stk) sh C r sh' C' := by
  have h1 : nI a = 0 ↔ a = 0 := by rw [← nI_0]; exact nI_eq ha (by decide)
  have h2 : ¬ nI a < 0 := nI_pos ha
  have h3 : 0 ≤ nI a := nI_pos' ha
  have h4 : nI a ≤ 0 ↔ a = 0 := by rw [← nI_0, nI_leI ha (by decide)]; omega
  have h5 : 0 < nI a ↔ 0 < a := by rw [← nI_0]; exact nI_ltI (by decide) ha
  exact zw_if_ne hd ht (fun q => kt (fun z => q (h1.mpr z))) (fun q => kf (h1.mp q))
theorem zw_if_le_n {y : MI} {d pc : Nat} {ls : List (Option AV)} {stk : List AV} {sh sh' : Sh} {C C' : Mem} {r : Option AV} {a tgt : Nat} {off : Int} (hd : decode y.2.1 pc = .ok (.ifCond .le off, 3)) (ht : (pc : Int) + off = (tgt : Int)) (ha : a < 2 ^ 31) (kt : a = 0 → WP y d 0 0 tgt ls stk sh C r sh' C') (kf : 0 < a → WP y d 0 0 (pc + 3) ls stk sh C r sh' C') : WP y d 0 0 pc ls (.inl (nI a) :: stk) sh C r sh' C' := by
  have h1 : nI a = 0 ↔ a = 0 := by rw [← nI_0]; exact nI_eq ha (by decide)
  have h2 : ¬ nI a < 0 := nI_pos ha
  have h3 : 0 ≤ nI a := nI_pos' ha
  have h4 : nI a ≤ 0 ↔ a = 0 := by rw [← nI_0, nI_leI ha (by decide)]; omega
  have h5 : 0 < nI a ↔ 0 < a := by rw [← nI_0]; exact nI_ltI (by decide) ha
  exact zw_if_le hd ht (fun q => kt (Nat.eq_zero_of_not_pos (fun z => q (h5.mpr z)))) (fun q => kf (h5.mp q))
theorem zw_if_gt_n {y : MI} {d pc : Nat} {ls : List (Option AV)} {stk : List AV} {sh sh' : Sh} {C C' : Mem} {r : Option AV} {a tgt : Nat} {off : Int} (hd : decode y.2.1 pc = .ok (.ifCond .gt off, 3)) (ht : (pc : Int) + off = (tgt : Int)) (ha : a < 2 ^ 31) (kt : 0 < a → WP y d 0 0 tgt ls stk sh C r sh' C') (kf : a = 0 → WP y d 0 0 (pc + 3) ls stk sh C r sh' C') : WP y d 0 0 pc ls (.inl (nI a) :: stk) sh C r sh' C' := by
  have h1 : nI a = 0 ↔ a = 0 := by rw [← nI_0]; exact nI_eq ha (by decide)
  have h2 : ¬ nI a < 0 := nI_pos ha
  have h3 : 0 ≤ nI a := nI_pos' ha
  have h4 : nI a ≤ 0 ↔ a = 0 := by rw [← nI_0, nI_leI ha (by decide)]; omega
  have h5 : 0 < nI a ↔ 0 < a := by rw [← nI_0]; exact nI_ltI (by decide) ha
  exact zw_if_gt hd ht (fun q => kt (h5.mp q)) (fun q => kf (Nat.eq_zero_of_not_pos (fun z => q (h5.mpr z))))
theorem zw_if_lt_n {y : MI} {d pc : Nat} {ls : List (Option AV)} {stk : List AV} {sh sh' : Sh} {C C' : Mem} {r : Option AV} {a tgt : Nat} {off : Int} (hd : decode y.2.1 pc = .ok (.ifCond .lt off, 3)) (ht : (pc : Int) + off = (tgt : Int)) (ha : a < 2 ^ 31) (kt : False → WP y d 0 0 tgt ls stk sh C r sh' C') (kf : True → WP y d 0 0 (pc + 3) ls stk sh C r sh' C') : WP y d 0 0 pc ls (.inl (nI a) :: stk) sh C r sh' C' := by
  have h1 : nI a = 0 ↔ a = 0 := by rw [← nI_0]; exact nI_eq ha (by decide)
  have h2 : ¬ nI a < 0 := nI_pos ha
  have h3 : 0 ≤ nI a := nI_pos' ha
  have h4 : nI a ≤ 0 ↔ a = 0 := by rw [← nI_0, nI_leI ha (by decide)]; omega
  have h5 : 0 < nI a ↔ 0 < a := by rw [← nI_0]; exact nI_ltI (by decide) ha
  exact zw_if_lt hd ht (fun q => absurd q h2) (fun _ => kf trivial)
theorem zw_if_ge_n {y : MI} {d pc : Nat} {ls : List (Option AV)} {stk : List AV} {sh sh' : Sh} {C C' : Mem} {r : Option AV} {a tgt : Nat} {off : Int} (hd : decode y.2.1 pc = .ok (.ifCond .ge off, 3)) (ht : (pc : Int) + off = (tgt : Int)) (ha : a < 2 ^ 31) (kt : True → WP y d 0 0 tgt ls stk sh C r sh' C') (kf : False → WP y d 0 0 (pc + 3) ls stk sh C r sh' C') : WP y d 0 0 pc ls (.inl (nI a) :: stk) sh C r sh' C' := by
  have h1 : nI a = 0 ↔ a = 0 := by rw [← nI_0]; exact nI_eq ha (by decide)
  have h2 : ¬ nI a < 0 := nI_pos ha
  have h3 : 0 ≤ nI a := nI_pos' ha
  have h4 : nI a ≤ 0 ↔ a = 0 := by rw [← nI_0, nI_leI ha (by decide)]; omega
  have h5 : 0 < nI a ↔ 0 < a := by rw [← nI_0]; exact nI_ltI (by decide) ha
  exact zw_if_ge hd ht (fun _ => kt trivial) (fun q => absurd q h2)
theorem zw_if_eq_b {y : MI} {d pc : Nat} {ls : List (Option AV)} {stk : List AV} {sh sh' : Sh} {C C' : Mem} {r : Option AV} {p : Prop} [Decidable p] {tgt : Nat} {off : Int} (hd : decode y.2.1 pc = .ok (.ifCond .eq off, 3)) (ht : (pc : Int) + off = (tgt : Int)) (kt : ¬ p → WP y d 0 0 tgt ls stk sh C r sh' C') (kf : p → WP y d 0 0 (pc + 3) ls stk sh C r sh' C') : WP y d 0 0 pc ls (.inl (b01 p) :: stk) sh C r sh' C' := by
  have h1 : b01 p = 0 ↔ ¬ p := by by_cases h : p <;> simp [b01, h]
  exact zw_if_eq hd ht (fun q => kt (h1.mp q)) (fun q => kf (Classical.not_not.mp (fun z => q (h1.mpr z))))
theorem zw_if_ne_b {y : MI} {d pc : Nat} {ls : List (Option AV)} {stk : List AV} {sh sh' : Sh} {C C' : Mem} {r : Option AV} {p : Prop} [Decidable p] {tgt : Nat} {off : Int} (hd : decode y.2.1 pc = .ok (.ifCond .ne off, 3)) (ht : (pc : Int) + off = (tgt : Int)) (kt : p → WP y d 0 0 tgt ls stk sh C r sh' C') (kf : ¬ p → WP y d 0 0 (pc + 3) ls stk sh C r sh' C') : WP y d 0 0 pc ls (.inl (b01 p) :: stk) sh C r sh' C' := by
  have h1 : b01 p = 0 ↔ ¬ p := by by_cases h : p <;> simp [b01, h]
  exact zw_if_ne hd ht (fun q => kt (Classical.not_not.mp (fun z => q (h1.mpr z)))) (fun q => kf (h1.mp q))
theorem zw_if_eq_c {y : MI} {d pc : Nat} {ls : List (Option AV)} {stk : List AV} {sh sh' : Sh} {C C' : Mem} {r : Option AV} {p : Prop} {tgt : Nat} {off : Int} (hd : decode y.2.1 pc = .ok (.ifCond .eq off, 3)) (ht : (pc : Int) + off = (tgt : Int)) (kt : ¬ p → WP y d 0 0 tgt ls stk sh C r sh' C') (kf : p → WP y d 0 0 (pc + 3) ls stk sh C r sh' C') : WP y d 0 0 pc ls (.inl (b01c p) :: stk) sh C r sh' C' := by
  have h1 : b01c p = 0 ↔ ¬ p := by by_cases h : p <;> simp [b01c, h]
  exact zw_if_eq hd ht (fun q => kt (h1.mp q)) (fun q => kf (Classical.not_not.mp (fun z => q (h1.mpr z))))
theorem zw_if_ne_c {y : MI} {d pc : Nat} {ls : List (Option AV)} {stk : List AV} {sh sh' : Sh} {C C' : Mem} {r : Option AV} {p : Prop} {tgt : Nat} {off : Int} (hd : decode y.2.1 pc = .ok (.ifCond .ne off, 3)) (ht : (pc : Int) + off = (tgt : Int)) (kt : p → WP y d 0 0 tgt ls stk sh C r sh' C') (kf : ¬ p → WP y d 0 0 (pc + 3) ls stk sh C r sh' C') : WP y d 0 0 pc ls (.inl (b01c p) :: stk) sh C r sh' C' := by
  have h1 : b01c p = 0 ↔ ¬ p := by by_cases h : p <;> simp [b01c, h]
  exact zw_if_ne hd ht (fun q => kt (Classical.not_not.mp (fun z => q (h1.mpr z)))) (fun q => kf (h1.mp q))
theorem zw_cVi {y : MI} {d pc : Nat} {ls : List (Option AV)} {stk : List AV} {sh sh' : Sh} {C C' : Mem} {r : Option AV} {y2 : MI} {d2 idx : Nat} {args2 : List AV} {stk0 : List AV} {C2 : Mem} {i ci : Nat} {x : Int32} (hd : decode y.2.1 pc = .ok (.invokevirtual idx, 3)) (hc2 : Calls y2 d2 0 0 (.inr (some i) :: args2) sh C (some (.inl x)) sh C2) (hstk : stk0 = args2.reverse ++ .inr (some i) :: stk) (hok : okV y2 args2.length) (hlw : Cond.methodLink y.1.cls idx y2.1 ∈ zWS) (hi : i < sh.1) (hk : sh.2.1 i = ci) (hci : ci < 5) (hcl : RK ci = y2.1.cls) (hR : d2 + 1 ≤ d) (hst : stk.length ≤ 8) (kk : WP y d 0 0 (pc + 3) ls (.inl x :: stk) sh C2 r sh' C') : WP y d 0 0 pc ls stk0 sh C r sh' C' :=
  zw_invV (k3 := 0) (n3 := 0) hd hok hlw hi hk hci hcl hR hstk hst rfl rfl rfl hc2 kk
theorem zw_cSi {y : MI} {d pc : Nat} {ls : List (Option AV)} {stk : List AV} {sh sh' : Sh} {C C' : Mem} {r : Option AV} {y2 : MI} {d2 idx : Nat} {args2 : List AV} {stk0 : List AV} {C2 : Mem} {x : Int32} (hd : decode y.2.1 pc = .ok (.invokestatic idx, 3)) (hc2 : Calls y2 d2 0 0 args2 sh C (some (.inl x)) sh C2) (hstk : stk0 = args2.reverse ++ stk) (hok : okS y2 args2.length) (hlw : Cond.methodLink y.1.cls idx y2.1 ∈ zWS) (hR : d2 + 1 ≤ d) (hst : stk.length ≤ 8) (kk : WP y d 0 0 (pc + 3) ls (.inl x :: stk) sh C2 r sh' C') : WP y d 0 0 pc ls stk0 sh C r sh' C' :=
  zw_invS (k3 := 0) (n3 := 0) hd hok hlw hR hstk hst rfl rfl rfl hc2 kk
theorem zw_cNi {y : MI} {d pc : Nat} {ls : List (Option AV)} {stk : List AV} {sh sh' : Sh} {C C' : Mem} {r : Option AV} {y2 : MI} {d2 idx : Nat} {args2 : List AV} {stk0 : List AV} {C2 : Mem} {x : Int32} (hd : decode y.2.1 pc = .ok (.invokestatic idx, 3)) (hc2 : Calls y2 d2 0 0 args2 sh C (some (.inl x)) sh C2) (hstk : stk0 = args2.reverse ++ stk) (hok : okS y2 args2.length) (hlw : Cond.methodLinkNest y.1.cls idx y2.1 "SilenceHours" ∈ nestWs) (hR : d2 + 1 ≤ d) (hst : stk.length ≤ 8) (kk : WP y d 0 0 (pc + 3) ls (.inl x :: stk) sh C2 r sh' C') : WP y d 0 0 pc ls stk0 sh C r sh' C' :=
  zw_invSN (k3 := 0) (n3 := 0) hd hok hlw hR hstk hst rfl rfl rfl hc2 kk
theorem zw_cVv {y : MI} {d pc : Nat} {ls : List (Option AV)} {stk : List AV} {sh sh' : Sh} {C C' : Mem} {r : Option AV} {y2 : MI} {d2 idx : Nat} {args2 : List AV} {stk0 : List AV} {C2 : Mem} {i ci : Nat}  (hd : decode y.2.1 pc = .ok (.invokevirtual idx, 3)) (hc2 : Calls y2 d2 0 0 (.inr (some i) :: args2) sh C none sh C2) (hstk : stk0 = args2.reverse ++ .inr (some i) :: stk) (hok : okV y2 args2.length) (hlw : Cond.methodLink y.1.cls idx y2.1 ∈ zWS) (hi : i < sh.1) (hk : sh.2.1 i = ci) (hci : ci < 5) (hcl : RK ci = y2.1.cls) (hR : d2 + 1 ≤ d) (hst : stk.length ≤ 8) (kk : WP y d 0 0 (pc + 3) ls stk sh C2 r sh' C') : WP y d 0 0 pc ls stk0 sh C r sh' C' :=
  zw_invV (k3 := 0) (n3 := 0) hd hok hlw hi hk hci hcl hR hstk hst rfl rfl rfl hc2 kk
theorem zw_cSv {y : MI} {d pc : Nat} {ls : List (Option AV)} {stk : List AV} {sh sh' : Sh} {C C' : Mem} {r : Option AV} {y2 : MI} {d2 idx : Nat} {args2 : List AV} {stk0 : List AV} {C2 : Mem}  (hd : decode y.2.1 pc = .ok (.invokestatic idx, 3)) (hc2 : Calls y2 d2 0 0 args2 sh C none sh C2) (hstk : stk0 = args2.reverse ++ stk) (hok : okS y2 args2.length) (hlw : Cond.methodLink y.1.cls idx y2.1 ∈ zWS) (hR : d2 + 1 ≤ d) (hst : stk.length ≤ 8) (kk : WP y d 0 0 (pc + 3) ls stk sh C2 r sh' C') : WP y d 0 0 pc ls stk0 sh C r sh' C' :=
  zw_invS (k3 := 0) (n3 := 0) hd hok hlw hR hstk hst rfl rfl rfl hc2 kk
theorem zw_cNv {y : MI} {d pc : Nat} {ls : List (Option AV)} {stk : List AV} {sh sh' : Sh} {C C' : Mem} {r : Option AV} {y2 : MI} {d2 idx : Nat} {args2 : List AV} {stk0 : List AV} {C2 : Mem}  (hd : decode y.2.1 pc = .ok (.invokestatic idx, 3)) (hc2 : Calls y2 d2 0 0 args2 sh C none sh C2) (hstk : stk0 = args2.reverse ++ stk) (hok : okS y2 args2.length) (hlw : Cond.methodLinkNest y.1.cls idx y2.1 "SilenceHours" ∈ nestWs) (hR : d2 + 1 ≤ d) (hst : stk.length ≤ 8) (kk : WP y d 0 0 (pc + 3) ls stk sh C2 r sh' C') : WP y d 0 0 pc ls stk0 sh C r sh' C' :=
  zw_invSN (k3 := 0) (n3 := 0) hd hok hlw hR hstk hst rfl rfl rfl hc2 kk
theorem nl_X4_11 : Cond.methodLinkNest RX4 11 yX3_init "SilenceHours" ∈ nestWs := List.mem_of_getElem? (i := 0) rfl
theorem nl_X0_17 : Cond.methodLinkNest RX0 17 yX3_init "SilenceHours" ∈ nestWs := List.mem_of_getElem? (i := 1) rfl
theorem nl_X2_28 : Cond.methodLinkNest RX2 28 yX1_init "SilenceHours" ∈ nestWs := List.mem_of_getElem? (i := 2) rfl
theorem nl_X3_80 : Cond.methodLinkNest RX3 80 yX4_isWithin "SilenceHours" ∈ nestWs := List.mem_of_getElem? (i := 3) rfl
theorem nl_X3_116 : Cond.methodLinkNest RX3 116 yX4_otherSide "SilenceHours" ∈ nestWs := List.mem_of_getElem? (i := 4) rfl
theorem nl_X3_156 : Cond.methodLinkNest RX3 156 yX4_slotAt "SilenceHours" ∈ nestWs := List.mem_of_getElem? (i := 5) rfl
theorem nl_X2_109 : Cond.methodLinkNest RX2 109 yX4_isWithin "SilenceHours" ∈ nestWs := List.mem_of_getElem? (i := 6) rfl
theorem nl_X2_103 : Cond.methodLinkNest RX2 103 yX4_isStreet "SilenceHours" ∈ nestWs := List.mem_of_getElem? (i := 7) rfl
