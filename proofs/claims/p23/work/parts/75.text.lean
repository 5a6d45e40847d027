/-! THE LAW'S METHODS: plans. The text that it writes, as the class reads it. -/
def ptx (k sd st h : Nat) (j : Nat) : Int32 := if j = 0 then nI (48 + k) else if j = 1 then nI 42 else if j = 2 then nI 40 else if j = 3 then (if sd = 0 then nI 113 else nI 110) else if j = 4 then nI (48 + st) else if j = 5 then nI 58 else if j = 6 then nI (48 + h) else if j = 7 then nI 61 else if j = 8 then nI 51 else if j = 9 then nI 59 else nI 41
abbrev lexF (g : Nat → Int32) (k sd st h : Nat) : Prop := (¬ g 0 = nI 41 ∧ ¬ g 0 = nI 40 ∧ isD (g 0)) ∧ tnF g (nI 2) (nI 9) (0, -1) = ((1, -1), nI k) ∧ lTK g (nI 42) (1, -1) = (2, -1) ∧ ogl g (2, -1) 0 = (3, -1) ∧ (¬ g 3 = nI 41 ∧ ¬ g 3 = nI 40 ∧ ¬ isD (g 3)) ∧ rb2 g (3, -1) = (4, -1) ∧ rb10 g (4, -1) = (10, -1) ∧ (if lTI g (nI 113) (3, -1) then nI 0 else nI 1) = nI sd ∧ g 4 - nI 48 = nI st ∧ (rb5 g (4, -1)).2 = nI h ∧ (rb7 g (4, -1)).2 = nI h ∧ (rb9 g (4, -1)).2 = nI 3 ∧ g 10 = nI 41 ∧ lTK g (nI 41) (10, -1) = (11, -1)
def lexB (g : Nat → Int32) (k sd st h : Nat) : Bool := decide ((¬ g 0 = nI 41 ∧ ¬ g 0 = nI 40 ∧ isD (g 0))) && (decide (tnF g (nI 2) (nI 9) (0, -1) = ((1, -1), nI k)) && (decide (lTK g (nI 42) (1, -1) = (2, -1)) && (decide (ogl g (2, -1) 0 = (3, -1)) && (decide ((¬ g 3 = nI 41 ∧ ¬ g 3 = nI 40 ∧ ¬ isD (g 3))) && (decide (rb2 g (3, -1) = (4, -1)) && (decide (rb10 g (4, -1) = (10, -1)) && (decide ((if lTI g (nI 113) (3, -1) then nI 0 else nI 1) = nI sd) && (decide (g 4 - nI 48 = nI st) && (decide ((rb5 g (4, -1)).2 = nI h) && (decide ((rb7 g (4, -1)).2 = nI h) && (decide ((rb9 g (4, -1)).2 = nI 3) && (decide (g 10 = nI 41) && (decide (lTK g (nI 41) (10, -1) = (11, -1)))))))))))))))
theorem lexF_of {g : Nat → Int32} {k sd st h : Nat} (hb : lexB g k sd st h = true) : lexF g k sd st h := by
  unfold lexB at hb
  simpa only [Bool.and_eq_true, decide_eq_true_eq] using hb
theorem lexB_11 : ∀ k, k < 10 → 2 ≤ k → ∀ sd, sd < 2 → ∀ st, st < 4 → ∀ h, h < 10 → lexB (gF 11 (ptx k sd st h)) k sd st h = true := by decide +kernel
theorem lexB_12 : ∀ k, k < 10 → 2 ≤ k → ∀ sd, sd < 2 → ∀ st, st < 4 → ∀ h, h < 10 → lexB (gF 12 (ptx k sd st h)) k sd st h = true := by decide +kernel
theorem lex11 {k sd st h : Nat} (h1 : k < 10) (h2 : 2 ≤ k) (h3 : sd < 2) (h4 : st < 4) (h5 : h < 10) : lexF (gF 11 (ptx k sd st h)) k sd st h := lexF_of (lexB_11 k h1 h2 sd h3 st h4 h h5)
theorem lex12 {k sd st h : Nat} (h1 : k < 10) (h2 : 2 ≤ k) (h3 : sd < 2) (h4 : st < 4) (h5 : h < 10) : lexF (gF 12 (ptx k sd st h)) k sd st h ∧ gF 12 (ptx k sd st h) 11 = nI 41 := ⟨lexF_of (lexB_12 k h1 h2 sd h3 st h4 h h5), rfl⟩
section
variable {C : Mem} {q len k sd st h n : Nat} {g : Nat → Int32}
/-- the three pieces -/
theorem rd_1 (hl : lexF g k sd st h) (hf : C (q + 3) 0 = nI 1) : rpF q g (C, (0, -1), 0, 0) = (up C (q + 3) 1 (nI k), (3, -1), 1, 0) := by
  obtain ⟨⟨a1, a2, a3⟩, b1, b2, b3, -⟩ := hl
  show (if g 0 = nI 41 then _ else if g 0 = nI 40 then _ else if isD (g 0) then (ogM C q g (lTK g (nI 42) (tnF g (nI 2) (nI 9) (0, -1)).1) 0 (tnF g (nI 2) (nI 9) (0, -1)).2, ogl g (lTK g (nI 42) (tnF g (nI 2) (nI 9) (0, -1)).1) 0, ogD g (lTK g (nI 42) (tnF g (nI 2) (nI 9) (0, -1)).1) 0, 0) else _) = _
  rw [if_neg a1, if_neg a2, if_pos a3, b1, b2]
  unfold ogM ogD
  rw [b3, if_pos rfl, if_pos rfl, hf, nI_mul, Nat.one_mul]
theorem rd_2 (hl : lexF g k sd st h) (hf : C (q + 3) 1 = nI k) : rpF q g (C, (3, -1), 1, 0) = (rbW C q g (3, -1) 1 0, (10, -1), 1, 1) := by
  obtain ⟨-, -, -, -, ⟨a1, a2, a3⟩, b1, b2, -⟩ := hl
  show (if g 3 = nI 41 then _ else if g 3 = nI 40 then _ else if isD (g 3) then _ else (rbM C q g (3, -1) 1 0, rb10 g (rb2 g (3, -1)), 1, rbN g (3, -1) 0)) = _
  rw [if_neg a1, if_neg a2, if_neg a3]
  unfold rbM rbN
  rw [b1, b2, if_pos ⟨rfl, by decide⟩, if_pos ⟨rfl, by decide⟩]
theorem rbW_v (hl : lexF g k sd st h) (hf : C (q + 3) 1 = nI k) : rbW C q g (3, -1) 1 0 = up (up (up (up (up (up (up C (q + 4) 0 (nI 3)) (q + 4) 1 (nI 1)) (q + 4) 2 (nI sd)) (q + 4) 3 (nI st)) (q + 4) 4 (nI h)) (q + 4) 5 (nI h)) (q + 4) 6 (nI (3 * k)) := by
  obtain ⟨-, -, -, -, -, b1, -, c1, c2, c3, c4, c5, -⟩ := hl
  show up (up (up (up (up (up (up C (q + 4 + 0) 0 (nI 3)) (q + 4 + 0) 1 (nI 1)) (q + 4 + 0) 2 (if lTI g (nI 113) (3, -1) then nI 0 else nI 1)) (q + 4 + 0) 3 (g (rb2 g (3, -1)).1 - nI 48)) (q + 4 + 0) 4 (rb5 g (rb2 g (3, -1))).2) (q + 4 + 0) 5 (rb7 g (rb2 g (3, -1))).2) (q + 4 + 0) 6 ((rb9 g (rb2 g (3, -1))).2 * C (q + 3) 1) = _
  rw [b1, c1, c3, c4, c5, hf, nI_mul]
  show up (up (up (up (up (up (up C (q + 4) 0 (nI 3)) (q + 4) 1 (nI 1)) (q + 4) 2 (nI sd)) (q + 4) 3 (g 4 - nI 48)) (q + 4) 4 (nI h)) (q + 4) 5 (nI h)) (q + 4) 6 (nI (3 * k)) = _
  rw [c2]
theorem rd_3 (hl : lexF g k sd st h) : rpF q g (C, (10, -1), 1, 1) = (C, (11, -1), 0, 1) := by
  obtain ⟨-, -, -, -, -, -, -, -, -, -, -, -, c1, c2⟩ := hl
  show (if g 10 = nI 41 then (C, cgl g (10, -1) 1, 1 - 1, 1) else _) = _
  rw [if_pos c1]
  unfold cgl
  rw [if_pos (by decide), c2]
theorem rd_4 (hl : g 11 = nI 41) : rpF q g (C, (11, -1), 0, 1) = (C, (11, nI 11), 0, 1) := by
  show (if g 11 = nI 41 then (C, cgl g (11, -1) 0, 0 - 1, 1) else _) = _
  rw [if_pos hl]
  rfl
/-- the memory behind the reading -/
def rdW (C : Mem) (q k sd st h : Nat) : Mem := up (up (up (up (up (up (up (up C (q + 3) 1 (nI k)) (q + 4) 0 (nI 3)) (q + 4) 1 (nI 1)) (q + 4) 2 (nI sd)) (q + 4) 3 (nI st)) (q + 4) 4 (nI h)) (q + 4) 5 (nI h)) (q + 4) 6 (nI (3 * k))
theorem rt_3 (hl : lexF g k sd st h) (hf : C (q + 3) 0 = nI 1) (hlen : 10 < len) : rtL q len g 100 (rt0 C) = rtL q len g 97 (rdW C q k sd st h, (11, -1), 0, 1) := by
  have e1 : rtL q len g 100 (rt0 C) = rtL q len g 99 (rpF q g (C, (0, -1), 0, 0)) := rtL_go (n := 99) (t := (C, (0, -1), 0, 0)) (show 0 < len by omega) rfl
  rw [e1, rd_1 hl hf]
  have e2 : rtL q len g 99 (up C (q + 3) 1 (nI k), (3, -1), 1, 0) = rtL q len g 98 (rpF q g (up C (q + 3) 1 (nI k), (3, -1), 1, 0)) := rtL_go (n := 98) (t := (up C (q + 3) 1 (nI k), (3, -1), 1, 0)) (show 3 < len by omega) rfl
  rw [e2, rd_2 hl up_eq, rbW_v hl up_eq]
  have e3 : ∀ C, rtL q len g 98 (C, (10, -1), 1, 1) = rtL q len g 97 (rpF q g (C, (10, -1), 1, 1)) := fun C => rtL_go (n := 97) (t := (C, (10, -1), 1, 1)) hlen rfl
  rw [e3, rd_3 hl]
  rfl
theorem rt_11 {tx : Nat → Int32} (hl : lexF (gF 11 tx) k sd st h) (hf : C (q + 3) 0 = nI 1) : rtR q 11 tx C = (rdW C q k sd st h, (11, -1), 0, 1) := by
  show rtL q 11 (gF 11 tx) 100 (rt0 C) = _
  rw [rt_3 hl hf (by decide)]
  exact rtL_stop (n := 96) (fun z => absurd z.1 (Nat.lt_irrefl 11))
theorem rt_12 {tx : Nat → Int32} (hl : lexF (gF 12 tx) k sd st h) (h4 : gF 12 tx 11 = nI 41) (hf : C (q + 3) 0 = nI 1) : rtR q 12 tx C = (rdW C q k sd st h, (11, nI 11), 0, 1) := by
  show rtL q 12 (gF 12 tx) 100 (rt0 C) = _
  rw [rt_3 hl hf (by decide)]
  have e4 : rtL q 12 (gF 12 tx) 97 (rdW C q k sd st h, (11, -1), 0, 1) = rtL q 12 (gF 12 tx) 96 (rpF q (gF 12 tx) (rdW C q k sd st h, (11, -1), 0, 1)) := rtL_go (n := 96) (t := (rdW C q k sd st h, (11, -1), 0, 1)) (show 11 < 12 by decide) rfl
  rw [e4, rd_4 h4]
  exact rtL_stop (n := 95) (fun z => absurd z.2 (show ¬ nI 11 = -1 by decide))
end
