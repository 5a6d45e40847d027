/-! ROWS OF NUMBERS, ONE PLACE AT A TIME: the class's state and the reference's row keep step. -/
def gu (g : Nat → Int32) (j : Nat) (x : Int32) : Nat → Int32 := fun i => if i = j then x else g i
theorem gu_eq {g : Nat → Int32} {j : Nat} {x : Int32} : gu g j x j = x := if_pos rfl
theorem gu_ne {g : Nat → Int32} {i j : Nat} {x : Int32} (h : i ≠ j) : gu g j x i = g i := if_neg h
theorem up_gu {D : Mem} {a j : Nat} {x : Int32} : up D a j x a = gu (D a) j x := by
  funext i
  by_cases h : i = j
  · subst h; rw [up_eq, gu_eq]
  · rw [up_ne2 h, gu_ne h]
theorem ptw {C : Mem} {g : Nat → Int32} {a j b i k l : Nat} {x : Int32} (h : C b i = g k) (e : (b = a ∧ i = j) ↔ k = l) : up C a j x b i = gu g l x k := by
  by_cases hk : k = l
  · obtain ⟨h1, h2⟩ := e.mpr hk
    rw [h1, h2, hk, up_eq, gu_eq]
  · rw [gu_ne hk]
    have hn : ¬ (b = a ∧ i = j) := fun z => hk (e.mp z)
    by_cases hb : b = a
    · subst hb
      rw [up_ne2 (fun z => hn ⟨rfl, z⟩)]
      exact h
    · rw [up_ne hb]
      exact h
theorem RowEq.u0 {C : Mem} {q : Nat} {g : Nat → Int32} {x : Int32}  (h : RowEq C q g) : RowEq (up C q 0 x) q (gu g (0) x) := by
  obtain ⟨⟨b1, b2, b3, b4⟩, a2, a3, a4, a5, a6⟩ := h
  refine ⟨⟨ptw b1 (by omega), ptw b2 (by omega), ptw b3 (by omega), ptw b4 (by omega)⟩, fun r hr => ?_, fun v hv => ?_, fun i hi => ptw (a4 i hi) (by omega), fun r v hr hv => ptw (a5 r v hr hv) (by omega), fun r hr => ?_⟩
  · obtain ⟨c1, c2, c3, c4, c5, c6, c7⟩ := a2 r hr
    exact ⟨ptw c1 (by omega), ptw c2 (by omega), ptw c3 (by omega), ptw c4 (by omega), ptw c5 (by omega), ptw c6 (by omega), ptw c7 (by omega)⟩
  · obtain ⟨c1, c2, c3, c4, c5⟩ := a3 v hv
    refine ⟨ptw c1 (by omega), ptw c2 (by omega), ?_, ptw c4 (by omega), ptw c5 (by omega)⟩
    rw [up_ne (by omega), gu_ne (by omega)]; exact c3
  · rw [up_ne (by omega), hld_c (fun s hs => gu_ne (by omega))]; exact a6 r hr
theorem RowEq.u2 {C : Mem} {q : Nat} {g : Nat → Int32} {x : Int32}  (h : RowEq C q g) : RowEq (up C q 2 x) q (gu g (3) x) := by
  obtain ⟨⟨b1, b2, b3, b4⟩, a2, a3, a4, a5, a6⟩ := h
  refine ⟨⟨ptw b1 (by omega), ptw b2 (by omega), ptw b3 (by omega), ptw b4 (by omega)⟩, fun r hr => ?_, fun v hv => ?_, fun i hi => ptw (a4 i hi) (by omega), fun r v hr hv => ptw (a5 r v hr hv) (by omega), fun r hr => ?_⟩
  · obtain ⟨c1, c2, c3, c4, c5, c6, c7⟩ := a2 r hr
    exact ⟨ptw c1 (by omega), ptw c2 (by omega), ptw c3 (by omega), ptw c4 (by omega), ptw c5 (by omega), ptw c6 (by omega), ptw c7 (by omega)⟩
  · obtain ⟨c1, c2, c3, c4, c5⟩ := a3 v hv
    refine ⟨ptw c1 (by omega), ptw c2 (by omega), ?_, ptw c4 (by omega), ptw c5 (by omega)⟩
    rw [up_ne (by omega), gu_ne (by omega)]; exact c3
  · rw [up_ne (by omega), hld_c (fun s hs => gu_ne (by omega))]; exact a6 r hr
theorem RowEq.w1 {C : Mem} {q : Nat} {g : Nat → Int32} {x : Int32} {p : Nat} (hp : p < 12) (h : RowEq C q g) : RowEq (up C (q + 1) p x) q (gu g (8 + 7 * p + 0) x) := by
  obtain ⟨⟨b1, b2, b3, b4⟩, a2, a3, a4, a5, a6⟩ := h
  refine ⟨⟨ptw b1 (by omega), ptw b2 (by omega), ptw b3 (by omega), ptw b4 (by omega)⟩, fun r hr => ?_, fun v hv => ?_, fun i hi => ptw (a4 i hi) (by omega), fun r v hr hv => ptw (a5 r v hr hv) (by omega), fun r hr => ?_⟩
  · obtain ⟨c1, c2, c3, c4, c5, c6, c7⟩ := a2 r hr
    exact ⟨ptw c1 (by omega), ptw c2 (by omega), ptw c3 (by omega), ptw c4 (by omega), ptw c5 (by omega), ptw c6 (by omega), ptw c7 (by omega)⟩
  · obtain ⟨c1, c2, c3, c4, c5⟩ := a3 v hv
    refine ⟨ptw c1 (by omega), ptw c2 (by omega), ?_, ptw c4 (by omega), ptw c5 (by omega)⟩
    rw [up_ne (by omega), gu_ne (by omega)]; exact c3
  · rw [up_ne (by omega), hld_c (fun s hs => gu_ne (by omega))]; exact a6 r hr
theorem RowEq.w3 {C : Mem} {q : Nat} {g : Nat → Int32} {x : Int32} {p : Nat} (hp : p < 12) (h : RowEq C q g) : RowEq (up C (q + 3) p x) q (gu g (8 + 7 * p + 1) x) := by
  obtain ⟨⟨b1, b2, b3, b4⟩, a2, a3, a4, a5, a6⟩ := h
  refine ⟨⟨ptw b1 (by omega), ptw b2 (by omega), ptw b3 (by omega), ptw b4 (by omega)⟩, fun r hr => ?_, fun v hv => ?_, fun i hi => ptw (a4 i hi) (by omega), fun r v hr hv => ptw (a5 r v hr hv) (by omega), fun r hr => ?_⟩
  · obtain ⟨c1, c2, c3, c4, c5, c6, c7⟩ := a2 r hr
    exact ⟨ptw c1 (by omega), ptw c2 (by omega), ptw c3 (by omega), ptw c4 (by omega), ptw c5 (by omega), ptw c6 (by omega), ptw c7 (by omega)⟩
  · obtain ⟨c1, c2, c3, c4, c5⟩ := a3 v hv
    refine ⟨ptw c1 (by omega), ptw c2 (by omega), ?_, ptw c4 (by omega), ptw c5 (by omega)⟩
    rw [up_ne (by omega), gu_ne (by omega)]; exact c3
  · rw [up_ne (by omega), hld_c (fun s hs => gu_ne (by omega))]; exact a6 r hr
theorem RowEq.w5 {C : Mem} {q : Nat} {g : Nat → Int32} {x : Int32} {p : Nat} (hp : p < 12) (h : RowEq C q g) : RowEq (up C (q + 5) p x) q (gu g (8 + 7 * p + 2) x) := by
  obtain ⟨⟨b1, b2, b3, b4⟩, a2, a3, a4, a5, a6⟩ := h
  refine ⟨⟨ptw b1 (by omega), ptw b2 (by omega), ptw b3 (by omega), ptw b4 (by omega)⟩, fun r hr => ?_, fun v hv => ?_, fun i hi => ptw (a4 i hi) (by omega), fun r v hr hv => ptw (a5 r v hr hv) (by omega), fun r hr => ?_⟩
  · obtain ⟨c1, c2, c3, c4, c5, c6, c7⟩ := a2 r hr
    exact ⟨ptw c1 (by omega), ptw c2 (by omega), ptw c3 (by omega), ptw c4 (by omega), ptw c5 (by omega), ptw c6 (by omega), ptw c7 (by omega)⟩
  · obtain ⟨c1, c2, c3, c4, c5⟩ := a3 v hv
    refine ⟨ptw c1 (by omega), ptw c2 (by omega), ?_, ptw c4 (by omega), ptw c5 (by omega)⟩
    rw [up_ne (by omega), gu_ne (by omega)]; exact c3
  · rw [up_ne (by omega), hld_c (fun s hs => gu_ne (by omega))]; exact a6 r hr
theorem RowEq.w6 {C : Mem} {q : Nat} {g : Nat → Int32} {x : Int32} {p : Nat} (hp : p < 12) (h : RowEq C q g) : RowEq (up C (q + 6) p x) q (gu g (8 + 7 * p + 3) x) := by
  obtain ⟨⟨b1, b2, b3, b4⟩, a2, a3, a4, a5, a6⟩ := h
  refine ⟨⟨ptw b1 (by omega), ptw b2 (by omega), ptw b3 (by omega), ptw b4 (by omega)⟩, fun r hr => ?_, fun v hv => ?_, fun i hi => ptw (a4 i hi) (by omega), fun r v hr hv => ptw (a5 r v hr hv) (by omega), fun r hr => ?_⟩
  · obtain ⟨c1, c2, c3, c4, c5, c6, c7⟩ := a2 r hr
    exact ⟨ptw c1 (by omega), ptw c2 (by omega), ptw c3 (by omega), ptw c4 (by omega), ptw c5 (by omega), ptw c6 (by omega), ptw c7 (by omega)⟩
  · obtain ⟨c1, c2, c3, c4, c5⟩ := a3 v hv
    refine ⟨ptw c1 (by omega), ptw c2 (by omega), ?_, ptw c4 (by omega), ptw c5 (by omega)⟩
    rw [up_ne (by omega), gu_ne (by omega)]; exact c3
  · rw [up_ne (by omega), hld_c (fun s hs => gu_ne (by omega))]; exact a6 r hr
theorem RowEq.w7 {C : Mem} {q : Nat} {g : Nat → Int32} {x : Int32} {p : Nat} (hp : p < 12) (h : RowEq C q g) : RowEq (up C (q + 7) p x) q (gu g (8 + 7 * p + 4) x) := by
  obtain ⟨⟨b1, b2, b3, b4⟩, a2, a3, a4, a5, a6⟩ := h
  refine ⟨⟨ptw b1 (by omega), ptw b2 (by omega), ptw b3 (by omega), ptw b4 (by omega)⟩, fun r hr => ?_, fun v hv => ?_, fun i hi => ptw (a4 i hi) (by omega), fun r v hr hv => ptw (a5 r v hr hv) (by omega), fun r hr => ?_⟩
  · obtain ⟨c1, c2, c3, c4, c5, c6, c7⟩ := a2 r hr
    exact ⟨ptw c1 (by omega), ptw c2 (by omega), ptw c3 (by omega), ptw c4 (by omega), ptw c5 (by omega), ptw c6 (by omega), ptw c7 (by omega)⟩
  · obtain ⟨c1, c2, c3, c4, c5⟩ := a3 v hv
    refine ⟨ptw c1 (by omega), ptw c2 (by omega), ?_, ptw c4 (by omega), ptw c5 (by omega)⟩
    rw [up_ne (by omega), gu_ne (by omega)]; exact c3
  · rw [up_ne (by omega), hld_c (fun s hs => gu_ne (by omega))]; exact a6 r hr
theorem RowEq.w8 {C : Mem} {q : Nat} {g : Nat → Int32} {x : Int32} {p : Nat} (hp : p < 12) (h : RowEq C q g) : RowEq (up C (q + 8) p x) q (gu g (8 + 7 * p + 5) x) := by
  obtain ⟨⟨b1, b2, b3, b4⟩, a2, a3, a4, a5, a6⟩ := h
  refine ⟨⟨ptw b1 (by omega), ptw b2 (by omega), ptw b3 (by omega), ptw b4 (by omega)⟩, fun r hr => ?_, fun v hv => ?_, fun i hi => ptw (a4 i hi) (by omega), fun r v hr hv => ptw (a5 r v hr hv) (by omega), fun r hr => ?_⟩
  · obtain ⟨c1, c2, c3, c4, c5, c6, c7⟩ := a2 r hr
    exact ⟨ptw c1 (by omega), ptw c2 (by omega), ptw c3 (by omega), ptw c4 (by omega), ptw c5 (by omega), ptw c6 (by omega), ptw c7 (by omega)⟩
  · obtain ⟨c1, c2, c3, c4, c5⟩ := a3 v hv
    refine ⟨ptw c1 (by omega), ptw c2 (by omega), ?_, ptw c4 (by omega), ptw c5 (by omega)⟩
    rw [up_ne (by omega), gu_ne (by omega)]; exact c3
  · rw [up_ne (by omega), hld_c (fun s hs => gu_ne (by omega))]; exact a6 r hr
theorem RowEq.w4 {C : Mem} {q : Nat} {g : Nat → Int32} {x : Int32} {p : Nat} (hp : p < 12) (h : RowEq C q g) : RowEq (up C (q + 4) p x) q (gu g (8 + 7 * p + 6) x) := by
  obtain ⟨⟨b1, b2, b3, b4⟩, a2, a3, a4, a5, a6⟩ := h
  refine ⟨⟨ptw b1 (by omega), ptw b2 (by omega), ptw b3 (by omega), ptw b4 (by omega)⟩, fun r hr => ?_, fun v hv => ?_, fun i hi => ptw (a4 i hi) (by omega), fun r v hr hv => ptw (a5 r v hr hv) (by omega), fun r hr => ?_⟩
  · obtain ⟨c1, c2, c3, c4, c5, c6, c7⟩ := a2 r hr
    exact ⟨ptw c1 (by omega), ptw c2 (by omega), ptw c3 (by omega), ptw c4 (by omega), ptw c5 (by omega), ptw c6 (by omega), ptw c7 (by omega)⟩
  · obtain ⟨c1, c2, c3, c4, c5⟩ := a3 v hv
    refine ⟨ptw c1 (by omega), ptw c2 (by omega), ?_, ptw c4 (by omega), ptw c5 (by omega)⟩
    rw [up_ne (by omega), gu_ne (by omega)]; exact c3
  · rw [up_ne (by omega), hld_c (fun s hs => gu_ne (by omega))]; exact a6 r hr
theorem RowEq.s10 {C : Mem} {q : Nat} {g : Nat → Int32} {x : Int32} {s : Nat} (hs : s < 96) (h : RowEq C q g) : RowEq (up C (q + 10) s x) q (gu g (92 + 5 * s + 0) x) := by
  obtain ⟨⟨b1, b2, b3, b4⟩, a2, a3, a4, a5, a6⟩ := h
  refine ⟨⟨ptw b1 (by omega), ptw b2 (by omega), ptw b3 (by omega), ptw b4 (by omega)⟩, fun r hr => ?_, fun v hv => ?_, fun i hi => ptw (a4 i hi) (by omega), fun r v hr hv => ptw (a5 r v hr hv) (by omega), fun r hr => ?_⟩
  · obtain ⟨c1, c2, c3, c4, c5, c6, c7⟩ := a2 r hr
    exact ⟨ptw c1 (by omega), ptw c2 (by omega), ptw c3 (by omega), ptw c4 (by omega), ptw c5 (by omega), ptw c6 (by omega), ptw c7 (by omega)⟩
  · obtain ⟨c1, c2, c3, c4, c5⟩ := a3 v hv
    refine ⟨ptw c1 (by omega), ptw c2 (by omega), ?_, ptw c4 (by omega), ptw c5 (by omega)⟩
    rw [up_ne (by omega), gu_ne (by omega)]; exact c3
  · rw [up_ne (by omega), hld_c (fun s hs => gu_ne (by omega))]; exact a6 r hr
theorem RowEq.s11 {C : Mem} {q : Nat} {g : Nat → Int32} {x : Int32} {s : Nat} (hs : s < 96) (h : RowEq C q g) : RowEq (up C (q + 11) s x) q (gu g (92 + 5 * s + 1) x) := by
  obtain ⟨⟨b1, b2, b3, b4⟩, a2, a3, a4, a5, a6⟩ := h
  refine ⟨⟨ptw b1 (by omega), ptw b2 (by omega), ptw b3 (by omega), ptw b4 (by omega)⟩, fun r hr => ?_, fun v hv => ?_, fun i hi => ptw (a4 i hi) (by omega), fun r v hr hv => ptw (a5 r v hr hv) (by omega), fun r hr => ?_⟩
  · obtain ⟨c1, c2, c3, c4, c5, c6, c7⟩ := a2 r hr
    exact ⟨ptw c1 (by omega), ptw c2 (by omega), ptw c3 (by omega), ptw c4 (by omega), ptw c5 (by omega), ptw c6 (by omega), ptw c7 (by omega)⟩
  · obtain ⟨c1, c2, c3, c4, c5⟩ := a3 v hv
    refine ⟨ptw c1 (by omega), ptw c2 (by omega), ?_, ptw c4 (by omega), ptw c5 (by omega)⟩
    rw [up_ne (by omega), gu_ne (by omega)]; exact c3
  · rw [up_ne (by omega), hld_c (fun s hs => gu_ne (by omega))]; exact a6 r hr
theorem RowEq.s13 {C : Mem} {q : Nat} {g : Nat → Int32} {x : Int32} {s : Nat} (hs : s < 96) (h : RowEq C q g) : RowEq (up C (q + 13) s x) q (gu g (92 + 5 * s + 3) x) := by
  obtain ⟨⟨b1, b2, b3, b4⟩, a2, a3, a4, a5, a6⟩ := h
  refine ⟨⟨ptw b1 (by omega), ptw b2 (by omega), ptw b3 (by omega), ptw b4 (by omega)⟩, fun r hr => ?_, fun v hv => ?_, fun i hi => ptw (a4 i hi) (by omega), fun r v hr hv => ptw (a5 r v hr hv) (by omega), fun r hr => ?_⟩
  · obtain ⟨c1, c2, c3, c4, c5, c6, c7⟩ := a2 r hr
    exact ⟨ptw c1 (by omega), ptw c2 (by omega), ptw c3 (by omega), ptw c4 (by omega), ptw c5 (by omega), ptw c6 (by omega), ptw c7 (by omega)⟩
  · obtain ⟨c1, c2, c3, c4, c5⟩ := a3 v hv
    refine ⟨ptw c1 (by omega), ptw c2 (by omega), ?_, ptw c4 (by omega), ptw c5 (by omega)⟩
    rw [up_ne (by omega), gu_ne (by omega)]; exact c3
  · rw [up_ne (by omega), hld_c (fun s hs => gu_ne (by omega))]; exact a6 r hr
theorem RowEq.s14 {C : Mem} {q : Nat} {g : Nat → Int32} {x : Int32} {s : Nat} (hs : s < 96) (h : RowEq C q g) : RowEq (up C (q + 14) s x) q (gu g (92 + 5 * s + 4) x) := by
  obtain ⟨⟨b1, b2, b3, b4⟩, a2, a3, a4, a5, a6⟩ := h
  refine ⟨⟨ptw b1 (by omega), ptw b2 (by omega), ptw b3 (by omega), ptw b4 (by omega)⟩, fun r hr => ?_, fun v hv => ?_, fun i hi => ptw (a4 i hi) (by omega), fun r v hr hv => ptw (a5 r v hr hv) (by omega), fun r hr => ?_⟩
  · obtain ⟨c1, c2, c3, c4, c5, c6, c7⟩ := a2 r hr
    exact ⟨ptw c1 (by omega), ptw c2 (by omega), ptw c3 (by omega), ptw c4 (by omega), ptw c5 (by omega), ptw c6 (by omega), ptw c7 (by omega)⟩
  · obtain ⟨c1, c2, c3, c4, c5⟩ := a3 v hv
    refine ⟨ptw c1 (by omega), ptw c2 (by omega), ?_, ptw c4 (by omega), ptw c5 (by omega)⟩
    rw [up_ne (by omega), gu_ne (by omega)]; exact c3
  · rw [up_ne (by omega), hld_c (fun s hs => gu_ne (by omega))]; exact a6 r hr
theorem RowEq.s12 {C : Mem} {q : Nat} {g : Nat → Int32} {x : Int32} {s : Nat} (hs : s < 96) (h : RowEq C q g) : RowEq (up C (q + 12) s (if x = nI 1 then nI 1 else nI 0)) q (gu g (92 + 5 * s + 2) x) := by
  obtain ⟨⟨b1, b2, b3, b4⟩, a2, a3, a4, a5, a6⟩ := h
  refine ⟨⟨?_, ?_, ?_, ?_⟩, fun r hr => ?_, fun v hv => ?_, fun i hi => ?_, fun r v hr hv => ?_, fun r hr => ?_⟩
  · rw [up_ne (by omega), gu_ne (by omega)]; exact b1
  · rw [up_ne (by omega), gu_ne (by omega)]; exact b2
  · rw [up_ne (by omega), gu_ne (by omega)]; exact b3
  · rw [up_ne (by omega), gu_ne (by omega)]; exact b4
  · rw [up_ne (by omega), up_ne (by omega), up_ne (by omega), up_ne (by omega), up_ne (by omega), up_ne (by omega), up_ne (by omega), gu_ne (by omega), gu_ne (by omega), gu_ne (by omega), gu_ne (by omega), gu_ne (by omega), gu_ne (by omega), gu_ne (by omega)]; exact a2 r hr
  · obtain ⟨c1, c2, c3, c4, c5⟩ := a3 v hv
    refine ⟨?_, ?_, ?_, ?_, ?_⟩
    · rw [up_ne (by omega), gu_ne (by omega)]; exact c1
    · rw [up_ne (by omega), gu_ne (by omega)]; exact c2
    · by_cases e : v = s
      · subst e; rw [up_eq, gu_eq]
      · rw [up_ne2 e, gu_ne (by omega)]; exact c3
    · rw [up_ne (by omega), gu_ne (by omega)]; exact c4
    · rw [up_ne (by omega), gu_ne (by omega)]; exact c5
  · rw [up_ne (by omega), gu_ne (by omega)]; exact a4 i hi
  · rw [up_ne (by omega), gu_ne (by omega)]; exact a5 r v hr hv
  · rw [up_ne (by omega), hld_c (fun s hs => gu_ne (by omega))]; exact a6 r hr
theorem RowEq.f15 {C : Mem} {q : Nat} {g : Nat → Int32} {x : Int32} {j : Nat} (hj : j < 4) (h : RowEq C q g) : RowEq (up C (q + 15) j x) q (gu g (4 + j) x) := by
  obtain ⟨⟨b1, b2, b3, b4⟩, a2, a3, a4, a5, a6⟩ := h
  refine ⟨⟨ptw b1 (by omega), ptw b2 (by omega), ptw b3 (by omega), ptw b4 (by omega)⟩, fun r hr => ?_, fun v hv => ?_, fun i hi => ptw (a4 i hi) (by omega), fun r v hr hv => ptw (a5 r v hr hv) (by omega), fun r hr => ?_⟩
  · obtain ⟨c1, c2, c3, c4, c5, c6, c7⟩ := a2 r hr
    exact ⟨ptw c1 (by omega), ptw c2 (by omega), ptw c3 (by omega), ptw c4 (by omega), ptw c5 (by omega), ptw c6 (by omega), ptw c7 (by omega)⟩
  · obtain ⟨c1, c2, c3, c4, c5⟩ := a3 v hv
    refine ⟨ptw c1 (by omega), ptw c2 (by omega), ?_, ptw c4 (by omega), ptw c5 (by omega)⟩
    rw [up_ne (by omega), gu_ne (by omega)]; exact c3
  · rw [up_ne (by omega), hld_c (fun s hs => gu_ne (by omega))]; exact a6 r hr
/-- what holds of a row throughout a call: all but day and purses; debts up to d -/
def RB (d : Nat) (g : Nat → Int32) (P : Nat) : Prop :=
  (g 1 = nI P ∧ P ≤ 12) ∧
  (∀ p, p < 12 → vp_in (g (8 + 7 * p + 6)) 4) ∧
  (∀ p s, p < 12 → s < 96 → ∃ k : Nat, g (572 + 96 * p + s) = nI k ∧ (k ≤ 999 ∨ (1001 ≤ k ∧ k ≤ 1999))) ∧
  (∀ p, P ≤ p → p < 12 → (∀ w, w < 7 → g (8 + 7 * p + w) = 0) ∧ ∀ s, s < 96 → g (572 + 96 * p + s) = 0) ∧
  (∀ s, s < 96 → g (92 + 5 * s + 0) = nI 0 ∨ g (92 + 5 * s + 0) = nI 1) ∧
  (∀ s, s < 96 → ∃ k : Nat, g (92 + 5 * s + 1) = nI k ∧ k ≤ 11988) ∧
  (∀ s, s < 96 → ∃ k : Nat, g (92 + 5 * s + 3) = nI k ∧ k < 2 ^ P) ∧
  (∃ k : Nat, g 2 = nI k ∧ k ≤ 1000) ∧
  (∀ p, p < 12 → ∃ k : Nat, g (8 + 7 * p + 1) = nI k ∧ k ≤ d)
/-- purses: from F to B -/
def RP (B F : Nat → Nat) (g : Nat → Int32) : Prop := ∀ p, p < 12 → ∃ k : Nat, g (8 + 7 * p + 0) = nI k ∧ k ≤ B p ∧ F p ≤ k
theorem RowInv.rb {t P : Nat} {g : Nat → Int32} (h : RowInv t g P) : RB (1000 * t) g P := by
  obtain ⟨a1, a2, a3, a4, a5, a6, a7, a8, a9, a10, a11⟩ := h
  exact ⟨a1, a2, a3, a4, a5, a6, a7, a8, a10⟩
theorem RB.inv {t P : Nat} {g : Nat → Int32} (h : RB (1000 * t) g P) (h9 : ∃ k : Nat, g 0 = nI k ∧ k ≤ 999) (h11 : ∀ p, p < 12 → ∃ k j : Nat, g (8 + 7 * p + 0) = nI k ∧ k ≤ 2000000 * t ∧ hld g p = nI j ∧ j ≤ k) : RowInv t g P := by
  obtain ⟨a1, a2, a3, a4, a5, a6, a7, a8, a10⟩ := h
  exact ⟨a1, a2, a3, a4, a5, a6, a7, a8, h9, a10, h11⟩
theorem RB.P12 {d P : Nat} {g : Nat → Int32} (h : RB d g P) : P ≤ 12 := h.1.2
theorem RB.mk {d P : Nat} {g : Nat → Int32} (h : RB d g P) {p s : Nat} (hp : p < 12) (hs : s < 96) : ∃ k : Nat, g (572 + 96 * p + s) = nI k ∧ (k ≤ 999 ∨ (1001 ≤ k ∧ k ≤ 1999)) := h.2.2.1 p s hp hs
theorem RB.mono {d d' P : Nat} {g : Nat → Int32} (h : RB d g P) (hd : d ≤ d') : RB d' g P := by
  obtain ⟨a1, a2, a3, a4, a5, a6, a7, a8, a10⟩ := h
  exact ⟨a1, a2, a3, a4, a5, a6, a7, a8, fun p hp => by
    obtain ⟨k, h1, h2⟩ := a10 p hp
    exact ⟨k, h1, by omega⟩⟩
theorem RB.ge {d P : Nat} {g g' : Nat → Int32} (h : RB d g P) (e : ∀ j, j < 1724 → g' j = g j) : RB d g' P := by
  obtain ⟨⟨a1, b1⟩, a2, a3, a4, a5, a6, a7, a8, a10⟩ := h
  exact ⟨⟨by rw [e _ (by omega)]; exact a1, b1⟩, fun p hp => by rw [e _ (by omega)]; exact a2 p hp, fun p s hp hs => by rw [e _ (by omega)]; exact a3 p s hp hs, fun p h1 h2 => ⟨fun w hw => by rw [e _ (by omega)]; exact (a4 p h1 h2).1 w hw, fun s hs => by rw [e _ (by omega)]; exact (a4 p h1 h2).2 s hs⟩, fun s hs => by rw [e _ (by omega)]; exact a5 s hs, fun s hs => by rw [e _ (by omega)]; exact a6 s hs, fun s hs => by rw [e _ (by omega)]; exact a7 s hs, by rw [e _ (by omega)]; exact a8, fun p hp => by rw [e _ (by omega)]; exact a10 p hp⟩
theorem RP.ge {B F : Nat → Nat} {g g' : Nat → Int32} (h : RP B F g) (e : ∀ j, j < 1724 → g' j = g j) : RP B F g' := fun p hp => by rw [e _ (by omega)]; exact h p hp
theorem RP.le {B B' F F' : Nat → Nat} {g : Nat → Int32} (h : RP B F g) (hB : ∀ p, p < 12 → B p ≤ B' p) (hF : ∀ p, p < 12 → F' p ≤ F p) : RP B' F' g := fun p hp => by
  obtain ⟨k, h1, h2, h3⟩ := h p hp
  have := hB p hp
  have := hF p hp
  exact ⟨k, h1, by omega, by omega⟩
theorem RP.o {B F : Nat → Nat} {g : Nat → Int32} {l : Nat} {x : Int32} (h : RP B F g) (e : ∀ p, p < 12 → 8 + 7 * p + 0 ≠ l) : RP B F (gu g l x) := fun p hp => by rw [gu_ne (e p hp)]; exact h p hp
theorem RB.u3 {d P : Nat} {g : Nat → Int32} {x : Int32}  (h : RB d g P) : RB d (gu g (3) x) P := by
  obtain ⟨⟨a1, b1⟩, a2, a3, a4, a5, a6, a7, a8, a10⟩ := h
  refine ⟨⟨by rw [gu_ne (by omega)]; exact a1, b1⟩, fun r hr => ?_, fun r v hr hv => by rw [gu_ne (by omega)]; exact a3 r v hr hv, fun r h1 h2 => ⟨fun w hw => by rw [gu_ne (by omega)]; exact (a4 r h1 h2).1 w hw, fun v hv => by rw [gu_ne (by omega)]; exact (a4 r h1 h2).2 v hv⟩, fun v hv => ?_, fun v hv => ?_, fun v hv => ?_, by rw [gu_ne (by omega)]; exact a8, fun r hr => ?_⟩
  · rw [gu_ne (by omega)]; exact a2 r hr
  · rw [gu_ne (by omega)]; exact a5 v hv
  · rw [gu_ne (by omega)]; exact a6 v hv
  · rw [gu_ne (by omega)]; exact a7 v hv
  · rw [gu_ne (by omega)]; exact a10 r hr
theorem RB.f {d P : Nat} {g : Nat → Int32} {x : Int32} {j : Nat} (hj : j < 4) (h : RB d g P) : RB d (gu g (4 + j) x) P := by
  obtain ⟨⟨a1, b1⟩, a2, a3, a4, a5, a6, a7, a8, a10⟩ := h
  refine ⟨⟨by rw [gu_ne (by omega)]; exact a1, b1⟩, fun r hr => ?_, fun r v hr hv => by rw [gu_ne (by omega)]; exact a3 r v hr hv, fun r h1 h2 => ⟨fun w hw => by rw [gu_ne (by omega)]; exact (a4 r h1 h2).1 w hw, fun v hv => by rw [gu_ne (by omega)]; exact (a4 r h1 h2).2 v hv⟩, fun v hv => ?_, fun v hv => ?_, fun v hv => ?_, by rw [gu_ne (by omega)]; exact a8, fun r hr => ?_⟩
  · rw [gu_ne (by omega)]; exact a2 r hr
  · rw [gu_ne (by omega)]; exact a5 v hv
  · rw [gu_ne (by omega)]; exact a6 v hv
  · rw [gu_ne (by omega)]; exact a7 v hv
  · rw [gu_ne (by omega)]; exact a10 r hr
theorem RB.w0 {d P : Nat} {g : Nat → Int32} {x : Int32} {p : Nat} (hpP : p < P) (h : RB d g P) : RB d (gu g (8 + 7 * p + 0) x) P := by
  have hp : p < 12 := Nat.lt_of_lt_of_le hpP h.P12
  obtain ⟨⟨a1, b1⟩, a2, a3, a4, a5, a6, a7, a8, a10⟩ := h
  refine ⟨⟨by rw [gu_ne (by omega)]; exact a1, b1⟩, fun r hr => ?_, fun r v hr hv => by rw [gu_ne (by omega)]; exact a3 r v hr hv, fun r h1 h2 => ⟨fun w hw => by rw [gu_ne (by omega)]; exact (a4 r h1 h2).1 w hw, fun v hv => by rw [gu_ne (by omega)]; exact (a4 r h1 h2).2 v hv⟩, fun v hv => ?_, fun v hv => ?_, fun v hv => ?_, by rw [gu_ne (by omega)]; exact a8, fun r hr => ?_⟩
  · rw [gu_ne (by omega)]; exact a2 r hr
  · rw [gu_ne (by omega)]; exact a5 v hv
  · rw [gu_ne (by omega)]; exact a6 v hv
  · rw [gu_ne (by omega)]; exact a7 v hv
  · rw [gu_ne (by omega)]; exact a10 r hr
theorem RB.w2 {d P : Nat} {g : Nat → Int32} {x : Int32} {p : Nat} (hpP : p < P) (h : RB d g P) : RB d (gu g (8 + 7 * p + 2) x) P := by
  have hp : p < 12 := Nat.lt_of_lt_of_le hpP h.P12
  obtain ⟨⟨a1, b1⟩, a2, a3, a4, a5, a6, a7, a8, a10⟩ := h
  refine ⟨⟨by rw [gu_ne (by omega)]; exact a1, b1⟩, fun r hr => ?_, fun r v hr hv => by rw [gu_ne (by omega)]; exact a3 r v hr hv, fun r h1 h2 => ⟨fun w hw => by rw [gu_ne (by omega)]; exact (a4 r h1 h2).1 w hw, fun v hv => by rw [gu_ne (by omega)]; exact (a4 r h1 h2).2 v hv⟩, fun v hv => ?_, fun v hv => ?_, fun v hv => ?_, by rw [gu_ne (by omega)]; exact a8, fun r hr => ?_⟩
  · rw [gu_ne (by omega)]; exact a2 r hr
  · rw [gu_ne (by omega)]; exact a5 v hv
  · rw [gu_ne (by omega)]; exact a6 v hv
  · rw [gu_ne (by omega)]; exact a7 v hv
  · rw [gu_ne (by omega)]; exact a10 r hr
theorem RB.w3 {d P : Nat} {g : Nat → Int32} {x : Int32} {p : Nat} (hpP : p < P) (h : RB d g P) : RB d (gu g (8 + 7 * p + 3) x) P := by
  have hp : p < 12 := Nat.lt_of_lt_of_le hpP h.P12
  obtain ⟨⟨a1, b1⟩, a2, a3, a4, a5, a6, a7, a8, a10⟩ := h
  refine ⟨⟨by rw [gu_ne (by omega)]; exact a1, b1⟩, fun r hr => ?_, fun r v hr hv => by rw [gu_ne (by omega)]; exact a3 r v hr hv, fun r h1 h2 => ⟨fun w hw => by rw [gu_ne (by omega)]; exact (a4 r h1 h2).1 w hw, fun v hv => by rw [gu_ne (by omega)]; exact (a4 r h1 h2).2 v hv⟩, fun v hv => ?_, fun v hv => ?_, fun v hv => ?_, by rw [gu_ne (by omega)]; exact a8, fun r hr => ?_⟩
  · rw [gu_ne (by omega)]; exact a2 r hr
  · rw [gu_ne (by omega)]; exact a5 v hv
  · rw [gu_ne (by omega)]; exact a6 v hv
  · rw [gu_ne (by omega)]; exact a7 v hv
  · rw [gu_ne (by omega)]; exact a10 r hr
theorem RB.w4 {d P : Nat} {g : Nat → Int32} {x : Int32} {p : Nat} (hpP : p < P) (h : RB d g P) : RB d (gu g (8 + 7 * p + 4) x) P := by
  have hp : p < 12 := Nat.lt_of_lt_of_le hpP h.P12
  obtain ⟨⟨a1, b1⟩, a2, a3, a4, a5, a6, a7, a8, a10⟩ := h
  refine ⟨⟨by rw [gu_ne (by omega)]; exact a1, b1⟩, fun r hr => ?_, fun r v hr hv => by rw [gu_ne (by omega)]; exact a3 r v hr hv, fun r h1 h2 => ⟨fun w hw => by rw [gu_ne (by omega)]; exact (a4 r h1 h2).1 w hw, fun v hv => by rw [gu_ne (by omega)]; exact (a4 r h1 h2).2 v hv⟩, fun v hv => ?_, fun v hv => ?_, fun v hv => ?_, by rw [gu_ne (by omega)]; exact a8, fun r hr => ?_⟩
  · rw [gu_ne (by omega)]; exact a2 r hr
  · rw [gu_ne (by omega)]; exact a5 v hv
  · rw [gu_ne (by omega)]; exact a6 v hv
  · rw [gu_ne (by omega)]; exact a7 v hv
  · rw [gu_ne (by omega)]; exact a10 r hr
theorem RB.w5 {d P : Nat} {g : Nat → Int32} {x : Int32} {p : Nat} (hpP : p < P) (h : RB d g P) : RB d (gu g (8 + 7 * p + 5) x) P := by
  have hp : p < 12 := Nat.lt_of_lt_of_le hpP h.P12
  obtain ⟨⟨a1, b1⟩, a2, a3, a4, a5, a6, a7, a8, a10⟩ := h
  refine ⟨⟨by rw [gu_ne (by omega)]; exact a1, b1⟩, fun r hr => ?_, fun r v hr hv => by rw [gu_ne (by omega)]; exact a3 r v hr hv, fun r h1 h2 => ⟨fun w hw => by rw [gu_ne (by omega)]; exact (a4 r h1 h2).1 w hw, fun v hv => by rw [gu_ne (by omega)]; exact (a4 r h1 h2).2 v hv⟩, fun v hv => ?_, fun v hv => ?_, fun v hv => ?_, by rw [gu_ne (by omega)]; exact a8, fun r hr => ?_⟩
  · rw [gu_ne (by omega)]; exact a2 r hr
  · rw [gu_ne (by omega)]; exact a5 v hv
  · rw [gu_ne (by omega)]; exact a6 v hv
  · rw [gu_ne (by omega)]; exact a7 v hv
  · rw [gu_ne (by omega)]; exact a10 r hr
theorem RB.w6 {d P : Nat} {g : Nat → Int32} {x : Int32} {p : Nat} (hpP : p < P) (hx : vp_in x 4) (h : RB d g P) : RB d (gu g (8 + 7 * p + 6) x) P := by
  have hp : p < 12 := Nat.lt_of_lt_of_le hpP h.P12
  obtain ⟨⟨a1, b1⟩, a2, a3, a4, a5, a6, a7, a8, a10⟩ := h
  refine ⟨⟨by rw [gu_ne (by omega)]; exact a1, b1⟩, fun r hr => ?_, fun r v hr hv => by rw [gu_ne (by omega)]; exact a3 r v hr hv, fun r h1 h2 => ⟨fun w hw => by rw [gu_ne (by omega)]; exact (a4 r h1 h2).1 w hw, fun v hv => by rw [gu_ne (by omega)]; exact (a4 r h1 h2).2 v hv⟩, fun v hv => ?_, fun v hv => ?_, fun v hv => ?_, by rw [gu_ne (by omega)]; exact a8, fun r hr => ?_⟩
  · by_cases e : r = p
    · subst e
      rw [gu_eq]; exact hx
    · rw [gu_ne (by omega)]; exact a2 r hr
  · rw [gu_ne (by omega)]; exact a5 v hv
  · rw [gu_ne (by omega)]; exact a6 v hv
  · rw [gu_ne (by omega)]; exact a7 v hv
  · rw [gu_ne (by omega)]; exact a10 r hr
theorem RB.w1 {d P : Nat} {g : Nat → Int32} {x : Int32} {p : Nat} (hpP : p < P) {d' : Nat} (hd : d ≤ d') (hx : ∃ k : Nat, x = nI k ∧ k ≤ d') (h : RB d g P) : RB d' (gu g (8 + 7 * p + 1) x) P := by
  have hp : p < 12 := Nat.lt_of_lt_of_le hpP h.P12
  obtain ⟨⟨a1, b1⟩, a2, a3, a4, a5, a6, a7, a8, a10⟩ := h
  refine ⟨⟨by rw [gu_ne (by omega)]; exact a1, b1⟩, fun r hr => ?_, fun r v hr hv => by rw [gu_ne (by omega)]; exact a3 r v hr hv, fun r h1 h2 => ⟨fun w hw => by rw [gu_ne (by omega)]; exact (a4 r h1 h2).1 w hw, fun v hv => by rw [gu_ne (by omega)]; exact (a4 r h1 h2).2 v hv⟩, fun v hv => ?_, fun v hv => ?_, fun v hv => ?_, by rw [gu_ne (by omega)]; exact a8, fun r hr => ?_⟩
  · rw [gu_ne (by omega)]; exact a2 r hr
  · rw [gu_ne (by omega)]; exact a5 v hv
  · rw [gu_ne (by omega)]; exact a6 v hv
  · rw [gu_ne (by omega)]; exact a7 v hv
  · by_cases e : r = p
    · subst e; rw [gu_eq]; exact hx
    · rw [gu_ne (by omega)]
      obtain ⟨k, h1, h2⟩ := a10 r hr
      exact ⟨k, h1, by omega⟩
theorem RB.s0 {d P : Nat} {g : Nat → Int32} {x : Int32} {s : Nat} (hs : s < 96) (hx : x = nI 0 ∨ x = nI 1) (h : RB d g P) : RB d (gu g (92 + 5 * s + 0) x) P := by
  obtain ⟨⟨a1, b1⟩, a2, a3, a4, a5, a6, a7, a8, a10⟩ := h
  refine ⟨⟨by rw [gu_ne (by omega)]; exact a1, b1⟩, fun r hr => ?_, fun r v hr hv => by rw [gu_ne (by omega)]; exact a3 r v hr hv, fun r h1 h2 => ⟨fun w hw => by rw [gu_ne (by omega)]; exact (a4 r h1 h2).1 w hw, fun v hv => by rw [gu_ne (by omega)]; exact (a4 r h1 h2).2 v hv⟩, fun v hv => ?_, fun v hv => ?_, fun v hv => ?_, by rw [gu_ne (by omega)]; exact a8, fun r hr => ?_⟩
  · rw [gu_ne (by omega)]; exact a2 r hr
  · by_cases e : v = s
    · subst e
      rw [gu_eq]; exact hx
    · rw [gu_ne (by omega)]; exact a5 v hv
  · rw [gu_ne (by omega)]; exact a6 v hv
  · rw [gu_ne (by omega)]; exact a7 v hv
  · rw [gu_ne (by omega)]; exact a10 r hr
theorem RB.s1 {d P : Nat} {g : Nat → Int32} {x : Int32} {s : Nat} (hs : s < 96) (hx : ∃ k : Nat, x = nI k ∧ k ≤ 11988) (h : RB d g P) : RB d (gu g (92 + 5 * s + 1) x) P := by
  obtain ⟨⟨a1, b1⟩, a2, a3, a4, a5, a6, a7, a8, a10⟩ := h
  refine ⟨⟨by rw [gu_ne (by omega)]; exact a1, b1⟩, fun r hr => ?_, fun r v hr hv => by rw [gu_ne (by omega)]; exact a3 r v hr hv, fun r h1 h2 => ⟨fun w hw => by rw [gu_ne (by omega)]; exact (a4 r h1 h2).1 w hw, fun v hv => by rw [gu_ne (by omega)]; exact (a4 r h1 h2).2 v hv⟩, fun v hv => ?_, fun v hv => ?_, fun v hv => ?_, by rw [gu_ne (by omega)]; exact a8, fun r hr => ?_⟩
  · rw [gu_ne (by omega)]; exact a2 r hr
  · rw [gu_ne (by omega)]; exact a5 v hv
  · by_cases e : v = s
    · subst e
      rw [gu_eq]; exact hx
    · rw [gu_ne (by omega)]; exact a6 v hv
  · rw [gu_ne (by omega)]; exact a7 v hv
  · rw [gu_ne (by omega)]; exact a10 r hr
theorem RB.s2 {d P : Nat} {g : Nat → Int32} {x : Int32} {s : Nat} (hs : s < 96) (h : RB d g P) : RB d (gu g (92 + 5 * s + 2) x) P := by
  obtain ⟨⟨a1, b1⟩, a2, a3, a4, a5, a6, a7, a8, a10⟩ := h
  refine ⟨⟨by rw [gu_ne (by omega)]; exact a1, b1⟩, fun r hr => ?_, fun r v hr hv => by rw [gu_ne (by omega)]; exact a3 r v hr hv, fun r h1 h2 => ⟨fun w hw => by rw [gu_ne (by omega)]; exact (a4 r h1 h2).1 w hw, fun v hv => by rw [gu_ne (by omega)]; exact (a4 r h1 h2).2 v hv⟩, fun v hv => ?_, fun v hv => ?_, fun v hv => ?_, by rw [gu_ne (by omega)]; exact a8, fun r hr => ?_⟩
  · rw [gu_ne (by omega)]; exact a2 r hr
  · rw [gu_ne (by omega)]; exact a5 v hv
  · rw [gu_ne (by omega)]; exact a6 v hv
  · rw [gu_ne (by omega)]; exact a7 v hv
  · rw [gu_ne (by omega)]; exact a10 r hr
theorem RB.s3 {d P : Nat} {g : Nat → Int32} {x : Int32} {s : Nat} (hs : s < 96) (hx : ∃ k : Nat, x = nI k ∧ k < 2 ^ P) (h : RB d g P) : RB d (gu g (92 + 5 * s + 3) x) P := by
  obtain ⟨⟨a1, b1⟩, a2, a3, a4, a5, a6, a7, a8, a10⟩ := h
  refine ⟨⟨by rw [gu_ne (by omega)]; exact a1, b1⟩, fun r hr => ?_, fun r v hr hv => by rw [gu_ne (by omega)]; exact a3 r v hr hv, fun r h1 h2 => ⟨fun w hw => by rw [gu_ne (by omega)]; exact (a4 r h1 h2).1 w hw, fun v hv => by rw [gu_ne (by omega)]; exact (a4 r h1 h2).2 v hv⟩, fun v hv => ?_, fun v hv => ?_, fun v hv => ?_, by rw [gu_ne (by omega)]; exact a8, fun r hr => ?_⟩
  · rw [gu_ne (by omega)]; exact a2 r hr
  · rw [gu_ne (by omega)]; exact a5 v hv
  · rw [gu_ne (by omega)]; exact a6 v hv
  · by_cases e : v = s
    · subst e
      rw [gu_eq]; exact hx
    · rw [gu_ne (by omega)]; exact a7 v hv
  · rw [gu_ne (by omega)]; exact a10 r hr
theorem RB.s4 {d P : Nat} {g : Nat → Int32} {x : Int32} {s : Nat} (hs : s < 96) (h : RB d g P) : RB d (gu g (92 + 5 * s + 4) x) P := by
  obtain ⟨⟨a1, b1⟩, a2, a3, a4, a5, a6, a7, a8, a10⟩ := h
  refine ⟨⟨by rw [gu_ne (by omega)]; exact a1, b1⟩, fun r hr => ?_, fun r v hr hv => by rw [gu_ne (by omega)]; exact a3 r v hr hv, fun r h1 h2 => ⟨fun w hw => by rw [gu_ne (by omega)]; exact (a4 r h1 h2).1 w hw, fun v hv => by rw [gu_ne (by omega)]; exact (a4 r h1 h2).2 v hv⟩, fun v hv => ?_, fun v hv => ?_, fun v hv => ?_, by rw [gu_ne (by omega)]; exact a8, fun r hr => ?_⟩
  · rw [gu_ne (by omega)]; exact a2 r hr
  · rw [gu_ne (by omega)]; exact a5 v hv
  · rw [gu_ne (by omega)]; exact a6 v hv
  · rw [gu_ne (by omega)]; exact a7 v hv
  · rw [gu_ne (by omega)]; exact a10 r hr
