/-! ONE WRITE: what holds of the state, purses, money. -/
section
variable {C C' : Mem} {q q' P : Nat} {E E' B F B' F' : Nat → Nat}
theorem SB.mono (h : SB E C q P) (hE : ∀ p, p < 12 → E p ≤ E' p) : SB E' C q P := by
  obtain ⟨a1, a2, a3, a4, a5, a6⟩ := h
  exact ⟨a1, a2, a3, a4, a5, fun p hp => by
    obtain ⟨k, h1, h2⟩ := a6 p hp
    exact ⟨k, h1, Nat.le_trans h2 (hE p hp)⟩⟩
theorem SB.w {i p : Nat} {x : Int32} (hi : 1 ≤ i ∧ i ≤ 8 ∧ i ≠ 3 ∧ i ≠ 4) (hp : p < P) (h : SB E C q P) : SB E (up C (q + i) p x) q P := by
  obtain ⟨a1, a2, a3, a4, a5, a6⟩ := h
  refine ⟨a1.wr (by omega) (by omega), fun r s hr hs => ?_, fun r h1 h2 => ⟨fun i' h3 h4 => ?_, fun s hs => ?_⟩, fun s hs => ?_, ?_, fun r hr => ?_⟩
  · rw [show bm (up C (q + i) p x) q r s = bm C q r s from congrFun (up_ne (by omega)) _]; exact a2 r s hr hs
  · by_cases e : i' = i
    · subst e; rw [up_ne2 (by omega)]; exact (a3 r h1 h2).1 i' h3 h4
    · rw [up_ne (by omega)]; exact (a3 r h1 h2).1 i' h3 h4
  · rw [show bm (up C (q + i) p x) q r s = bm C q r s from congrFun (up_ne (by omega)) _]; exact (a3 r h1 h2).2 s hs
  · rw [up_ne (by omega), up_ne (by omega), up_ne (by omega), up_ne (by omega)]; exact a4 s hs
  · rw [up_ne (by omega)]; exact a5
  · rw [up_ne (by omega)]; exact a6 r hr
theorem SB.w3 {p : Nat} {x : Int32} (hp : p < P) (hk : ∃ k, x = nI k ∧ k ≤ E' p) (hE : ∀ r, r < 12 → r ≠ p → E r ≤ E' r) (h : SB E C q P) : SB E' (up C (q + 3) p x) q P := by
  obtain ⟨a1, a2, a3, a4, a5, a6⟩ := h
  refine ⟨a1.wr (by omega) (by omega), fun r s hr hs => ?_, fun r h1 h2 => ⟨fun i' h3 h4 => ?_, fun s hs => ?_⟩, fun s hs => ?_, ?_, fun r hr => ?_⟩
  · rw [show bm (up C (q + 3) p x) q r s = bm C q r s from congrFun (up_ne (by omega)) _]; exact a2 r s hr hs
  · by_cases e : i' = 3
    · subst e; rw [up_ne2 (by omega)]; exact (a3 r h1 h2).1 3 h3 h4
    · rw [up_ne (by omega)]; exact (a3 r h1 h2).1 i' h3 h4
  · rw [show bm (up C (q + 3) p x) q r s = bm C q r s from congrFun (up_ne (by omega)) _]; exact (a3 r h1 h2).2 s hs
  · rw [up_ne (by omega), up_ne (by omega), up_ne (by omega), up_ne (by omega)]; exact a4 s hs
  · rw [up_ne (by omega)]; exact a5
  · by_cases e : r = p
    · subst e; rw [up_eq]; exact hk
    · rw [up_ne2 e]
      obtain ⟨k, h1, h2⟩ := a6 r hr
      exact ⟨k, h1, Nat.le_trans h2 (hE r hr e)⟩
theorem SB.w4 {p j : Nat} (hj : j < 4) (hp : p < P) (h : SB E C q P) : SB E (up C (q + 4) p (nI j)) q P := by
  obtain ⟨a1, a2, a3, a4, a5, a6⟩ := h
  refine ⟨a1.bs hj, fun r s hr hs => ?_, fun r h1 h2 => ⟨fun i' h3 h4 => ?_, fun s hs => ?_⟩, fun s hs => ?_, ?_, fun r hr => ?_⟩
  · rw [show bm (up C (q + 4) p (nI j)) q r s = bm C q r s from congrFun (up_ne (by omega)) _]; exact a2 r s hr hs
  · by_cases e : i' = 4
    · subst e; rw [up_ne2 (by omega)]; exact (a3 r h1 h2).1 4 h3 h4
    · rw [up_ne (by omega)]; exact (a3 r h1 h2).1 i' h3 h4
  · rw [show bm (up C (q + 4) p (nI j)) q r s = bm C q r s from congrFun (up_ne (by omega)) _]; exact (a3 r h1 h2).2 s hs
  · rw [up_ne (by omega), up_ne (by omega), up_ne (by omega), up_ne (by omega)]; exact a4 s hs
  · rw [up_ne (by omega)]; exact a5
  · rw [up_ne (by omega)]; exact a6 r hr
theorem SB.w9 {p s : Nat} {x : Int32} (hp : p < P) (hs : s < 96) (hk : ∃ k, x = nI k ∧ okm k) (h : SB E C q P) : SB E (up C (q + 9) (p * 96 + s) x) q P := by
  obtain ⟨a1, a2, a3, a4, a5, a6⟩ := h
  refine ⟨a1.wr (by omega) (by omega), fun r v hr hv => ?_, fun r h1 h2 => ⟨fun i' h3 h4 => ?_, fun v hv => ?_⟩, fun v hv => ?_, ?_, fun r hr => ?_⟩
  · by_cases e : r * 96 + v = p * 96 + s
    · show ∃ k, up C (q + 9) (p * 96 + s) x (q + 9) (r * 96 + v) = nI k ∧ okm k
      rw [e, up_eq]; exact hk
    · show ∃ k, up C (q + 9) (p * 96 + s) x (q + 9) (r * 96 + v) = nI k ∧ okm k
      rw [up_ne2 e]; exact a2 r v hr hv
  · rw [up_ne (by omega)]; exact (a3 r h1 h2).1 i' h3 h4
  · show up C (q + 9) (p * 96 + s) x (q + 9) (r * 96 + v) = 0
    rw [up_ne2 (by omega)]; exact (a3 r h1 h2).2 v hv
  · rw [up_ne (by omega), up_ne (by omega), up_ne (by omega), up_ne (by omega)]; exact a4 v hv
  · rw [up_ne (by omega)]; exact a5
  · rw [up_ne (by omega)]; exact a6 r hr
theorem SB.ws {i s : Nat} {x : Int32} (hi : 10 ≤ i ∧ i ≤ 15) (hx : i = 10 → x = nI 0 ∨ x = nI 1) (hx1 : i = 11 → ∃ k, x = nI k ∧ k ≤ 11988) (hx2 : i = 12 → x = nI 0 ∨ x = nI 1) (hx3 : i = 13 → ∃ k, x = nI k ∧ k < 2 ^ P) (h : SB E C q P) : SB E (up C (q + i) s x) q P := by
  obtain ⟨a1, a2, a3, a4, a5, a6⟩ := h
  refine ⟨a1.wr (by omega) (by omega), fun r v hr hv => ?_, fun r h1 h2 => ⟨fun i' h3 h4 => ?_, fun v hv => ?_⟩, fun v hv => ?_, ?_, fun r hr => ?_⟩
  · rw [show bm (up C (q + i) s x) q r v = bm C q r v from congrFun (up_ne (by omega)) _]; exact a2 r v hr hv
  · rw [up_ne (by omega)]; exact (a3 r h1 h2).1 i' h3 h4
  · rw [show bm (up C (q + i) s x) q r v = bm C q r v from congrFun (up_ne (by omega)) _]; exact (a3 r h1 h2).2 v hv
  · obtain ⟨b1, b2, b3, b4⟩ := a4 v hv
    refine ⟨?_, ?_, ?_, ?_⟩
    · by_cases e : i = 10 ∧ v = s
      · obtain ⟨rfl, rfl⟩ := e; rw [up_eq]; exact hx rfl
      · by_cases e2 : i = 10
        · subst e2; rw [up_ne2 (by omega)]; exact b1
        · rw [up_ne (by omega)]; exact b1
    · by_cases e : i = 12 ∧ v = s
      · obtain ⟨rfl, rfl⟩ := e; rw [up_eq]; exact hx2 rfl
      · by_cases e2 : i = 12
        · subst e2; rw [up_ne2 (by omega)]; exact b2
        · rw [up_ne (by omega)]; exact b2
    · by_cases e : i = 11 ∧ v = s
      · obtain ⟨rfl, rfl⟩ := e; rw [up_eq]; exact hx1 rfl
      · by_cases e2 : i = 11
        · subst e2; rw [up_ne2 (by omega)]; exact b3
        · rw [up_ne (by omega)]; exact b3
    · by_cases e : i = 13 ∧ v = s
      · obtain ⟨rfl, rfl⟩ := e; rw [up_eq]; exact hx3 rfl
      · by_cases e2 : i = 13
        · subst e2; rw [up_ne2 (by omega)]; exact b4
        · rw [up_ne (by omega)]; exact b4
  · rw [up_ne (by omega)]; exact a5
  · rw [up_ne (by omega)]; exact a6 r hr
theorem SB.s10 {s : Nat} {x : Int32} (hx : x = nI 0 ∨ x = nI 1) (h : SB E C q P) : SB E (up C (q + 10) s x) q P := h.ws (by omega) (fun _ => hx) (fun z => by omega) (fun z => by omega) (fun z => by omega)
theorem SB.s11 {s : Nat} {x : Int32} (hx : ∃ k, x = nI k ∧ k ≤ 11988) (h : SB E C q P) : SB E (up C (q + 11) s x) q P := h.ws (by omega) (fun z => by omega) (fun _ => hx) (fun z => by omega) (fun z => by omega)
theorem SB.s12 {s : Nat} {x : Int32} (hx : x = nI 0 ∨ x = nI 1) (h : SB E C q P) : SB E (up C (q + 12) s x) q P := h.ws (by omega) (fun z => by omega) (fun z => by omega) (fun _ => hx) (fun z => by omega)
theorem SB.s13 {s : Nat} {x : Int32} (hx : ∃ k, x = nI k ∧ k < 2 ^ P) (h : SB E C q P) : SB E (up C (q + 13) s x) q P := h.ws (by omega) (fun z => by omega) (fun z => by omega) (fun z => by omega) (fun _ => hx)
theorem SB.s14 {s : Nat} {x : Int32} (h : SB E C q P) : SB E (up C (q + 14) s x) q P := h.ws (by omega) (fun z => by omega) (fun z => by omega) (fun z => by omega) (fun z => by omega)
theorem SB.s15 {s : Nat} {x : Int32} (h : SB E C q P) : SB E (up C (q + 15) s x) q P := h.ws (by omega) (fun z => by omega) (fun z => by omega) (fun z => by omega) (fun z => by omega)
theorem SB.w0 {j : Nat} {x : Int32} (hj : j ≠ 3) (hx : j = 1 → ∃ k, x = nI k ∧ k ≤ 1000) (h : SB E C q P) : SB E (up C q j x) q P := by
  obtain ⟨a1, a2, a3, a4, a5, a6⟩ := h
  refine ⟨a1.wrf hj, fun r s hr hs => ?_, fun r h1 h2 => ⟨fun i' h3 h4 => ?_, fun s hs => ?_⟩, fun s hs => ?_, ?_, fun r hr => ?_⟩
  · rw [show bm (up C q j x) q r s = bm C q r s from congrFun (up_ne (by omega)) _]; exact a2 r s hr hs
  · rw [up_ne (by omega)]; exact (a3 r h1 h2).1 i' h3 h4
  · rw [show bm (up C q j x) q r s = bm C q r s from congrFun (up_ne (by omega)) _]; exact (a3 r h1 h2).2 s hs
  · rw [up_ne (by omega), up_ne (by omega), up_ne (by omega), up_ne (by omega)]; exact a4 s hs
  · by_cases e : j = 1
    · subst e; rw [up_eq]; exact hx rfl
    · rw [up_ne2 (Ne.symm e)]; exact a5
  · rw [up_ne (by omega)]; exact a6 r hr
theorem SP.le (h : SP B F C q) (hB : ∀ p, p < 12 → B p ≤ B' p) (hF : ∀ p, p < 12 → F' p ≤ F p) : SP B' F' C q := fun p hp => by
  obtain ⟨k, h1, h2, h3⟩ := h p hp
  exact ⟨k, h1, Nat.le_trans (hF p hp) h2, Nat.le_trans h3 (hB p hp)⟩
theorem SP.o {a j : Nat} {x : Int32} (h : SP B F C q) (ha : q + 1 ≠ a) : SP B F (up C a j x) q := fun p hp => by
  rw [up_ne ha]; exact h p hp
theorem SP.w {p : Nat} {x : Int32} (h : SP B F C q) (hx : ∃ k, x = nI k ∧ F' p ≤ k ∧ k ≤ B' p) (hB : ∀ r, r < 12 → r ≠ p → B r ≤ B' r ∧ F' r ≤ F r) : SP B' F' (up C (q + 1) p x) q := fun r hr => by
  by_cases e : r = p
  · subst e; rw [up_eq]; exact hx
  · rw [up_ne2 e]
    obtain ⟨k, h1, h2, h3⟩ := h r hr
    obtain ⟨b1, b2⟩ := hB r hr e
    exact ⟨k, h1, by omega, by omega⟩
/-- all money -/
def mon (C : Mem) (q P : Nat) : Int32 := sm (fun p => C (q + 1) p) P + sm (fun j => C (q + 15) j) 4
theorem mon_o {a j : Nat} {x : Int32} (h1 : q + 1 ≠ a) (h2 : q + 15 ≠ a) : mon (up C a j x) q P = mon C q P := by
  unfold mon
  rw [up_ne h1, up_ne h2]
theorem mon_1 {p : Nat} {x : Int32} (hp : p < P) : mon (up C (q + 1) p x) q P = mon C q P + (x - C (q + 1) p) := by
  unfold mon
  rw [up_ne (show q + 15 ≠ q + 1 by omega), sm_u (f := fun p => C (q + 1) p) (f' := fun r => up C (q + 1) p x (q + 1) r) (i := p) P hp (fun s hs e => up_ne2 e), up_eq]
  grind
theorem mon_15 {j : Nat} {x : Int32} (hj : j < 4) : mon (up C (q + 15) j x) q P = mon C q P + (x - C (q + 15) j) := by
  unfold mon
  rw [up_ne (show q + 1 ≠ q + 15 by omega), sm_u (f := fun p => C (q + 15) p) (f' := fun r => up C (q + 15) j x (q + 15) r) (i := j) 4 hj (fun s hs e => up_ne2 e), up_eq]
  grind
theorem mon_c (h1 : C' (q' + 1) = C (q + 1)) (h2 : C' (q' + 15) = C (q + 15)) : mon C' q' P = mon C q P := by
  unfold mon
  rw [h1, h2]
theorem SE.mon (h : SE C q C' q') (hP : P ≤ 12) : mon C q P = mon C' q' P := by
  show sm (fun p => C (q + 1) p) P + sm (fun j => C (q + 15) j) 4 = sm (fun p => C' (q' + 1) p) P + sm (fun j => C' (q' + 15) j) 4
  rw [sm_c P (fun p hp => h.pe (i := 1) (by decide) (by decide) (Nat.lt_of_lt_of_le hp hP)), sm_c 4 (fun j hj => h.fu hj)]
/-- a receipt -/
theorem rcv_e {p st : Nat} {m : Int32} (hst4 : st < 4) (hst : C (q + 4) p = nI st) : rcv C q p m = up (up (up C (q + 3) p (C (q + 3) p - mn (C (q + 3) p) m)) (q + 15) st (C (q + 15) st + mn (C (q + 3) p) m)) (q + 1) p (C (q + 1) p + (m - mn (C (q + 3) p) m)) := by
  unfold rcv
  simp only []
  have ix : ixN ((up C (q + 3) p (C (q + 3) p - mn (C (q + 3) p) m)) (q + 4) p) = st := by
    rw [up_ne (by omega), hst]
    exact nI_clamp (by omega)
  rw [ix, up_ne (show q + 15 ≠ q + 3 by omega), up_ne (show q + 1 ≠ q + 15 by omega), up_ne (show q + 1 ≠ q + 3 by omega)]
theorem SB.rc {p k : Nat} (hE : ∀ r, r < 12 → E r < 2 ^ 31) (hp : p < P) (hk : k < 2 ^ 31) (h : SB E C q P) : SB E (rcv C q p (nI k)) q P := by
  have hp12 : p < 12 := Nat.lt_of_lt_of_le hp h.P12
  obtain ⟨st, s1, s2⟩ := h.st hp12
  obtain ⟨d, d1, d2⟩ := h.deb hp12
  have := hE p hp12
  rw [rcv_e s1 s2, d1, mn_n (by omega) hk]
  exact ((h.w3 hp ⟨d - min d k, nI_subn (Nat.min_le_left d k), by omega⟩ (fun _ _ _ => Nat.le_refl _)).s15).w (by omega) hp
theorem SP.rc {p k : Nat} (hE : ∀ r, r < 12 → E r < 2 ^ 31) (hp : p < P) (hk : k < 2 ^ 31) (hb : SB E C q P) (h : SP B F C q) (hB : ∀ r, r < 12 → r ≠ p → B r ≤ B' r) (hBp : B p + k ≤ B' p) : SP B' F (rcv C q p (nI k)) q := by
  have hp12 : p < 12 := Nat.lt_of_lt_of_le hp hb.P12
  obtain ⟨st, s1, s2⟩ := hb.st hp12
  obtain ⟨d, d1, d2⟩ := hb.deb hp12
  have := hE p hp12
  obtain ⟨b, b1, b2, b3⟩ := h p hp12
  rw [rcv_e s1 s2, d1, mn_n (by omega) hk, b1, nI_subn (Nat.min_le_right d k), nI_add]
  exact ((h.o (by omega)).o (by omega)).w ⟨_, rfl, by omega, by omega⟩ (fun r hr e => ⟨hB r hr e, Nat.le_refl _⟩)
theorem mon_rc {p st : Nat} {m : Int32} (hst4 : st < 4) (hst : C (q + 4) p = nI st) (hp : p < P) : mon (rcv C q p m) q P = mon C q P + m := by
  rw [rcv_e hst4 hst, mon_1 hp, mon_15 hst4, mon_o (by omega) (by omega), up_ne (show q + 1 ≠ q + 15 by omega), up_ne (show q + 1 ≠ q + 3 by omega), up_ne (show q + 15 ≠ q + 3 by omega)]
  grind
theorem SE.rc {p st : Nat} {m m' : Int32} (h : SE C q C' q') (hp : p < 12) (hst4 : st < 4) (hst : C (q + 4) p = nI st) (e : m = m') : SE (rcv C q p m) q (rcv C' q' p m') q' := by
  subst e
  have e1 := h.pe (i := 1) (by decide) (by decide) hp
  have e3 := h.pe (i := 3) (by decide) (by decide) hp
  have e4 := h.pe (i := 4) (by decide) (by decide) hp
  rw [rcv_e hst4 hst, rcv_e hst4 (e4.symm.trans hst), e3, e1, h.fu hst4]
  exact ((h.up rfl).up rfl).up rfl
end
