/-! THE ACTIONS: join, pay, bid, setFine on a state. -/
theorem mkB_0 : ∀ a, a < 1000 → (∃ k, k < 2000 ∧ mkB (nI 0) (nI a) = nI k ∧ (k ≤ 999 ∨ (1001 ≤ k ∧ k ≤ 1999))) ∧ bF (mkB (nI 0) (nI a)) (nI 0) = nI a ∧ bF (mkB (nI 0) (nI a)) (nI 1) = nI 0 ∧ mkB (nI 0) (nI a) = nI a := by
  intro a ha
  have H : ∀ a, a < 1000 → bF (mkB (nI 0) (nI a)) (nI 0) = nI a ∧ bF (mkB (nI 0) (nI a)) (nI 1) = nI 0 ∧ mkB (nI 0) (nI a) = nI a := by decide +kernel
  obtain ⟨h1, h2, h3⟩ := H a ha
  exact ⟨⟨a, by omega, h3, by omega⟩, h1, h2, h3⟩
theorem mkB_1 : ∀ a, a < 1000 → (∃ k, k < 2000 ∧ mkB (nI 1) (nI a) = nI k ∧ (k ≤ 999 ∨ (1001 ≤ k ∧ k ≤ 1999))) ∧ bF (mkB (nI 1) (nI a)) (nI 1) = nI a ∧ bF (mkB (nI 1) (nI a)) (nI 0) = nI 0 ∧ mkB (nI 1) (nI a) = nI (if a = 0 then 0 else 1000 + a) := by
  intro a ha
  have H : ∀ a, a < 1000 → bF (mkB (nI 1) (nI a)) (nI 1) = nI a ∧ bF (mkB (nI 1) (nI a)) (nI 0) = nI 0 ∧ mkB (nI 1) (nI a) = nI (if a = 0 then 0 else 1000 + a) := by decide +kernel
  obtain ⟨h1, h2, h3⟩ := H a ha
  exact ⟨⟨_, by split <;> omega, h3, by split <;> omega⟩, h1, h2, h3⟩
/-- a bid's mark, as numbers: what it holds for each side, the sum of both -/
theorem mkB_n {a : Nat} (ha : a ≤ 999) {sd : Int32} (hsd : sd = nI 0 ∨ sd = nI 1) : (∃ k, mkB sd (nI a) = nI k ∧ okm k) ∧ bF (mkB sd (nI a)) sd = nI a ∧ bF (mkB sd (nI a)) (oS sd) = nI 0 ∧ (bF (mkB sd (nI a)) (nI 0)).toInt.toNat + (bF (mkB sd (nI a)) (nI 1)).toInt.toNat = a ∧ mkB sd (nI a) = (if a = 0 then nI 0 else nI a + nI 1000 * sd) := by
  rcases hsd with rfl | rfl
  · obtain ⟨⟨k, -, k1, k2⟩, h1, h2, h3⟩ := mkB_0 a (by omega)
    refine ⟨⟨k, k1, k2⟩, h1, by rw [show oS (nI 0) = nI 1 by decide]; exact h2, ?_, ?_⟩
    · rw [h1, h2, nI_toInt (by omega), nI_toInt (by decide)]; omega
    · rw [h3]; split
      · subst a; rfl
      · rw [show nI 1000 * nI 0 = 0 by decide, Int32.add_zero]
  · obtain ⟨⟨k, -, k1, k2⟩, h1, h2, h3⟩ := mkB_1 a (by omega)
    refine ⟨⟨k, k1, k2⟩, h1, by rw [show oS (nI 1) = nI 0 by decide]; exact h2, ?_, ?_⟩
    · rw [h1, h2, nI_toInt (n := a) (by omega), nI_toInt (n := 0) (by decide)]; omega
    · rw [h3]; split
      · rfl
      · rw [show nI 1000 * nI 1 = nI 1000 by decide, nI_add]; congr 1; omega
section
variable {C C' M M' : Mem} {q q' P t t' o z len : Nat} {E E' B F B' F' : Nat → Nat}
theorem SI.join {k : Nat} (h : SI t C q P) (hP : P < 12) (hk : k ≤ 100000) : SI (t + 1) (up (up C (q + 1) P (nI k)) q 3 (nI (P + 1))) q (P + 1) := by
  obtain ⟨⟨a1, a2, a3, a4, a5, a6⟩, b2, b3, ⟨dy, d1, d2⟩, b5⟩ := h
  have N : ∀ a, a ≠ q → a ≠ q + 1 → up (up C (q + 1) P (nI k)) q 3 (nI (P + 1)) a = C a := fun a h1 h2 => by rw [up_ne h1, up_ne h2]
  have N1 : ∀ r, r ≠ P → up (up C (q + 1) P (nI k)) q 3 (nI (P + 1)) (q + 1) r = C (q + 1) r := fun r h => by rw [up_ne (by omega), up_ne2 h]
  have N0 : ∀ j, j ≠ 3 → up (up C (q + 1) P (nI k)) q 3 (nI (P + 1)) q j = C q j := fun j h => by rw [up_ne2 h, up_ne (by omega)]
  have z8 := (a3 P (Nat.le_refl P) hP).1 8 (by decide) (by decide)
  have h9 := N (q + 9) (by omega) (by omega)
  refine ⟨⟨⟨up_eq, hP, fun p hp => by rw [N _ (by omega) (by omega)]; exact a1.2.2 p hp⟩, fun r s hr hs => ?_, fun r h1 h2 => ⟨fun i' h3 h4 => ?_, fun s hs => ?_⟩, fun s hs => ?_, ?_, fun r hr => ?_⟩, fun r hr => ?_, fun r hr => ?_, ⟨dy, by rw [N0 0 (by decide)]; exact d1, by omega⟩, ?_⟩
  · rw [show bm (up (up C (q + 1) P (nI k)) q 3 (nI (P + 1))) q r s = bm C q r s from congrFun h9 _]; exact a2 r s hr hs
  · by_cases e : i' = 1
    · subst e; rw [N1 r (by omega)]; exact (a3 r (by omega) h2).1 1 h3 h4
    · rw [N _ (by omega) (by omega)]; exact (a3 r (by omega) h2).1 i' h3 h4
  · rw [show bm (up (up C (q + 1) P (nI k)) q 3 (nI (P + 1))) q r s = bm C q r s from congrFun h9 _]; exact (a3 r (by omega) h2).2 s hs
  · rw [N _ (by omega) (by omega), N _ (by omega) (by omega), N _ (by omega) (by omega), N _ (by omega) (by omega)]
    obtain ⟨c1, c2, c3, w, w1, w2⟩ := a4 s hs
    exact ⟨c1, c2, c3, w, w1, Nat.lt_of_lt_of_le w2 (Nat.pow_le_pow_right (by decide) (Nat.le_succ P))⟩
  · rw [N0 1 (by decide)]; exact a5
  · rw [N _ (by omega) (by omega)]
    obtain ⟨d, e1, e2⟩ := a6 r hr
    exact ⟨d, e1, Nat.le_trans e2 (Nat.mul_le_mul_left _ (Nat.le_succ t))⟩
  · show ∃ k', _ = nI k' ∧ hm _ q r ≤ k' ∧ k' ≤ 2000000 * (t + 1)
    rw [hm_c h9]
    by_cases e : r = P
    · subst e
      have e0 : hm C q r = 0 := hm_0 (fun s hs => ((a3 r (Nat.le_refl r) hP).2 s hs).trans nI_0.symm)
      rw [e0]
      refine ⟨k, ?_, by omega, by omega⟩
      rw [up_ne (by omega), up_eq]
    · rw [N1 r e]
      obtain ⟨d, e1, e2, e3⟩ := b2 r hr
      exact ⟨d, e1, e2, Nat.le_trans e3 (Nat.mul_le_mul_left _ (Nat.le_succ t))⟩
  · rw [N _ (by omega) (by omega), hm_c h9]; exact b3 r hr
  · rw [N0 2 (by decide), b5]
    show _ = sm _ P + up (up C (q + 1) P (nI k)) q 3 (nI (P + 1)) (q + 8) P
    rw [N _ (by omega) (by omega), z8, Int32.add_zero]
theorem SI.rcv {p k : Nat} (h : SI t C q P) (ht : t ≤ 512) (hp : p < P) (hk : k ≤ 1000000) : SI (t + 1) (rcv C q p (nI k)) q P := by
  obtain ⟨b1, b2, b3, ⟨dy, d1, d2⟩, b5⟩ := h
  have R : ∀ a, a ≠ q + 1 → a ≠ q + 3 → a ≠ q + 15 → Jvm.Pilot.CSilenceHoursLaw_law_r9884_f437a2.rcv C q p (nI k) a = C a := fun a h1 h2 h3 => rcv_ne h1 h2 h3
  have h9 := R (q + 9) (by omega) (by omega) (by omega)
  have hE : ∀ r, r < 12 → (fun _ => 1000 * t) r < 2 ^ 31 := fun r _ => by show 1000 * t < _; omega
  have b1' := b1.rc (k := k) hE hp (by omega)
  have b2' := b2.rc (k := k) (B' := fun _ => 2000000 * (t + 1)) hE hp (by omega) b1 (fun r _ _ => by show 2000000 * t ≤ 2000000 * (t + 1); omega) (by show 2000000 * t + k ≤ 2000000 * (t + 1); omega)
  refine ⟨b1'.mono (fun _ _ => Nat.mul_le_mul_left _ (Nat.le_succ t)), b2'.le (fun _ _ => Nat.le_refl _) (fun r _ => by rw [hm_c h9]; exact Nat.le_refl _), fun r hr => by rw [R _ (by omega) (by omega) (by omega), hm_c h9]; exact b3 r hr, ⟨dy, by rw [R _ (by omega) (by omega) (by omega)]; exact d1, by omega⟩, by rw [R _ (by omega) (by omega) (by omega), R _ (by omega) (by omega) (by omega)]; exact b5⟩
theorem SI.take {p k : Nat} (h : SI t C q P) (hp : p < P) (hk : hm C q p ≤ k) (hk2 : k ≤ 2000000 * t) : SI t (up C (q + 1) p (nI k)) q P := by
  obtain ⟨b1, b2, b3, ⟨dy, d1, d2⟩, b5⟩ := h
  have h9 : up C (q + 1) p (nI k) (q + 9) = C (q + 9) := up_ne (by omega)
  refine ⟨b1.w (by omega) hp, (b2.w (F' := fun p => hm C q p) (B' := fun _ => 2000000 * t) ⟨k, rfl, hk, hk2⟩ (fun _ _ _ => ⟨Nat.le_refl _, Nat.le_refl _⟩)).le (fun _ _ => Nat.le_refl _) (fun r _ => by rw [hm_c h9]; exact Nat.le_refl _), fun r hr => by rw [up_ne (by omega), hm_c h9]; exact b3 r hr, ⟨dy, by rw [up_ne (by omega)]; exact d1, by omega⟩, by rw [up_ne (by omega), up_ne (by omega)]; exact b5⟩
theorem SI.fine {k : Nat} (h : SI t C q P) (hk : k ≤ 1000) : SI t (up C q 1 (nI k)) q P := by
  obtain ⟨b1, b2, b3, ⟨dy, d1, d2⟩, b5⟩ := h
  have h9 : up C q 1 (nI k) (q + 9) = C (q + 9) := up_ne (by omega)
  refine ⟨b1.w0 (by decide) (fun _ => ⟨k, rfl, hk⟩), (b2.o (by omega)).le (fun _ _ => Nat.le_refl _) (fun r _ => by rw [hm_c h9]; exact Nat.le_refl _), fun r hr => by rw [up_ne (by omega), hm_c h9]; exact b3 r hr, ⟨dy, by rw [up_ne2 (by decide)]; exact d1, by omega⟩, by rw [up_ne2 (by decide), up_ne (by omega)]; exact b5⟩
/-- a person's money -/
theorem SI.bA {p s : Nat} (h : SI t C q P) (hp : p < 12) (hs : s < 96) : bA C q p s = nI (amt C q p s) ∧ amt C q p s ≤ 1998 ∧ amt C q p s ≤ hm C q p := by
  obtain ⟨h1, h2⟩ := h.1.bv hp hs (nI 0)
  obtain ⟨h3, h4⟩ := h.1.bv hp hs (nI 1)
  refine ⟨?_, by unfold amt; omega, ns_1 (f := fun s => amt C q p s) hs⟩
  show bF (bm C q p s) (nI 0) + bF (bm C q p s) (nI 1) = nI (bk C q p s (nI 0) + bk C q p s (nI 1))
  rw [h1, h3, nI_add]
theorem SI.bE {p s a : Nat} (ht : t ≤ 512) (h : SI t C q P) (hp : p < 12) (hs : s < 96) (ha : a ≤ 999) : ∃ e v, C (q + 3) p = nI e ∧ e ≤ 1000 * t ∧ fM C q p = nI v ∧ v ≤ 2000000 * t ∧ bE C q p s (nI a) = if 0 < e ∨ v + amt C q p s < a then (-2) else nI 0 := by
  obtain ⟨k, k1, k2, k3, k4⟩ := h.mny hp
  obtain ⟨e, e1, e2⟩ := h.1.deb hp
  have e2 : e ≤ 1000 * t := e2
  obtain ⟨h1, h2, h3⟩ := h.bA hp hs
  refine ⟨e, _, e1, e2, k4, by omega, ?_⟩
  unfold Jvm.Pilot.CSilenceHoursLaw_law_r9884_f437a2.bE
  rw [if_pos ⟨nI_le (Nat.zero_le _) (by omega), nI_le ha (by decide)⟩, e1, k4, h1, nI_add]
  have x1 : 0 < nI e ↔ 0 < e := by rw [← nI_0]; exact nI_ltI (by decide) (by omega)
  have x2 : nI (k - hm C q p + amt C q p s) < nI a ↔ k - hm C q p + amt C q p s < a := nI_ltI (by omega) (by omega)
  by_cases c : 0 < e ∨ k - hm C q p + amt C q p s < a
  · rw [if_pos c, if_pos (c.imp x1.mpr x2.mpr)]
  · rw [if_neg c, if_neg (fun z => c (z.imp x1.mp x2.mp))]
theorem pB_9 {p s : Nat} {sd am : Int32} : pB C q p s sd am (q + 9) = up C (q + 9) (p * 96 + s) (mkB sd am) (q + 9) := by
  funext j
  show up (up C (q + 2) p _) (q + 9) (p * 96 + s) (mkB sd am) (q + 9) j = _
  by_cases e : j = p * 96 + s
  · subst e; rw [up_eq, up_eq]
  · rw [up_ne2 e, up_ne2 e, up_ne (by omega)]
theorem pB_bm {p s r v : Nat} {sd am : Int32} (hs : s < 96) (hv : v < 96) : bm (pB C q p s sd am) q r v = if r = p ∧ v = s then mkB sd am else bm C q r v := by
  show pB C q p s sd am (q + 9) (r * 96 + v) = _
  rw [pB_9]
  by_cases e : r = p ∧ v = s
  · obtain ⟨rfl, rfl⟩ := e; rw [if_pos ⟨rfl, rfl⟩, up_eq]
  · rw [if_neg e, up_ne2 (fun z => e ⟨by omega, by omega⟩)]
theorem SI.bid {p s a : Nat} {sd : Int32} (ht : t ≤ 512) (h : SI t C q P) (hp : p < P) (hs : s < 96) (hsd : sd = nI 0 ∨ sd = nI 1) (ha : a ≤ 999) (he : Jvm.Pilot.CSilenceHoursLaw_law_r9884_f437a2.bE C q p s (nI a) = 0) : SI t (pB C q p s sd (nI a)) q P ∧ ∃ v, fM C q p = nI v ∧ v ≤ 2000000 * t ∧ a ≤ v + amt C q p s ∧ fM (pB C q p s sd (nI a)) q p = nI (v + amt C q p s - a) := by
  have hp12 : p < 12 := Nat.lt_of_lt_of_le hp h.P12
  obtain ⟨e, v, e1, e2, e3, e4, e5⟩ := h.bE ht hp12 hs ha
  obtain ⟨k, k1, k2, k3, k4⟩ := h.mny hp12
  obtain ⟨g1, g2, g3⟩ := h.bA hp12 hs
  have hv : v = k - hm C q p := (nI_eq (by omega) (by omega)).mp (e3.symm.trans k4)
  have hc : ¬ (0 < e ∨ v + amt C q p s < a) := fun c => by
    rw [e5, if_pos c] at he
    exact absurd he (by decide)
  obtain ⟨⟨mk, m1, m2⟩, -, -, m4, -⟩ := mkB_n ha hsd
  obtain ⟨b1, b2, b3, ⟨dy, d1, d2⟩, b5⟩ := h
  have hamt : ∀ r v, r < 12 → v < 96 → amt (pB C q p s sd (nI a)) q r v = if r = p ∧ v = s then a else amt C q r v := fun r v hr hv => by
    show (bF (bm (pB C q p s sd (nI a)) q r v) (nI 0)).toInt.toNat + (bF (bm (pB C q p s sd (nI a)) q r v) (nI 1)).toInt.toNat = _
    rw [pB_bm hs hv]
    by_cases e : r = p ∧ v = s
    · rw [if_pos e, if_pos e]; exact m4
    · rw [if_neg e, if_neg e]; rfl
  have hmp : hm (pB C q p s sd (nI a)) q p + amt C q p s = hm C q p + a := by
    have := ns_u (f := fun v => amt C q p v) (f' := fun v => amt (pB C q p s sd (nI a)) q p v) (i := s) 96 hs (fun v hv e => by
      show amt (pB C q p s sd (nI a)) q p v = amt C q p v
      rw [hamt p v hp12 hv, if_neg (fun z => e z.2)])
    have e2 : amt (pB C q p s sd (nI a)) q p s = a := by rw [hamt p s hp12 hs, if_pos ⟨rfl, rfl⟩]
    have this : hm (pB C q p s sd (nI a)) q p + amt C q p s = hm C q p + amt (pB C q p s sd (nI a)) q p s := this
    rw [e2] at this
    exact this
  have hmo : ∀ r, r < 12 → r ≠ p → hm (pB C q p s sd (nI a)) q r = hm C q r := fun r hr hne => ns_c 96 (fun v hv => by rw [hamt r v hr hv, if_neg (fun z => hne z.1)])
  have e2p : pB C q p s sd (nI a) (q + 2) p = nI (hm (pB C q p s sd (nI a)) q p) := by
    have e0 : pB C q p s sd (nI a) (q + 2) p = C (q + 2) p + (nI a - Jvm.Pilot.CSilenceHoursLaw_law_r9884_f437a2.bA C q p s) := by
      unfold pB
      rw [up_ne (by omega), up_eq]
    rw [e0, b3 p hp12, g1]
    have h9 : nI (hm (pB C q p s sd (nI a)) q p) + nI (amt C q p s) = nI (hm C q p) + nI a := by rw [nI_add, nI_add, hmp]
    revert h9
    generalize nI (hm (pB C q p s sd (nI a)) q p) = x
    generalize nI (amt C q p s) = y
    generalize nI (hm C q p) = w
    generalize nI a = u
    intro h9
    grind
  have e1p : ∀ r, pB C q p s sd (nI a) (q + 1) r = C (q + 1) r := fun r => by rw [pB_ne (by omega) (by omega)]
  refine ⟨⟨?_, fun r hr => ?_, fun r hr => ?_, ⟨dy, by rw [pB_ne (by omega) (by omega)]; exact d1, d2⟩, by rw [pB_ne (by omega) (by omega), pB_ne (by omega) (by omega)]; exact b5⟩, v, e3, e4, by omega, ?_⟩
  · exact (b1.w (by omega) hp).w9 hp hs ⟨mk, m1, m2⟩
  · rw [e1p]
    by_cases e : r = p
    · subst e
      exact ⟨k, k1, by show hm (pB C q r s sd (nI a)) q r ≤ k; omega, k3⟩
    · obtain ⟨d, x1, x2, x3⟩ := b2 r hr
      exact ⟨d, x1, by show hm (pB C q p s sd (nI a)) q r ≤ d; rw [hmo r hr e]; exact x2, x3⟩
  · by_cases e : r = p
    · subst e; exact e2p
    · rw [hmo r hr e]
      unfold pB
      rw [up_ne (by omega), up_ne2 e]; exact b3 r hr
  · show pB C q p s sd (nI a) (q + 1) p - pB C q p s sd (nI a) (q + 2) p = _
    rw [e1p, e2p, k1, nI_subn (by omega)]
    congr 1
    omega
end
