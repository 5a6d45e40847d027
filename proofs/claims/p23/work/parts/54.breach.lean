/-! BREACHES: what is paid and owed is the fine; the money stays. -/
theorem bc_sum2 : ∀ a, a < 64 → ∀ b, b < 64 → bcF (nI (64 * a + b)) = sm (fun i => (nI (64 * a + b) >>> (nI i &&& 31)) &&& nI 1) 12 := by decide +kernel
theorem bc_sum (k : Nat) (hk : k < 4096) : bcF (nI k) = sm (fun i => (nI k >>> (nI i &&& 31)) &&& nI 1) 12 := by
  have h := bc_sum2 (k / 64) (by omega) (k % 64) (by omega)
  rw [show 64 * (k / 64) + k % 64 = k by omega] at h
  exact h
theorem bit_hi : ∀ i, i < 12 → ∀ k, k < 2 ^ i → (nI k >>> (nI i &&& 31)) &&& nI 1 = nI 0 := by decide +kernel
theorem bit_01 (x : Int32) : x &&& nI 1 = nI 0 ∨ x &&& nI 1 = nI 1 := by
  obtain ⟨j, hj, e⟩ := pk_andE x (m := nI 1) 1 (by decide)
  rcases (show j = 0 ∨ j = 1 by omega) with rfl | rfl
  · exact Or.inl e
  · exact Or.inr e
theorem sm_hi {f : Nat → Int32} {P : Nat} : ∀ n, (∀ i, P ≤ i → i < P + n → f i = 0) → sm f (P + n) = sm f P
  | 0, _ => rfl
  | n + 1, h => by
    show sm f (P + n) + f (P + n) = sm f P
    rw [sm_hi n (fun i h1 h2 => h i h1 (by omega)), h (P + n) (by omega) (by omega)]
    exact Int32.add_zero _
section
variable {C C' : Mem} {q q' P : Nat} {E E' B F B' F' : Nat → Nat}
/-- whether person i won the slot for quiet -/
abbrev wb (C : Mem) (q s i : Nat) : Int32 := (C (q + 13) s >>> (nI i &&& 31)) &&& nI 1
theorem sf_all {s X : Nat} (hE : ∀ r, r < 12 → E r < 2 ^ 31) (hX : X < 2 ^ 31) (hb : SB E C q P) (hr : SP B F C q) : ∀ k, k ≤ P → SB E (sfM C q s (nI X) k) q P ∧ SP (fun p => if p < k then B p + X else B p) F (sfM C q s (nI X) k) q ∧ mon (sfM C q s (nI X) k) q P = mon C q P + sm (fun i => wb C q s i) k * nI X
  | 0, _ => ⟨hb, hr, by show _ = _ + 0 * _; rw [Int32.zero_mul]; exact (Int32.add_zero _).symm⟩
  | k + 1, hk => by
    obtain ⟨h1, h2, h3⟩ := sf_all hE hX hb hr k (by omega)
    have hkP : k < P := hk
    have hk12 : k < 12 := Nat.lt_of_lt_of_le hkP hb.P12
    have e13 : sfM C q s (nI X) k (q + 13) s = C (q + 13) s := congrFun (sfM_ne (by omega) (by omega) (by omega) k) s
    show SB E (if (sfM C q s (nI X) k (q + 13) s >>> (nI k &&& 31)) &&& nI 1 = nI 1 then rcv (sfM C q s (nI X) k) q k (nI X) else sfM C q s (nI X) k) q P ∧ SP _ F (if (sfM C q s (nI X) k (q + 13) s >>> (nI k &&& 31)) &&& nI 1 = nI 1 then rcv (sfM C q s (nI X) k) q k (nI X) else sfM C q s (nI X) k) q ∧ mon (if (sfM C q s (nI X) k (q + 13) s >>> (nI k &&& 31)) &&& nI 1 = nI 1 then rcv (sfM C q s (nI X) k) q k (nI X) else sfM C q s (nI X) k) q P = mon C q P + (sm (fun i => wb C q s i) k + wb C q s k) * nI X
    rw [e13]
    obtain ⟨st, s1, s2⟩ := h1.st hk12
    by_cases hbit : (C (q + 13) s >>> (nI k &&& 31)) &&& nI 1 = nI 1
    · rw [if_pos hbit, show wb C q s k = nI 1 from hbit]
      refine ⟨h1.rc hE hkP hX, h2.rc hE hkP hX h1 (fun r hr e => ?_) ?_, ?_⟩
      · show (if r < k then _ else _) ≤ (if r < k + 1 then _ else _)
        split <;> split <;> omega
      · show (if k < k then _ else _) + _ ≤ (if k < k + 1 then _ else _)
        rw [if_neg (Nat.lt_irrefl k), if_pos (Nat.lt_succ_self k)]
        omega
      · rw [mon_rc s1 s2 hkP, h3, show nI 1 = 1 by decide]
        grind
    · rw [if_neg hbit]
      have h0 : wb C q s k = nI 0 := (bit_01 _).resolve_right hbit
      refine ⟨h1, h2.le (fun r hr => ?_) (fun _ _ => Nat.le_refl _), ?_⟩
      · show (if r < k then _ else _) ≤ (if r < k + 1 then _ else _)
        split <;> split <;> omega
      · rw [h0, h3, nI_0, Int32.add_zero]
theorem sf_fin {s X : Nat} (hE : ∀ r, r < 12 → E r < 2 ^ 31) (hs : s < 96) (hX : X < 2 ^ 31) (hb : SB E C q P) (hr : SP B F C q) : SB E (sfMem C q P s (nI X)) q P ∧ SP (fun p => B p + X) F (sfMem C q P s (nI X)) q ∧ mon (sfMem C q P s (nI X)) q P = mon C q P + sfRes C q s (nI X) := by
  obtain ⟨k, k1, k2⟩ := hb.win hs
  have hP := hb.P12
  have hk : k < 4096 := Nat.lt_of_lt_of_le k2 (Nat.pow_le_pow_right (by decide) hP)
  have e1 := bc_sum k hk
  have e2 : sm (fun i => (nI k >>> (nI i &&& 31)) &&& nI 1) 12 = sm (fun i => wb C q s i) P := by
    have := sm_hi (f := fun i => (nI k >>> (nI i &&& 31)) &&& nI 1) (P := P) (12 - P) (fun i h1 h2 => (bit_hi i (by omega) k (Nat.lt_of_lt_of_le k2 (Nat.pow_le_pow_right (by decide) h1))).trans nI_0)
    rw [show P + (12 - P) = 12 by omega] at this
    rw [this]
    exact sm_c P (fun i hi => by show _ = (C (q + 13) s >>> (nI i &&& 31)) &&& nI 1; rw [k1])
  have e3 : sm (fun i => wb C q s i) P = nI (ns (fun i => if wb C q s i = nI 1 then 1 else 0) P) := sm_ns P (fun i hi => by
    rcases bit_01 (C (q + 13) s >>> (nI i &&& 31)) with z | z
    · rw [show wb C q s i = nI 0 from z]; decide
    · rw [show wb C q s i = nI 1 from z]; decide)
  have e4 : ns (fun i => if wb C q s i = nI 1 then 1 else 0) P ≤ 12 := by
    have := ns_b (f := fun i => if wb C q s i = nI 1 then 1 else 0) (B := 1) P (fun i hi => by show (if _ then _ else _) ≤ 1; split <;> omega)
    omega
  generalize hw : ns (fun i => if wb C q s i = nI 1 then 1 else 0) P = w at e3 e4
  unfold sfMem sfRes
  rw [k1, e1, e2, e3]
  by_cases hw0 : 0 < w
  · rw [if_pos (nI_gt hw0 (by omega)), if_pos (nI_gt hw0 (by omega)), nI_div hX hw0 (by omega)]
    have hd : X / w ≤ X := Nat.div_le_self X w
    obtain ⟨h1, h2, h3⟩ := sf_all (s := s) (X := X / w) hE (by omega) hb hr P (Nat.le_refl P)
    refine ⟨h1, h2.le (fun p _ => ?_) (fun _ _ => Nat.le_refl _), ?_⟩
    · show (if p < P then _ else _) ≤ _
      split <;> omega
    · rw [h3, e3]
      grind
  · have hz : ¬ 0 < nI w := by rw [show w = 0 by omega]; decide
    rw [if_neg hz, if_neg hz]
    exact ⟨hb, hr.le (fun p _ => Nat.le_add_right _ _) (fun _ _ => Nat.le_refl _), (Int32.add_zero _).symm⟩
theorem sfMem_ne {s b : Nat} {m : Int32} (h1 : b ≠ q + 1) (h2 : b ≠ q + 3) (h4 : b ≠ q + 15) : sfMem C q P s m b = C b := by
  unfold sfMem
  split
  · exact sfM_ne h1 h2 h4 P
  · rfl
theorem nbM_ne {p s b : Nat} (h0 : b ≠ q) (h1 : b ≠ q + 1) (h3 : b ≠ q + 3) (h4 : b ≠ q + 4) (h8 : b ≠ q + 8) (h15 : b ≠ q + 15) : nbM C q P p s b = C b := by
  unfold nbM
  rw [up_ne h15, sfMem_ne h1 h3 h15, up_ne h3, up_ne h1, up_ne h4, up_ne h8, up_ne h0]
/-- what a breach writes -/
theorem nbM_e {p s : Nat} : nbM C q P p s = up (sfMem (up (up (up (up (up C q 2 (C q 2 + nI 1)) (q + 8) p (C (q + 8) p + nI 1)) (q + 4) p (nI (s / 24))) (q + 1) p (C (q + 1) p - mn (C q 1) (fM C q p))) (q + 3) p (C (q + 3) p + (C q 1 - mn (C q 1) (fM C q p)))) q P s (mn (C q 1) (fM C q p))) (q + 15) (s / 24) (sfMem (up (up (up (up (up C q 2 (C q 2 + nI 1)) (q + 8) p (C (q + 8) p + nI 1)) (q + 4) p (nI (s / 24))) (q + 1) p (C (q + 1) p - mn (C q 1) (fM C q p))) (q + 3) p (C (q + 3) p + (C q 1 - mn (C q 1) (fM C q p)))) q P s (mn (C q 1) (fM C q p)) (q + 15) (s / 24) + (mn (C q 1) (fM C q p) - sfRes (up (up (up (up (up C q 2 (C q 2 + nI 1)) (q + 8) p (C (q + 8) p + nI 1)) (q + 4) p (nI (s / 24))) (q + 1) p (C (q + 1) p - mn (C q 1) (fM C q p))) (q + 3) p (C (q + 3) p + (C q 1 - mn (C q 1) (fM C q p)))) q s (mn (C q 1) (fM C q p)))) ∧ nbR C q p s = mn (C q 1) (fM C q p) := by
  have a1 : ∀ j, j ≠ 2 → up (up (up C q 2 (C q 2 + nI 1)) (q + 8) p (C (q + 8) p + nI 1)) (q + 4) p (nI (s / 24)) q j = C q j := fun j hj => by
    rw [up_ne (by omega), up_ne (by omega), up_ne2 hj]
  have a2 : ∀ b, b ≠ q → b ≠ q + 8 → b ≠ q + 4 → up (up (up C q 2 (C q 2 + nI 1)) (q + 8) p (C (q + 8) p + nI 1)) (q + 4) p (nI (s / 24)) b = C b := fun b h1 h2 h3 => by
    rw [up_ne h3, up_ne h2, up_ne h1]
  unfold nbM nbR
  simp only []
  rw [show up C q 2 (C q 2 + nI 1) (q + 8) p = C (q + 8) p by rw [up_ne (by omega)]]
  unfold fM
  rw [up_ne (show q ≠ q + 1 by omega), up_ne (show q + 3 ≠ q + 1 by omega), a1 1 (by decide), a2 (q + 1) (by omega) (by omega) (by omega), a2 (q + 2) (by omega) (by omega) (by omega), a2 (q + 3) (by omega) (by omega) (by omega)]
  exact ⟨rfl, rfl⟩
theorem SI.mny {t p : Nat} (h : SI t C q P) (hp : p < 12) : ∃ k, C (q + 1) p = nI k ∧ hm C q p ≤ k ∧ k ≤ 2000000 * t ∧ fM C q p = nI (k - hm C q p) := by
  obtain ⟨k, k1, k2, k3⟩ := h.2.1 p hp
  refine ⟨k, k1, k2, k3, ?_⟩
  show C (q + 1) p - C (q + 2) p = _
  rw [k1, h.2.2.1 p hp, nI_subn k2]
theorem SI.breach {t p s : Nat} (ht : t < 512) (hpP : p < P) (hs : s < 96) (h : SI t C q P) : ∃ f v, C q 1 = nI f ∧ f ≤ 1000 ∧ fM C q p = nI v ∧ v < 2 ^ 31 ∧ nbR C q p s = nI (min f v) ∧ SI (t + 1) (nbM C q P p s) q P ∧ mon (nbM C q P p s) q P = mon C q P ∧ ∀ r, r < 12 → ∃ e e', C (q + 3) r = nI e ∧ nbM C q P p s (q + 3) r = nI e' ∧ e ≤ 1000 * t ∧ e' ≤ e + (if r = p then f - min f v else 0) := by
  obtain ⟨hb, hpu, hh, ⟨dy, d1, d2⟩, hbr⟩ := h
  have hp12 : p < 12 := Nat.lt_of_lt_of_le hpP hb.P12
  obtain ⟨f, f1, f2⟩ := hb.fine
  obtain ⟨k, k1, k2, k3, k4⟩ := SI.mny ⟨hb, hpu, hh, ⟨dy, d1, d2⟩, hbr⟩ hp12
  have hEx : ∀ p, p < 12 → ∃ k, C (q + 3) p = nI k ∧ k ≤ 1000 * t ∧ (C (q + 3) p).toInt.toNat = k := fun p hp => by
    obtain ⟨k, h1, h2⟩ := hb.deb hp
    have h2 : k ≤ 1000 * t := h2
    refine ⟨k, h1, h2, ?_⟩
    rw [h1, nI_toInt (by omega)]
    omega
  obtain ⟨pd, hpd⟩ : ∃ pd, min f (k - hm C q p) = pd := ⟨_, rfl⟩
  have epd : mn (C q 1) (fM C q p) = nI pd := by rw [f1, k4, mn_n (by omega) (by omega), hpd]
  obtain ⟨e0, e1, e2, e3⟩ := hEx p hp12
  have hb2 := hb.ex (fun r _ => by show 1000 * t < _; omega)
  have b5 : SB (fun r => (C (q + 3) r).toInt.toNat + (if r = p then f - pd else 0)) (up (up (up (up (up C q 2 (C q 2 + nI 1)) (q + 8) p (C (q + 8) p + nI 1)) (q + 4) p (nI (s / 24))) (q + 1) p (C (q + 1) p - nI pd)) (q + 3) p (C (q + 3) p + (C q 1 - nI pd))) q P := by
    refine ((((hb2.w0 (by decide) (fun z => absurd z (by decide))).w (by omega) hpP).w4 (by omega) hpP).w (by omega) hpP).w3 hpP ⟨e0 + (f - pd), by rw [e1, f1, nI_subn (by omega), nI_add], ?_⟩ (fun r hr e => ?_)
    · show e0 + (f - pd) ≤ (C (q + 3) p).toInt.toNat + (if p = p then f - pd else 0)
      rw [if_pos rfl]; omega
    · show _ ≤ (C (q + 3) r).toInt.toNat + (if r = p then f - pd else 0)
      omega
  have p5 : SP (fun _ => 2000000 * t) (fun r => hm C q r) (up (up (up (up (up C q 2 (C q 2 + nI 1)) (q + 8) p (C (q + 8) p + nI 1)) (q + 4) p (nI (s / 24))) (q + 1) p (C (q + 1) p - nI pd)) (q + 3) p (C (q + 3) p + (C q 1 - nI pd))) q := by
    refine ((((hpu.o (by omega)).o (by omega)).o (by omega)).w ⟨k - pd, by rw [k1, nI_subn (by omega)], ?_, ?_⟩ (fun r hr e => ⟨Nat.le_refl _, Nat.le_refl _⟩)).o (by omega)
    · show hm C q p ≤ k - pd; omega
    · show k - pd ≤ 2000000 * t; omega
  have hE5 : ∀ r, r < 12 → (C (q + 3) r).toInt.toNat + (if r = p then f - pd else 0) < 2 ^ 31 := fun r hr => by
    obtain ⟨k, -, g2, g3⟩ := hEx r hr
    split <;> omega
  obtain ⟨r1, r2, r3⟩ := sf_fin (s := s) (X := pd) hE5 hs (by omega) b5 p5
  obtain ⟨en, er⟩ := nbM_e (C := C) (q := q) (P := P) (p := p) (s := s)
  rw [epd] at en er
  have m5 : mon (up (up (up (up (up C q 2 (C q 2 + nI 1)) (q + 8) p (C (q + 8) p + nI 1)) (q + 4) p (nI (s / 24))) (q + 1) p (C (q + 1) p - nI pd)) (q + 3) p (C (q + 3) p + (C q 1 - nI pd))) q P = mon C q P - nI pd := by
    rw [mon_o (by omega) (by omega), mon_1 hpP, mon_o (by omega) (by omega), mon_o (by omega) (by omega), mon_o (by omega) (by omega), up_ne (show q + 1 ≠ q + 4 by omega), up_ne (show q + 1 ≠ q + 8 by omega), up_ne (show q + 1 ≠ q by omega)]
    grind
  have hN9 : nbM C q P p s (q + 9) = C (q + 9) := nbM_ne (by omega) (by omega) (by omega) (by omega) (by omega) (by omega)
  have hNB : SB (fun r => (C (q + 3) r).toInt.toNat + (if r = p then f - pd else 0)) (nbM C q P p s) q P := by rw [en]; exact r1.s15
  refine ⟨f, k - hm C q p, f1, f2, k4, by omega, by rw [er, hpd], ⟨hNB.mono (fun r hr => ?_), ?_, fun r hr => ?_, ⟨dy, ?_, by omega⟩, ?_⟩, ?_, fun r hr => ?_⟩
  · obtain ⟨k, -, g2, g3⟩ := hEx r hr
    show (C (q + 3) r).toInt.toNat + (if r = p then f - pd else 0) ≤ 1000 * (t + 1)
    split <;> omega
  · have : SP (fun r => 2000000 * t + pd) (fun r => hm C q r) (nbM C q P p s) q := by rw [en]; exact r2.o (by omega)
    exact this.le (fun r hr => by show 2000000 * t + pd ≤ 2000000 * (t + 1); omega) (fun r hr => by rw [hm_c hN9]; exact Nat.le_refl _)
  · rw [nbM_ne (by omega) (by omega) (by omega) (by omega) (by omega) (by omega), hm_c hN9]; exact hh r hr
  · rw [en, up_ne (by omega), sfMem_ne (by omega) (by omega) (by omega), up_ne (by omega), up_ne (by omega), up_ne (by omega), up_ne (by omega), up_ne2 (by decide)]
    exact d1
  · have ea : nbM C q P p s q 2 = C q 2 + nI 1 := by
      rw [en, up_ne (by omega), sfMem_ne (by omega) (by omega) (by omega), up_ne (by omega), up_ne (by omega), up_ne (by omega), up_ne (by omega), up_eq]
    have eb : ∀ r, nbM C q P p s (q + 8) r = up C (q + 8) p (C (q + 8) p + nI 1) (q + 8) r := fun r => by
      rw [en, up_ne (by omega), sfMem_ne (by omega) (by omega) (by omega), up_ne (by omega), up_ne (by omega), up_ne (by omega)]
      by_cases e : r = p
      · subst e; rw [up_eq, up_eq]
      · rw [up_ne2 e, up_ne2 e, up_ne (by omega)]
    rw [ea, sm_u (f := fun r => C (q + 8) r) (f' := fun r => nbM C q P p s (q + 8) r) (i := p) P hpP (fun r hr e => by rw [eb, up_ne2 e]), eb, up_eq, hbr]
    grind
  · rw [en, mon_15 (by omega), r3, m5]
    grind
  · obtain ⟨g1, g2, g3, g4⟩ := hEx r hr
    obtain ⟨e', e4, e5⟩ := hNB.deb hr
    refine ⟨g1, e', g2, e4, g3, ?_⟩
    have e5 : e' ≤ (C (q + 3) r).toInt.toNat + (if r = p then f - pd else 0) := e5
    rw [hpd]
    omega
end
