theorem le_mxI {L a b : Nat} : L ≤ max a b ↔ L ≤ a ∨ L ≤ b := by omega
theorem qrun_ge {f : Nat → Int32} : ∀ n h L, L ≤ qrun f n h ↔ L ≤ n ∧ ∀ j, h ≤ j → j < h + L → f j = 0
  | 0, h, L => by
    show L ≤ 0 ↔ _
    constructor
    · intro q; exact ⟨q, fun j h1 h2 => by omega⟩
    · intro q; exact q.1
  | n + 1, h, L => by
    show L ≤ (if f h = 0 then qrun f n (h + 1) + 1 else 0) ↔ _
    by_cases e : f h = 0
    · rw [if_pos e]
      cases L with
      | zero => exact ⟨fun _ => ⟨Nat.zero_le _, fun j h1 h2 => by omega⟩, fun _ => Nat.zero_le _⟩
      | succ L =>
        rw [Nat.succ_le_succ_iff, qrun_ge n (h + 1) L]
        constructor
        · rintro ⟨q1, q2⟩
          refine ⟨by omega, fun j h1 h2 => ?_⟩
          by_cases hj : j = h
          · rw [hj]; exact e
          · exact q2 j (by omega) (by omega)
        · rintro ⟨q1, q2⟩
          exact ⟨by omega, fun j h1 h2 => q2 j (by omega) (by omega)⟩
    · rw [if_neg e]
      constructor
      · intro q
        have : L = 0 := by omega
        subst this
        exact ⟨Nat.zero_le _, fun j h1 h2 => by omega⟩
      · rintro ⟨q1, q2⟩
        by_cases hL : L = 0
        · omega
        · exact absurd (q2 h (Nat.le_refl h) (by omega)) e
theorem zr_ge {f : Nat → Int32} : ∀ k L, L ≤ zr f k ↔ L ≤ k ∧ ∀ j, k - L ≤ j → j < k → f j = 0
  | 0, L => by
    show L ≤ 0 ↔ _
    exact ⟨fun q => ⟨q, fun j h1 h2 => by omega⟩, fun q => q.1⟩
  | k + 1, L => by
    show L ≤ (if f k = 0 then zr f k + 1 else 0) ↔ _
    by_cases e : f k = 0
    · rw [if_pos e]
      cases L with
      | zero => exact ⟨fun _ => ⟨Nat.zero_le _, fun j h1 h2 => by omega⟩, fun _ => Nat.zero_le _⟩
      | succ L =>
        rw [Nat.succ_le_succ_iff, zr_ge k L]
        constructor
        · rintro ⟨q1, q2⟩
          refine ⟨by omega, fun j h1 h2 => ?_⟩
          by_cases hj : j = k
          · rw [hj]; exact e
          · exact q2 j (by omega) (by omega)
        · rintro ⟨q1, q2⟩
          exact ⟨by omega, fun j h1 h2 => q2 j (by omega) (by omega)⟩
    · rw [if_neg e]
      constructor
      · intro q
        have : L = 0 := by omega
        subst this
        exact ⟨Nat.zero_le _, fun j h1 h2 => by omega⟩
      · rintro ⟨q1, q2⟩
        by_cases hL : L = 0
        · omega
        · exact absurd (q2 k (by omega) (Nat.lt_succ_self k)) e
theorem lqn_ge {f : Nat → Int32} {L : Nat} (hL : 0 < L) : ∀ k, L ≤ lqn f k ↔ ∃ h, h < k ∧ L ≤ qrun f (24 - h) h
  | 0 => by
    show L ≤ 0 ↔ _
    exact ⟨fun q => by omega, fun ⟨h, h1, _⟩ => absurd h1 (Nat.not_lt_zero h)⟩
  | k + 1 => by
    show L ≤ max (lqn f k) (qrun f (24 - k) k) ↔ _
    rw [le_mxI, lqn_ge hL k]
    constructor
    · rintro (⟨h, h1, h2⟩ | h2)
      · exact ⟨h, by omega, h2⟩
      · exact ⟨k, Nat.lt_succ_self k, h2⟩
    · rintro ⟨h, h1, h2⟩
      by_cases hk : h = k
      · subst hk; exact Or.inr h2
      · exact Or.inl ⟨h, by omega, h2⟩
theorem zl_ge {f : Nat → Int32} {L : Nat} (hL : 0 < L) : ∀ k, L ≤ zl f k ↔ ∃ e, e ≤ k ∧ L ≤ zr f e
  | 0 => by
    show L ≤ 0 ↔ _
    refine ⟨fun q => by omega, fun ⟨e, h1, h2⟩ => ?_⟩
    have : e = 0 := by omega
    subst this
    exact h2
  | k + 1 => by
    show L ≤ max (zl f k) (zr f (k + 1)) ↔ _
    rw [le_mxI, zl_ge hL k]
    constructor
    · rintro (⟨h, h1, h2⟩ | h2)
      · exact ⟨h, by omega, h2⟩
      · exact ⟨k + 1, Nat.le_refl _, h2⟩
    · rintro ⟨h, h1, h2⟩
      by_cases hk : h = k + 1
      · subst hk; exact Or.inr h2
      · exact Or.inl ⟨h, by omega, h2⟩
theorem lq_eq (f : Nat → Int32) {n : Nat} (hn : n = 24) : lqn f n = zl f n := by
  have key : ∀ L, 0 < L → (L ≤ lqn f n ↔ L ≤ zl f n) := fun L hL => by
    rw [lqn_ge hL, zl_ge hL]
    constructor
    · rintro ⟨h, h1, h2⟩
      obtain ⟨a, b⟩ := (qrun_ge _ _ _).mp h2
      exact ⟨h + L, by omega, (zr_ge _ _).mpr ⟨by omega, fun j j1 j2 => b j (by omega) j2⟩⟩
    · rintro ⟨e, h1, h2⟩
      obtain ⟨a, b⟩ := (zr_ge _ _).mp h2
      exact ⟨e - L, by omega, (qrun_ge _ _ _).mpr ⟨by omega, fun j j1 j2 => b j j1 (by omega)⟩⟩
  rcases Nat.lt_trichotomy (lqn f n) (zl f n) with h | h | h
  · have := (key (zl f n) (by omega)).mpr (Nat.le_refl _)
    omega
  · exact h
  · have := (key (lqn f n) (by omega)).mp (Nat.le_refl _)
    omega
theorem lqs_sp {f : Nat → Int32} : ∀ k, (lqn f k = 0 ∧ lqs f k = (-9)) ∨ (0 < lqn f k ∧ ∃ h, h < k ∧ qrun f (24 - h) h = lqn f k ∧ (∀ h', h' < h → qrun f (24 - h') h' < lqn f k) ∧ lqs f k = nI h)
  | 0 => Or.inl ⟨rfl, rfl⟩
  | k + 1 => by
    show (max (lqn f k) (qrun f (24 - k) k) = 0 ∧ (if lqn f k < qrun f (24 - k) k then nI k else lqs f k) = (-9)) ∨ (0 < max (lqn f k) (qrun f (24 - k) k) ∧ ∃ h, h < k + 1 ∧ qrun f (24 - h) h = max (lqn f k) (qrun f (24 - k) k) ∧ (∀ h', h' < h → qrun f (24 - h') h' < max (lqn f k) (qrun f (24 - k) k)) ∧ (if lqn f k < qrun f (24 - k) k then nI k else lqs f k) = nI h)
    by_cases c : lqn f k < qrun f (24 - k) k
    · rw [if_pos c, Nat.max_eq_right (Nat.le_of_lt c)]
      refine Or.inr ⟨by omega, k, Nat.lt_succ_self k, rfl, fun h' hh => ?_, rfl⟩
      by_cases q : qrun f (24 - k) k ≤ qrun f (24 - h') h'
      · have := (lqn_ge (f := f) (L := qrun f (24 - k) k) (by omega) k).mpr ⟨h', hh, q⟩
        omega
      · omega
    · rw [if_neg c, Nat.max_eq_left (by omega)]
      rcases lqs_sp k with ⟨h1, h2⟩ | ⟨h1, h, h2, h3, h4, h5⟩
      · exact Or.inl ⟨h1, h2⟩
      · exact Or.inr ⟨h1, h, by omega, h3, h4, h5⟩
theorem zf_sp {f : Nat → Int32} : ∀ k, k ≤ 24 → (zl f k = 0 ∧ zf f k = (-9)) ∨ (0 < zl f k ∧ ∃ e, e ≤ k ∧ zr f e = zl f k ∧ (∀ e', e' < e → zr f e' < zl f k) ∧ zf f k = nI (e - zl f k))
  | 0, _ => Or.inl ⟨rfl, rfl⟩
  | k + 1, hk => by
    show (max (zl f k) (zr f (k + 1)) = 0 ∧ (if zl f k < zr f (k + 1) then nI k - nI (zr f (k + 1)) + nI 1 else zf f k) = (-9)) ∨ (0 < max (zl f k) (zr f (k + 1)) ∧ ∃ e, e ≤ k + 1 ∧ zr f e = max (zl f k) (zr f (k + 1)) ∧ (∀ e', e' < e → zr f e' < max (zl f k) (zr f (k + 1))) ∧ (if zl f k < zr f (k + 1) then nI k - nI (zr f (k + 1)) + nI 1 else zf f k) = nI (e - max (zl f k) (zr f (k + 1))))
    by_cases c : zl f k < zr f (k + 1)
    · rw [if_pos c, Nat.max_eq_right (Nat.le_of_lt c)]
      have hz := zr_le f (k + 1)
      refine Or.inr ⟨by omega, k + 1, Nat.le_refl _, rfl, fun e' he => ?_, ?_⟩
      · by_cases q : zr f (k + 1) ≤ zr f e'
        · have := (zl_ge (f := f) (L := zr f (k + 1)) (by omega) k).mpr ⟨e', by omega, q⟩
          omega
        · omega
      · have : nI (k + 1 - zr f (k + 1)) + nI (zr f (k + 1)) = nI k + nI 1 := by rw [nI_add, nI_add]; congr 1; omega
        rw [Int32.sub_eq_add_neg, Int32.add_assoc, Int32.add_comm (-_), ← Int32.add_assoc, ← this, ← Int32.sub_eq_add_neg, Int32.add_sub_cancel]
    · rw [if_neg c, Nat.max_eq_left (by omega)]
      rcases zf_sp k (by omega) with ⟨h1, h2⟩ | ⟨h1, h, h2, h3, h4, h5⟩
      · exact Or.inl ⟨h1, h2⟩
      · exact Or.inr ⟨h1, h, by omega, h3, h4, h5⟩
theorem lqs_eq (f : Nat → Int32) {n : Nat} (hn : n = 24) : lqs f n = zf f n := by
  have hm := lq_eq f hn
  rcases lqs_sp (f := f) n with ⟨h1, h2⟩ | ⟨h1, h, h2, h3, h4, h5⟩
  · rcases zf_sp (f := f) n (Nat.le_of_eq hn) with ⟨g1, g2⟩ | ⟨g1, -⟩
    · rw [h2, g2]
    · omega
  · rcases zf_sp (f := f) n (Nat.le_of_eq hn) with ⟨g1, -⟩ | ⟨g1, e, g2, g3, g4, g5⟩
    · omega
    · rw [h5, g5]
      refine congrArg nI ?_
      clear h5 g5
      generalize lqn f n = N at hm h1 h3 h4
      generalize zl f n = Z at hm g1 g3 g4
      subst hm
      obtain ⟨a1, a2⟩ := (qrun_ge (f := f) (24 - h) h (N)).mp (Nat.le_of_eq h3.symm)
      obtain ⟨b1, b2⟩ := (zr_ge (f := f) e (N)).mp (Nat.le_of_eq g3.symm)
      have c1 : N ≤ zr f (h + N) := (zr_ge _ _).mpr ⟨by omega, fun j j1 j2 => a2 j (by omega) j2⟩
      have c2 : N ≤ qrun f (24 - (e - N)) (e - N) := (qrun_ge _ _ _).mpr ⟨by omega, fun j j1 j2 => b2 j j1 (by omega)⟩
      rcases Nat.lt_trichotomy h (e - N) with q | q | q
      · have := g4 (h + N) (by omega)
        omega
      · exact q
      · have := h4 (e - N) q
        omega
theorem ow_c {M : Mem} {st : Nat} (hst : st < 4) (h : RowEq M 1 (M 135)) : ∀ i, i < 24 → owr M (0 + 1) st i = owD M 134 st i := fun i hi => by
  show M (0 + 1 + 10) (st * 24 + i) = M (134 + 1) (92 + 5 * (24 * st + i) + 0)
  rw [st24]
  exact (h.2.2.1 (st * 24 + i) (by omega)).1
theorem qrun_c {f g : Nat → Int32} : ∀ n h, (∀ i, h ≤ i → i < h + n → f i = g i) → qrun f n h = qrun g n h
  | 0, _, _ => rfl
  | n + 1, h, e => by
    show (if f h = 0 then _ else 0) = (if g h = 0 then _ else 0)
    rw [e h (Nat.le_refl h) (by omega), qrun_c n (h + 1) (fun i h1 h2 => e i (by omega) (by omega))]
theorem lqn_c {f g : Nat → Int32} (e : ∀ i, i < 24 → f i = g i) : ∀ k, k ≤ 24 → lqn f k = lqn g k
  | 0, _ => rfl
  | k + 1, h => by
    show max _ _ = max _ _
    rw [lqn_c e k (by omega), qrun_c (24 - k) k (fun i h1 h2 => e i (by omega))]
theorem lqs_c {f g : Nat → Int32} (e : ∀ i, i < 24 → f i = g i) : ∀ k, k ≤ 24 → lqs f k = lqs g k
  | 0, _ => rfl
  | k + 1, h => by
    show (if _ < _ then _ else _) = (if _ < _ then _ else _)
    rw [lqn_c e k (by omega), qrun_c (24 - k) k (fun i h1 h2 => e i (by omega)), lqs_c e k (by omega)]
theorem b_quiet {sh : Sh} (hs : IsSH sh 0) (hm : IsMo sh 134) {t : Nat} {M : Mem} (hR : Rel t M) (x y : Int32) : Bth mX4_quiet mX5_quiet sh Rel [.inl x, .inl y] t M := by
  obtain ⟨P, o, z, len, hA⟩ := hR
  by_cases hx : nI 0 ≤ x ∧ x ≤ nI 3
  · by_cases hy : y.toInt < 0 ∨ 2 < y.toInt
    · obtain ⟨st, hst, rfl⟩ := rng (by decide) hx
      refine Bth.q hA (c_quiet_bad2 hs (by omega) y hy) (d_quiet_bad hm _ y (fun z => ?_)) (by decide) (by decide) rfl
      obtain ⟨i, hi, rfl⟩ := rng (by decide) z.2
      rw [nI_toInt (by omega)] at hy
      omega
    · obtain ⟨st, hst, rfl⟩ := rng (by decide) hx
      have hst4 : st < 4 := by omega
      obtain ⟨i, hi, rfl⟩ := rngI (n := 2) (by decide) hy
      rcases (show i = 0 ∨ i = 1 ∨ i = 2 by omega) with rfl | rfl | rfl
      · refine Bth.q hA (c_quiet_0 hs hst4) (d_quiet_0 hm hst4) (by decide) (by decide) (sm_c 24 (fun i hi => ?_))
        rw [show M (0 + 1 + 10) (st * 24 + i) = owD M 134 st i from ow_c hst4 hA.1.1 i hi]
      · exact Bth.q hA (c_quiet_1 hs hst4) (d_quiet_1 hm hst4) (by decide) (by decide) (congrArg nI ((lqn_c (ow_c hst4 hA.1.1) 24 (Nat.le_refl 24)).trans (lq_eq _ rfl)))
      · exact Bth.q hA (c_quiet_2 hs hst4) (d_quiet_2 hm hst4) (by decide) (by decide) ((lqs_c (ow_c hst4 hA.1.1) 24 (Nat.le_refl 24)).trans (lqs_eq _ rfl))
  · exact Bth.q hA (c_quiet_bad hs x y hx) (d_quiet_bad hm x y (fun z => hx z.1)) (by decide) (by decide) rfl
