/-! BREACHES, ON BOTH SIDES. -/
theorem bc_sum2 : ∀ a, a < 64 → ∀ b, b < 64 → bcF (nI (64 * a + b)) = sm (fun i => (nI (64 * a + b) >>> (nI i &&& 31)) &&& nI 1) 12 := by decide +kernel
theorem bc_sum (k : Nat) (hk : k < 4096) : bcF (nI k) = sm (fun i => (nI k >>> (nI i &&& 31)) &&& nI 1) 12 := by
  have h := bc_sum2 (k / 64) (by omega) (k % 64) (by omega)
  rw [show 64 * (k / 64) + k % 64 = k by omega] at h
  exact h
theorem bit_hi : ∀ i, i < 12 → ∀ k, k < 2 ^ i → (nI k >>> (nI i &&& 31)) &&& nI 1 = nI 0 := by decide +kernel
theorem bit_01 (x : Int32) : x &&& nI 1 = nI 0 ∨ x &&& nI 1 = nI 1 := by
  obtain ⟨j, hj, e⟩ := pk_andE x (m := nI 1) 1 (by decide)
  rcases (show j = 0 ∨ j = 1 by omega) with rfl | rfl
  · exact Or.inl e
  · exact Or.inr e
theorem bs_eq {d P q m s X : Nat} {C D : Mem} {B F : Nat → Nat} {l : Int32} (hd : d < 2 ^ 31) (hs : s < 96) (hX : X < 2 ^ 31) (h : RowEq C q (D (m + 1))) (hb : RB d (D (m + 1)) P) (hr : RP B F (D (m + 1))) : ∀ k, k ≤ P → RowEq (sfM C q s (nI X) k) q (bsM D m s (nI X) k (m + 1)) ∧ RB d (bsM D m s (nI X) k (m + 1)) P ∧ RP (fun p => if p < k then B p + X else B p) F (bsM D m s (nI X) k (m + 1)) ∧ bsL D m s (nI X) l k = l - sm (fun i => bit D m s i) k * nI X
  | 0, _ => ⟨h, hb, hr, by show l = l - 0 * _; rw [Int32.zero_mul, Int32.sub_zero]⟩
  | k + 1, hk => by
    obtain ⟨h1, h2, h3, h4⟩ := bs_eq (l := l) hd hs hX h hb hr k (by omega)
    have hkP : k < P := hk
    have hk12 : k < 12 := Nat.lt_of_lt_of_le hkP hb.P12
    have em : bsM D m s (nI X) k (m + 1) (92 + 5 * s + 3) = D (m + 1) (92 + 5 * s + 3) := bsM_j hb.wm (by omega) k (by omega)
    have ec : sfM C q s (nI X) k (q + 13) s = D (m + 1) (92 + 5 * s + 3) := (h1.2.2.1 s hs).2.2.2.1.trans em
    have eb : bit (bsM D m s (nI X) k) m s k = bit D m s k := by
      show (bsM D m s (nI X) k (m + 1) (92 + 5 * s + 3) >>> _) &&& _ = _
      rw [em]
    have ecb : (sfM C q s (nI X) k (q + 13) s >>> (nI k &&& 31)) &&& nI 1 = bit D m s k := by rw [ec]
    have hstep : ∀ r : Nat, (if r < k then B r + X else B r) ≤ (if r < k + 1 then B r + X else B r) := fun r => by
      by_cases h6 : r < k
      · rw [if_pos h6, if_pos (by omega)]; exact Nat.le_refl _
      · rw [if_neg h6]
        split
        · omega
        · exact Nat.le_refl _
    show RowEq (if (sfM C q s (nI X) k (q + 13) s >>> (nI k &&& 31)) &&& nI 1 = nI 1 then rcv (sfM C q s (nI X) k) q k (nI X) else sfM C q s (nI X) k) q ((if bit (bsM D m s (nI X) k) m s k = nI 1 then rcD (bsM D m s (nI X) k) m k (nI X) else bsM D m s (nI X) k) (m + 1)) ∧ RB d ((if bit (bsM D m s (nI X) k) m s k = nI 1 then rcD (bsM D m s (nI X) k) m k (nI X) else bsM D m s (nI X) k) (m + 1)) P ∧ RP (fun p => if p < k + 1 then B p + X else B p) F ((if bit (bsM D m s (nI X) k) m s k = nI 1 then rcD (bsM D m s (nI X) k) m k (nI X) else bsM D m s (nI X) k) (m + 1)) ∧ (if bit (bsM D m s (nI X) k) m s k = nI 1 then bsL D m s (nI X) l k - nI X else bsL D m s (nI X) l k) = l - (sm (fun i => bit D m s i) k + bit D m s k) * nI X
    rw [ecb, eb, h4]
    by_cases h0 : bit D m s k = nI 1
    · rw [if_pos h0, if_pos h0, if_pos h0, h0]
      obtain ⟨st, hst, hs6⟩ := h2.st hk12
      rw [rcD_g2 hst hs6]
      refine ⟨h1.rc hk12 hst hs6, h2.rc hd hkP hst hX, h3.rc hd hk12 hst hX h2 (fun r _ => hstep r) ?_, ?_⟩
      · simp only [Nat.lt_irrefl, if_false, Nat.lt_succ_self, if_true]; exact Nat.le_refl _
      · rw [Int32.sub_sub, Int32.add_mul, show nI 1 = 1 from rfl, Int32.one_mul]
    · rw [if_neg h0, if_neg h0, if_neg h0]
      have hz : bit D m s k = nI 0 := (bit_01 _).elim id (fun z => absurd z h0)
      refine ⟨h1, h2, h3.le (fun r _ => hstep r) (fun _ _ => Nat.le_refl _), ?_⟩
      rw [hz, nI_0, Int32.add_zero]
theorem bs_hi {P Q m s : Nat} {D : Mem} {x l : Int32} (hw : Wm D m P) (hz : ∀ i, Q ≤ i → i < 12 → ¬ bit D m s i = nI 1) : ∀ n, Q + n ≤ 12 → bsM D m s x (Q + n) = bsM D m s x Q ∧ bsL D m s x l (Q + n) = bsL D m s x l Q
  | 0, _ => ⟨rfl, rfl⟩
  | n + 1, h => by
    obtain ⟨h1, h2⟩ := bs_hi (x := x) (l := l) hw hz n (by omega)
    have h0 : ¬ bit (bsM D m s x (Q + n)) m s (Q + n) = nI 1 := by
      rw [show bit (bsM D m s x (Q + n)) m s (Q + n) = bit D m s (Q + n) by
        show (bsM D m s x (Q + n) (m + 1) (92 + 5 * s + 3) >>> _) &&& _ = _
        rw [bsM_j hw (by omega) (Q + n) (by omega)]]
      exact hz _ (by omega) (by omega)
    refine ⟨?_, ?_⟩
    · show (if bit (bsM D m s x (Q + n)) m s (Q + n) = nI 1 then _ else bsM D m s x (Q + n)) = _
      rw [if_neg h0, h1]
    · show (if bit (bsM D m s x (Q + n)) m s (Q + n) = nI 1 then _ else bsL D m s x l (Q + n)) = _
      rw [if_neg h0, h2]
theorem gu5 {g : Nat → Int32} {p : Nat} {a b c d e : Int32} : gu (gu (gu (gu (gu g (8 + 7 * p + 0) d) (8 + 7 * p + 1) e) (8 + 7 * p + 5) b) (8 + 7 * p + 6) c) 3 a = gu (gu (gu (gu (gu g 3 a) (8 + 7 * p + 5) b) (8 + 7 * p + 6) c) (8 + 7 * p + 0) d) (8 + 7 * p + 1) e := by
  funext j
  by_cases h1 : j = 3
  · subst h1
    rw [gu_eq, gu_ne (by omega), gu_ne (by omega), gu_ne (by omega), gu_ne (by omega), gu_eq]
  · rw [gu_ne h1]
    by_cases h2 : j = 8 + 7 * p + 6
    · subst h2
      rw [gu_eq, gu_ne (by omega), gu_ne (by omega), gu_eq]
    · rw [gu_ne h2]
      by_cases h3 : j = 8 + 7 * p + 5
      · subst h3
        rw [gu_eq, gu_ne (by omega), gu_ne (by omega), gu_ne (by omega), gu_eq]
      · rw [gu_ne h3]
        by_cases h4 : j = 8 + 7 * p + 1
        · subst h4; rw [gu_eq, gu_eq]
        · rw [gu_ne h4, gu_ne h4]
          by_cases h5 : j = 8 + 7 * p + 0
          · subst h5; rw [gu_eq, gu_eq]
          · rw [gu_ne h5, gu_ne h5, gu_ne h2, gu_ne h3, gu_ne h1]
/-- the breach noted and paid, before it is shared -/
theorem br5_g {D : Mem} {m p st : Nat} : br5 D m p st (m + 1) = gu (gu (gu (gu (gu (D (m + 1)) 3 (D (m + 1) 3 + nI 1)) (8 + 7 * p + 5) (D (m + 1) (8 + 7 * p + 5) + nI 1)) (8 + 7 * p + 6) (nI st)) (8 + 7 * p + 0) (D (m + 1) (8 + 7 * p + 0) - brP D m p)) (8 + 7 * p + 1) (D (m + 1) (8 + 7 * p + 1) + (D (m + 1) 2 - brP D m p)) := by
  unfold br5
  generalize brP D m p = y
  rw [up_gu, up_gu, gu_ne (show 3 ≠ 8 + 7 * p + 6 by omega), adM_ne (show 3 ≠ 8 + 7 * p + 5 by omega), adM_ne (show 3 ≠ 8 + 7 * p + 1 by omega), adM_ne (show 3 ≠ 8 + 7 * p + 0 by omega), adM_g, adM_ne (show 8 + 7 * p + 5 ≠ 8 + 7 * p + 1 by omega), adM_ne (show 8 + 7 * p + 5 ≠ 8 + 7 * p + 0 by omega), adM_g, adM_ne (show 2 ≠ 8 + 7 * p + 0 by omega), adM_ne (show 8 + 7 * p + 1 ≠ 8 + 7 * p + 0 by omega), adM_g, Int32.sub_eq_add_neg (D (m + 1) (8 + 7 * p + 0))]
  exact gu5
