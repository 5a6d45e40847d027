/-! SETTLING A SLOT, ON BOTH SIDES. -/
theorem co_step {d P q m s k : Nat} {X E : Mem} {B F : Nat → Nat} {sd : Int32} {a : Nat} (hkP : k < P) (ha9 : a ≤ 999) (hFa : a ≤ F k) (hc : bF (bm X q k s) sd = nI a) (hd : aF (dm E m k s) sd = nI a) (h1 : RowEq X q (E (m + 1))) (h2 : RB d (E (m + 1)) P) (h3 : RP B F (E (m + 1))) : RowEq (cSt X q s sd k) q (coSt E m s sd k (m + 1)) ∧ RB d (coSt E m s sd k (m + 1)) P ∧ RP B (fun p => if p = k then F p - a else F p) (coSt E m s sd k (m + 1)) := by
  have hk12 : k < 12 := Nat.lt_of_lt_of_le hkP h2.P12
  unfold cSt coSt
  simp only []
  rw [hc, hd]
  by_cases h0 : 0 < nI a
  · rw [if_pos h0, if_pos h0]
    obtain ⟨c1, c2, c3, c4, c5, c6, c7⟩ := h1.2.1 k hk12
    have eD : adM (adM (adM E m k 0 (-nI a)) m k 3 (nI a)) m k 2 (nI 1) (m + 1) = gu (gu (gu (E (m + 1)) (8 + 7 * k + 0) (E (m + 1) (8 + 7 * k + 0) - nI a)) (8 + 7 * k + 3) (E (m + 1) (8 + 7 * k + 3) + nI a)) (8 + 7 * k + 2) (E (m + 1) (8 + 7 * k + 2) + nI 1) := by
      rw [adM_g, adM_g, adM_g, gu_ne (show 8 + 7 * k + 3 ≠ 8 + 7 * k + 0 by omega), gu_ne (show 8 + 7 * k + 2 ≠ 8 + 7 * k + 3 by omega), gu_ne (show 8 + 7 * k + 2 ≠ 8 + 7 * k + 0 by omega), Int32.sub_eq_add_neg]
    rw [eD]
    refine ⟨?_, ((h2.w0 hkP).w3 hkP).w2 hkP, ?_⟩
    · rw [up_ne (show q + 6 ≠ q + 5 by omega), up_ne (show q + 6 ≠ q + 1 by omega), up_ne (show q + 5 ≠ q + 1 by omega), c1, c3, c4, gu_sw (show 8 + 7 * k + 3 ≠ 8 + 7 * k + 2 by omega)]
      exact ((h1.w1 hk12).w5 hk12).w6 hk12
    · refine RP.o (RP.o (fun r hr => ?_) (fun r hr => by omega)) (fun r hr => by omega)
      obtain ⟨kk, k1, k2, k3⟩ := h3 r hr
      by_cases hrk : r = k
      · subst hrk
        rw [gu_eq, if_pos rfl]
        exact ⟨kk - a, by rw [k1, nI_subn (by omega)], by omega, by omega⟩
      · rw [gu_ne (by omega), if_neg hrk]
        exact ⟨kk, k1, k2, k3⟩
  · rw [if_neg h0, if_neg h0]
    refine ⟨h1, h2, h3.le (fun _ _ => Nat.le_refl _) (fun r hr => ?_)⟩
    split
    · omega
    · exact Nat.le_refl _
theorem co_eq {d P q m s : Nat} {C D : Mem} {B F : Nat → Nat} {sd : Int32} (hsd : sd = nI 0 ∨ sd = nI 1) (hs : s < 96) (h : RowEq C q (D (m + 1))) (hb : RB d (D (m + 1)) P) (hr : RP B F (D (m + 1))) (hF : ∀ p, p < 12 → bk (D (m + 1)) p s sd ≤ F p) : ∀ k, k ≤ P → RowEq (cM C q s sd k) q (coM D m s sd k (m + 1)) ∧ RB d (coM D m s sd k (m + 1)) P ∧ RP B (fun p => if p < k then F p - bk (D (m + 1)) p s sd else F p) (coM D m s sd k (m + 1))
  | 0, _ => ⟨h, hb, hr⟩
  | k + 1, hk => by
    obtain ⟨h1, h2, h3⟩ := co_eq hsd hs h hb hr hF k (by omega)
    have hkP : k < P := hk
    have hk12 : k < 12 := Nat.lt_of_lt_of_le hkP hb.P12
    have em : dm (coM D m s sd k) m k s = dm D m k s := coM_b (by omega)
    obtain ⟨hv, hv9⟩ := bk_v hb hk12 hs sd
    have hd : aF (dm (coM D m s sd k) m k s) sd = nI (bk (D (m + 1)) k s sd) := by rw [em]; exact hv
    have hc : bF (bm (cM C q s sd k) q k s) sd = nI (bk (D (m + 1)) k s sd) := by rw [(h1.mk2 h2 hk12 hs).2.1 sd hsd]; exact hd
    obtain ⟨r1, r2, r3⟩ := co_step hkP hv9 (by rw [if_neg (by omega)]; exact hF k hk12) hc hd h1 h2 h3
    refine ⟨r1, r2, r3.le (fun _ _ => Nat.le_refl _) (fun r hr => ?_)⟩
    show (if r < k + 1 then _ else _) ≤ (if r = k then (if r < k then _ else _) - _ else (if r < k then _ else _))
    by_cases h5 : r = k
    · subst h5
      rw [if_pos (Nat.lt_succ_self r), if_pos rfl, if_neg (Nat.lt_irrefl r)]
      exact Nat.le_refl _
    · rw [if_neg h5]
      by_cases h6 : r < k
      · rw [if_pos (by omega), if_pos h6]; exact Nat.le_refl _
      · rw [if_neg (by omega), if_neg h6]; exact Nat.le_refl _
theorem cP_eq {d P q m s : Nat} {C D : Mem} {sd : Int32} (hsd : sd = nI 0 ∨ sd = nI 1) (hs : s < 96) (h : RowEq C q (D (m + 1))) (hb : RB d (D (m + 1)) P) : ∀ k, k ≤ 12 → cP C q s sd k = sm (fun p => bF (bm C q p s) sd) k
  | 0, _ => rfl
  | k + 1, hk => by
    have ih := cP_eq hsd hs h hb k (by omega)
    obtain ⟨hv, hv9⟩ := bk_v hb (show k < 12 by omega) hs sd
    have hc : bF (bm C q k s) sd = nI (bk (D (m + 1)) k s sd) := by rw [(h.mk2 hb (by omega) hs).2.1 sd hsd]; exact hv
    have e : bm (cM C q s sd k) q k s = bm C q k s := congrFun (cM_ne (by omega) (by omega) (by omega) k) _
    show (if 0 < bF (bm (cM C q s sd k) q k s) sd then cP C q s sd k + bF (bm (cM C q s sd k) q k s) sd else cP C q s sd k) = sm (fun p => bF (bm C q p s) sd) k + bF (bm C q k s) sd
    rw [e, ih, hc]
    by_cases h0 : 0 < nI (bk (D (m + 1)) k s sd)
    · rw [if_pos h0]
    · rw [if_neg h0]
      have : bk (D (m + 1)) k s sd = 0 := by
        by_cases z : 0 < bk (D (m + 1)) k s sd
        · exact absurd (by rw [← nI_0]; exact nI_lt z (by omega)) h0
        · omega
      rw [this, nI_0, Int32.add_zero]
theorem fa_or {a b : Nat} : nI a ||| nI b = nI (a ||| b) := by
  apply Int32.toBitVec_inj.1
  show BitVec.ofNat 32 a ||| BitVec.ofNat 32 b = BitVec.ofNat 32 (a ||| b)
  apply BitVec.eq_of_getLsbD_eq
  intro i hi
  simp [hi]
theorem sh1 : ∀ k, k < 12 → nI 1 <<< (nI k &&& 31) = nI (2 ^ k) := by decide +kernel
theorem bq_eq {q m s : Nat} {C D : Mem} (e : ∀ p, p < 12 → bF (bm C q p s) (nI 0) = aF (dm D m p s) (nI 0)) : ∀ k, k ≤ 12 → bq C q s k = coW D m s (nI 0) k ∧ ∃ j : Nat, bq C q s k = nI j ∧ j < 2 ^ k
  | 0, _ => ⟨rfl, 0, rfl, by decide⟩
  | k + 1, hk => by
    obtain ⟨h1, j, h2, h3⟩ := bq_eq e k (by omega)
    have hp : 2 ^ (k + 1) = 2 ^ k + 2 ^ k := by rw [Nat.pow_succ]; omega
    show (if 0 < bF (bm C q k s) (nI 0) then bq C q s k ||| (nI 1 <<< (nI k &&& 31)) else bq C q s k) = (if 0 < aF (dm (coM D m s (nI 0) k) m k s) (nI 0) then coW D m s (nI 0) k ||| (nI 1 <<< (nI k &&& 31)) else coW D m s (nI 0) k) ∧ ∃ j : Nat, (if 0 < bF (bm C q k s) (nI 0) then bq C q s k ||| (nI 1 <<< (nI k &&& 31)) else bq C q s k) = nI j ∧ j < 2 ^ (k + 1)
    rw [coM_b (show k ≤ 12 by omega), ← e k (by omega), ← h1]
    refine ⟨rfl, ?_⟩
    by_cases h0 : 0 < bF (bm C q k s) (nI 0)
    · rw [if_pos h0, h2, sh1 k (by omega), fa_or]
      exact ⟨_, rfl, Nat.or_lt_two_pow (by omega) (by omega)⟩
    · rw [if_neg h0]
      exact ⟨j, h2, by omega⟩
theorem sh_step {d P q m s k K L a : Nat} {X E : Mem} {B F : Nat → Nat} {sd od : Int32} (ho : nI 1 - sd = od) (hd : d < 2 ^ 31) (hkP : k < P) (ha9 : a ≤ 999) (hK : K ≤ 11988) (hL : L ≤ 11988) (hL0 : 0 < L) (haL : a ≤ L) (hc : bF (bm X q k s) od = nI a) (he : aF (dm E m k s) od = nI a) (h1 : RowEq X q (E (m + 1))) (h2 : RB d (E (m + 1)) P) (h3 : RP B F (E (m + 1))) : RowEq (shSt X q s od (nI K) (nI L) k) q (shS E m s sd (nI K) (nI L) k (m + 1)) ∧ RB d (shS E m s sd (nI K) (nI L) k (m + 1)) P ∧ RP (fun p => if p = k then B p + 11988 else B p) F (shS E m s sd (nI K) (nI L) k (m + 1)) := by
  have hk12 : k < 12 := Nat.lt_of_lt_of_le hkP h2.P12
  obtain ⟨st, hst, hs6⟩ := h2.st hk12
  have hKa : K * a ≤ 11988 * 999 := Nat.mul_le_mul hK ha9
  have hx : nI K * nI a / nI L = nI (K * a / L) := by rw [pk_mul, pk_div (by omega) hL0 (by omega)]
  have hxK : K * a / L ≤ K := Nat.div_le_of_le_mul (by rw [Nat.mul_comm L K]; exact Nat.mul_le_mul_left K haL)
  have c5 := (h1.2.1 k hk12).2.2.2.2.1
  unfold shSt shS
  simp only []
  rw [ho, hc, he, hx, rcv_ne (show q + 7 ≠ q + 1 by omega) (by omega) (by omega), c5]
  by_cases h0 : 0 < nI a
  · rw [if_pos h0]
    have eD : rcD (adM E m k 4 (nI (K * a / L))) m k (nI (K * a / L)) (m + 1) = gu (rcG (E (m + 1)) k (nI (K * a / L)) st) (8 + 7 * k + 4) (E (m + 1) (8 + 7 * k + 4) + nI (K * a / L)) := by
      rw [rcD_g2 hst (by rw [adM_g, gu_ne (by omega)]; exact hs6), adM_g, rcG_gu hst (by omega) (by omega) (by omega)]
    rw [eD]
    refine ⟨(h1.rc hk12 hst hs6).w7 hk12, (h2.rc hd hkP hst (by omega)).w4 hkP, RP.o (h3.rc hd hk12 hst (by omega) h2 (fun r hr => ?_) ?_) (fun r hr => by omega)⟩
    · by_cases z : r = k
      · simp only [z, if_true]; omega
      · simp only [if_neg z]; exact Nat.le_refl _
    · simp only [if_true]; omega
  · rw [if_neg h0]
    have ha : a = 0 := by
      by_cases z : 0 < a
      · exact absurd (by rw [← nI_0]; exact nI_lt z (by omega)) h0
      · omega
    subst ha
    rw [Nat.mul_zero, Nat.zero_div]
    have h4 := (h1.rc (v := nI 0) hk12 hst hs6).w7 (x := E (m + 1) (8 + 7 * k + 4) + nI 0) hk12
    rw [rcG_0 hd hk12 hst h2, gu_id (by rw [nI_0, Int32.add_zero])] at h4
    refine ⟨h4, h2, h3.le (fun r hr => ?_) (fun _ _ => Nat.le_refl _)⟩
    split
    · omega
    · exact Nat.le_refl _
theorem sh_eq {d P q m s K L : Nat} {C D : Mem} {B F : Nat → Nat} {sd od : Int32} (ho : nI 1 - sd = od) (hod : od = nI 0 ∨ od = nI 1) (hd : d < 2 ^ 31) (hs : s < 96) (hK : K ≤ 11988) (hL : L ≤ 11988) (hL0 : 0 < L) (haL : ∀ p, p < P → bk (D (m + 1)) p s od ≤ L) (h : RowEq C q (D (m + 1))) (hb : RB d (D (m + 1)) P) (hr : RP B F (D (m + 1))) : ∀ k, k ≤ P → RowEq (shM C q s od (nI K) (nI L) k) q (shD D m s sd (nI K) (nI L) k (m + 1)) ∧ RB d (shD D m s sd (nI K) (nI L) k (m + 1)) P ∧ RP (fun p => if p < k then B p + 11988 else B p) F (shD D m s sd (nI K) (nI L) k (m + 1)) ∧ shL D m s sd (nI K) (nI L) k = nI K - shP C q s od (nI K) (nI L) k
  | 0, _ => ⟨h, hb, hr, (Int32.sub_zero _).symm⟩
  | k + 1, hk => by
    obtain ⟨h1, h2, h3, h4⟩ := sh_eq ho hod hd hs hK hL hL0 haL h hb hr k (by omega)
    have hkP : k < P := hk
    have hk12 : k < 12 := Nat.lt_of_lt_of_le hkP hb.P12
    have em : dm (shD D m s sd (nI K) (nI L) k) m k s = dm D m k s := shD_b hb.wm k (by omega)
    obtain ⟨hv, hv9⟩ := bk_v hb hk12 hs od
    have he : aF (dm (shD D m s sd (nI K) (nI L) k) m k s) od = nI (bk (D (m + 1)) k s od) := by rw [em]; exact hv
    have hc : bF (bm (shM C q s od (nI K) (nI L) k) q k s) od = nI (bk (D (m + 1)) k s od) := by rw [(h1.mk2 h2 hk12 hs).2.1 od hod]; exact he
    obtain ⟨r1, r2, r3⟩ := sh_step ho hd hkP hv9 hK hL hL0 (haL k hkP) hc he h1 h2 h3
    refine ⟨r1, r2, r3.le (fun r hr => ?_) (fun _ _ => Nat.le_refl _), ?_⟩
    · show (if r = k then (if r < k then _ else _) + _ else (if r < k then _ else _)) ≤ (if r < k + 1 then _ else _)
      by_cases h5 : r = k
      · subst h5
        rw [if_pos (Nat.lt_succ_self r), if_pos rfl, if_neg (Nat.lt_irrefl r)]
        exact Nat.le_refl _
      · rw [if_neg h5]
        by_cases h6 : r < k
        · rw [if_pos h6, if_pos (by omega)]; exact Nat.le_refl _
        · rw [if_neg h6, if_neg (by omega)]; exact Nat.le_refl _
    · show (if 0 < aF (dm (shD D m s sd (nI K) (nI L) k) m k s) (nI 1 - sd) then shL D m s sd (nI K) (nI L) k - nI K * aF (dm (shD D m s sd (nI K) (nI L) k) m k s) (nI 1 - sd) / nI L else shL D m s sd (nI K) (nI L) k) = nI K - (shP C q s od (nI K) (nI L) k + nI K * bF (bm (shM C q s od (nI K) (nI L) k) q k s) od / nI L)
      rw [ho, he, hc, h4]
      by_cases h0 : 0 < nI (bk (D (m + 1)) k s od)
      · rw [if_pos h0, Int32.sub_sub]
      · rw [if_neg h0]
        have : bk (D (m + 1)) k s od = 0 := by
          by_cases z : 0 < bk (D (m + 1)) k s od
          · exact absurd (by rw [← nI_0]; exact nI_lt z (by omega)) h0
          · omega
        rw [this, pk_mul, pk_div (by omega) hL0 (by omega), Nat.mul_zero, Nat.zero_div, nI_0, Int32.add_zero]
theorem shD_0 {m s : Nat} {D : Mem} {sd od sum lost : Int32} (ho : nI 1 - sd = od) {P : Nat} (h : ∀ p, p < P → ¬ 0 < aF (dm D m p s) od) : ∀ k, k ≤ P → shD D m s sd sum lost k = D ∧ shL D m s sd sum lost k = sum
  | 0, _ => ⟨rfl, rfl⟩
  | k + 1, hk => by
    obtain ⟨h1, h2⟩ := shD_0 (sum := sum) (lost := lost) ho h k (by omega)
    have h0 := h k (by omega)
    refine ⟨?_, ?_⟩
    · show shS (shD D m s sd sum lost k) m s sd sum lost k = D
      rw [h1]
      unfold shS
      simp only []
      rw [ho, if_neg h0]
    · show (if 0 < aF (dm (shD D m s sd sum lost k) m k s) (nI 1 - sd) then _ else _) = sum
      rw [h1, ho, if_neg h0, h2]
theorem st_fin {q s : Nat} {C2 : Mem} {g2 : Nat → Int32} {xf sd xc xw xp : Int32} (hs : s < 96) (hsd : sd = nI 0 ∨ sd = nI 1) (h : RowEq C2 q g2) : RowEq (up (up (up (up (up (up C2 (q + 15) (s / 24) xf) (q + 10) s sd) (q + 11) s xc) (q + 12) s (oS sd)) (q + 13) s xw) (q + 14) s xp) q (gu (gu (gu (gu (gu (gu g2 (4 + s / 24) xf) (92 + 5 * s + 0) sd) (92 + 5 * s + 1) xc) (92 + 5 * s + 2) (sd + nI 1)) (92 + 5 * s + 3) xw) (92 + 5 * s + 4) xp) := by
  have e : oS sd = (if sd + nI 1 = nI 1 then nI 1 else nI 0) := by
    rcases hsd with rfl | rfl <;> decide
  rw [e]
  exact (((((h.f15 (by omega)).s10 hs).s11 hs).s12 hs).s13 hs).s14 hs
