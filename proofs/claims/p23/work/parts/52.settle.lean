/-! SETTLING A DAY: the money stays, debts fall, slots belong to who wins; and the same at any place of the memory. -/
section
variable {C C' : Mem} {q q' P : Nat} {E E' B F B' F' : Nat → Nat}
theorem nI_gt {n : Nat} (h0 : 0 < n) (h : n < 2 ^ 31) : 0 < nI n := by
  rw [← nI_0]
  exact nI_lt h0 h
theorem cSt_e {s p : Nat} {sd : Int32} : cSt C q s sd p = if 0 < bF (bm C q p s) sd then up (up (up C (q + 1) p (C (q + 1) p - bF (bm C q p s) sd)) (q + 5) p (C (q + 5) p + nI 1)) (q + 6) p (C (q + 6) p + bF (bm C q p s) sd) else C := by
  unfold cSt
  simp only []
  by_cases h : 0 < bF (bm C q p s) sd
  · rw [if_pos h, if_pos h, up_ne (show q + 6 ≠ q + 5 by omega), up_ne (show q + 6 ≠ q + 1 by omega), up_ne (show q + 5 ≠ q + 1 by omega)]
  · rw [if_neg h, if_neg h]
theorem cM_bm {s p v k : Nat} {sd : Int32} : bm (cM C q s sd k) q p v = bm C q p v := congrFun (cM_ne (by omega) (by omega) (by omega) k) _
theorem co_all {s : Nat} {sd : Int32} (hs : s < 96) (hb : SB E C q P) (hr : SP B F C q) (hF : ∀ p, p < 12 → bk C q p s sd ≤ F p) : ∀ k, k ≤ P → SB E (cM C q s sd k) q P ∧ SP B (fun p => if p < k then F p - bk C q p s sd else F p) (cM C q s sd k) q ∧ mon (cM C q s sd k) q P = mon C q P - cP C q s sd k ∧ cP C q s sd k = nI (ns (fun p => bk C q p s sd) k)
  | 0, _ => ⟨hb, hr, (Int32.sub_zero _).symm, rfl⟩
  | k + 1, hk => by
    obtain ⟨h1, h2, h3, h4⟩ := co_all hs hb hr hF k (by omega)
    have hkP : k < P := hk
    have hk12 : k < 12 := Nat.lt_of_lt_of_le hkP hb.P12
    obtain ⟨hv, hv9⟩ := hb.bv hk12 hs sd
    have hx : bF (bm (cM C q s sd k) q k s) sd = nI (bk C q k s sd) := by rw [cM_bm]; exact hv
    show SB E (cSt (cM C q s sd k) q s sd k) q P ∧ SP B _ (cSt (cM C q s sd k) q s sd k) q ∧ mon (cSt (cM C q s sd k) q s sd k) q P = mon C q P - (if 0 < bF (bm (cM C q s sd k) q k s) sd then cP C q s sd k + bF (bm (cM C q s sd k) q k s) sd else cP C q s sd k) ∧ (if 0 < bF (bm (cM C q s sd k) q k s) sd then cP C q s sd k + bF (bm (cM C q s sd k) q k s) sd else cP C q s sd k) = nI (ns (fun p => bk C q p s sd) k + bk C q k s sd)
    rw [cSt_e, hx]
    by_cases h0 : 0 < bk C q k s sd
    · have hp : 0 < nI (bk C q k s sd) := nI_gt h0 (by omega)
      rw [if_pos hp, if_pos hp]
      have hFk := hF k hk12
      obtain ⟨b, b1, b2, b3⟩ := h2 k hk12
      have b2 : (if k < k then F k - bk C q k s sd else F k) ≤ b := b2
      rw [if_neg (Nat.lt_irrefl k)] at b2
      refine ⟨((h1.w (by omega) hkP).w (by omega) hkP).w (by omega) hkP, ?_, ?_, ?_⟩
      · refine ((h2.w (F' := fun p => if p < k + 1 then F p - bk C q p s sd else F p) (B' := B) (p := k) ⟨b - bk C q k s sd, ?_, ?_, ?_⟩ (fun r hr e => ⟨Nat.le_refl _, ?_⟩)).o (by omega)).o (by omega)
        · rw [b1, nI_subn (by omega)]
        · show (if k < k + 1 then _ else _) ≤ _
          rw [if_pos (Nat.lt_succ_self k)]; omega
        · omega
        · show (if r < k + 1 then _ else _) ≤ (if r < k then _ else _)
          by_cases h6 : r < k
          · rw [if_pos (by omega), if_pos h6]; exact Nat.le_refl _
          · rw [if_neg (by omega), if_neg h6]; exact Nat.le_refl _
      · rw [mon_o (by omega) (by omega), mon_o (by omega) (by omega), mon_1 hkP, h3]
        grind
      · rw [h4, nI_add]
    · have hz : bk C q k s sd = 0 := by omega
      have hp : ¬ 0 < nI (bk C q k s sd) := by rw [hz]; decide
      rw [if_neg hp, if_neg hp]
      refine ⟨h1, h2.le (fun _ _ => Nat.le_refl _) (fun r hr => ?_), h3, by rw [h4, hz]; rfl⟩
      show (if r < k + 1 then _ else _) ≤ (if r < k then _ else _)
      by_cases h6 : r < k
      · rw [if_pos (by omega), if_pos h6]; exact Nat.le_refl _
      · rw [if_neg h6]
        split <;> omega
theorem shSt_e {s p : Nat} {sd m sum : Int32} : shSt C q s sd m sum p = up (rcv C q p (m * bF (bm C q p s) sd / sum)) (q + 7) p (C (q + 7) p + m * bF (bm C q p s) sd / sum) := by
  unfold shSt
  simp only []
  rw [rcv_ne (show q + 7 ≠ q + 1 by omega) (show q + 7 ≠ q + 3 by omega) (show q + 7 ≠ q + 15 by omega)]
theorem shM_bm {s p v k : Nat} {sd m sum : Int32} : bm (shM C q s sd m sum k) q p v = bm C q p v := congrFun (shM_ne (by omega) (by omega) (by omega) (by omega) k) _
theorem sh_all {s K L : Nat} {sd : Int32} (hE : ∀ r, r < 12 → E r < 2 ^ 31) (hs : s < 96) (hK : K ≤ 11988) (hL0 : 0 < L) (hL : L ≤ 11988) (hbL : ∀ p, p < P → bk C q p s sd ≤ L) (hb : SB E C q P) (hr : SP B F C q) : ∀ k, k ≤ P → SB E (shM C q s sd (nI K) (nI L) k) q P ∧ SP (fun p => if p < k then B p + 11988 else B p) F (shM C q s sd (nI K) (nI L) k) q ∧ mon (shM C q s sd (nI K) (nI L) k) q P = mon C q P + shP C q s sd (nI K) (nI L) k
  | 0, _ => ⟨hb, hr, (Int32.add_zero _).symm⟩
  | k + 1, hk => by
    obtain ⟨h1, h2, h3⟩ := sh_all hE hs hK hL0 hL hbL hb hr k (by omega)
    have hkP : k < P := hk
    have hk12 : k < 12 := Nat.lt_of_lt_of_le hkP hb.P12
    obtain ⟨hv, hv9⟩ := hb.bv hk12 hs sd
    have hx : bF (bm (shM C q s sd (nI K) (nI L) k) q k s) sd = nI (bk C q k s sd) := by rw [shM_bm]; exact hv
    have hKb : K * bk C q k s sd ≤ K * L := Nat.mul_le_mul_left K (hbL k hkP)
    have hKb2 : K * bk C q k s sd ≤ 11988 * 999 := Nat.mul_le_mul hK hv9
    have hX : K * bk C q k s sd / L ≤ K := by
      have := Nat.div_le_div_right (c := L) hKb
      rwa [Nat.mul_div_cancel K hL0] at this
    have ex : nI K * bF (bm (shM C q s sd (nI K) (nI L) k) q k s) sd / nI L = nI (K * bk C q k s sd / L) := by rw [hx, nI_mul, nI_div (by omega) hL0 (by omega)]
    show SB E (shSt (shM C q s sd (nI K) (nI L) k) q s sd (nI K) (nI L) k) q P ∧ SP _ F (shSt (shM C q s sd (nI K) (nI L) k) q s sd (nI K) (nI L) k) q ∧ mon (shSt (shM C q s sd (nI K) (nI L) k) q s sd (nI K) (nI L) k) q P = mon C q P + (shP C q s sd (nI K) (nI L) k + nI K * bF (bm (shM C q s sd (nI K) (nI L) k) q k s) sd / nI L)
    rw [shSt_e, ex]
    obtain ⟨st, s1, s2⟩ := h1.st hk12
    refine ⟨(h1.rc hE hkP (by omega)).w (by omega) hkP, ?_, ?_⟩
    · refine SP.o (h2.rc hE hkP (by omega) h1 (fun r hr e => ?_) ?_) (by omega)
      · show (if r < k then _ else _) ≤ (if r < k + 1 then _ else _)
        split <;> split <;> omega
      · show (if k < k then _ else _) + _ ≤ (if k < k + 1 then _ else _)
        rw [if_neg (Nat.lt_irrefl k), if_pos (Nat.lt_succ_self k)]
        omega
    · rw [mon_o (by omega) (by omega), mon_rc s1 s2 hkP, h3]
      grind
theorem SB.sn (h : SB E C q P) {s : Nat} (hs : s < 96) (sd : Int32) : sB C q P s sd = nI (ns (fun p => bk C q p s sd) P) ∧ ns (fun p => bk C q p s sd) P ≤ 11988 := by
  have h12 := h.P12
  refine ⟨sm_ns P (fun p hp => (h.bv (by omega) hs sd).1), ?_⟩
  have := ns_b (f := fun p => bk C q p s sd) (B := 999) P (fun p hp => (h.bv (by omega) hs sd).2)
  omega
theorem SB.nn (h : SB E C q P) {s : Nat} (hs : s < 96) : nB C q P s = nI (ns (fun p => if bm C q p s = 0 then 0 else 1) P) ∧ ns (fun p => if bm C q p s = 0 then 0 else 1) P ≤ 12 := by
  have h12 := h.P12
  refine ⟨sm_ns P (fun p hp => by unfold n01; split <;> rfl), ?_⟩
  have := ns_b (f := fun p => if bm C q p s = 0 then 0 else 1) (B := 1) P (fun p hp => by show (if _ then _ else _) ≤ 1; split <;> omega)
  omega
theorem SB.o01 (h : SB E C q P) {s : Nat} (hs : s < 96) : oT C q P s = nI 0 ∨ oT C q P s = nI 1 := by
  unfold oT
  split
  · exact h.own hs
  · split
    · exact h.tie hs
    · split
      · exact Or.inl rfl
      · exact Or.inr rfl
theorem SB.qn (h : SB E C q P) {s : Nat} (hs : s < 96) : ∃ J c, stg C q P s (nI 0) = nI J ∧ C (q + 11) s = nI c ∧ c ≤ 11988 ∧ J = ns (fun p => bk C q p s (nI 0)) P + c ∧ J ≤ 23976 := by
  obtain ⟨h1, h2⟩ := h.sn hs (nI 0)
  obtain ⟨c, c1, c2⟩ := h.car hs
  refine ⟨_, c, ?_, c1, c2, rfl, by omega⟩
  unfold stg
  rw [if_pos (by decide), h1, c1, nI_add]
theorem SB.zn (h : SB E C q P) {s : Nat} (hs : s < 96) : stg C q P s (nI 1) = nI (ns (fun p => bk C q p s (nI 1)) P) := by
  obtain ⟨h1, h2⟩ := h.sn hs (nI 1)
  unfold stg
  rw [if_neg (by decide), h1]
  exact Int32.add_zero _
theorem bq_bit : ∀ k, k < 12 → ∀ j, j < 2 ^ k → nI j ||| (nI 1 <<< (nI k &&& 31)) = nI (j + 2 ^ k) := by decide +kernel
theorem bq_n {s : Nat} : ∀ k, k ≤ 12 → ∃ j, bq C q s k = nI j ∧ j < 2 ^ k
  | 0, _ => ⟨0, rfl, by decide⟩
  | k + 1, hk => by
    obtain ⟨j, j1, j2⟩ := bq_n (s := s) k (by omega)
    show ∃ j, (if 0 < bF (bm C q k s) (nI 0) then bq C q s k ||| (nI 1 <<< (nI k &&& 31)) else bq C q s k) = nI j ∧ j < 2 ^ (k + 1)
    have e2 : 2 ^ (k + 1) = 2 ^ k + 2 ^ k := by rw [Nat.pow_succ]; omega
    split
    · exact ⟨_, by rw [j1, bq_bit k (by omega) j j2], by omega⟩
    · exact ⟨j, j1, by omega⟩
theorem oS_01 {x : Int32} (h : x = nI 0 ∨ x = nI 1) : (oS x = nI 0 ∨ oS x = nI 1) := by
  rcases h with rfl | rfl
  · exact Or.inr (by decide)
  · exact Or.inl (by decide)
theorem oT_c {v : Nat} (h9 : C' (q + 9) = C (q + 9)) (h10 : C' (q + 10) v = C (q + 10) v) (h11 : C' (q + 11) v = C (q + 11) v) (h12 : C' (q + 12) v = C (q + 12) v) : oT C' q P v = oT C q P v := by
  unfold oT stg
  simp only [sB, nB, bm, h9, h10, h11, h12]
/-- what a slot's settling leaves alone of the other slots -/
theorem sBM_sl {s v i : Nat} (hv : v ≠ s) (h1 : 10 ≤ i) (h2 : i ≤ 14) : sBM C q P s (q + i) v = C (q + i) v := by
  have hX : shMem (cM C q s (oT C q P s) P) q P s (oS (oT C q P s)) (cP C q s (oT C q P s) P) (q + i) v = C (q + i) v := by
    rw [shMem_ne (by omega) (by omega) (by omega) (by omega), cM_ne (by omega) (by omega) (by omega)]
  have U : ∀ (M : Mem) (a : Nat) (x : Int32), up M a s x (q + i) v = M (q + i) v := fun M a x => by
    by_cases e : q + i = a
    · subst e; exact up_ne2 hv
    · rw [up_ne e]
  unfold sBM
  rw [U, U, U, U, U, up_ne (by omega), hX]
theorem sBM_own {s : Nat} : sBM C q P s (q + 10) s = oT C q P s := by
  unfold sBM
  rw [up_ne (by omega), up_ne (by omega), up_ne (by omega), up_ne (by omega), up_eq]
/-- one slot -/
theorem st_all {s : Nat} (hE : ∀ r, r < 12 → E r < 2 ^ 31) (hs : s < 96) (hb : SB E C q P) (hr : SP B F C q) (hF : ∀ p, p < 12 → amt C q p s ≤ F p) : SB E (sdSt C q P s) q P ∧ SP (fun p => B p + 11988) (fun p => F p - amt C q p s) (sdSt C q P s) q ∧ mon (sdSt C q P s) q P = mon C q P ∧ sdSt C q P s (q + 10) s = oT C q P s ∧ ∀ v i, v ≠ s → 10 ≤ i → i ≤ 14 → sdSt C q P s (q + i) v = C (q + i) v := by
  have hP12 := hb.P12
  unfold sdSt
  by_cases hn : nB C q P s = 0
  · rw [if_pos hn]
    simp only []
    obtain ⟨k, k1, k2⟩ := hb.car hs
    refine ⟨(hb.s11 ⟨k / 2, by rw [k1, nI_div (by omega) (by decide) (by decide)], by omega⟩).s14, ((hr.o (by omega)).o (by omega)).le (fun _ _ => Nat.le_add_right _ _) (fun _ _ => Nat.sub_le _ _), by rw [mon_o (by omega) (by omega), mon_o (by omega) (by omega)], ?_, fun v i hv h1 h2 => ?_⟩
    · rw [up_ne (by omega), up_ne (by omega)]
      unfold oT
      rw [if_pos hn]
    · have U : ∀ (M : Mem) (a : Nat) (x : Int32), up M a s x (q + i) v = M (q + i) v := fun M a x => by
        by_cases e : q + i = a
        · subst e; exact up_ne2 hv
        · rw [up_ne e]
      rw [U, U]
  · rw [if_neg hn]
    refine ⟨?_, ?_, ?_, sBM_own, fun v i hv h1 h2 => sBM_sl hv h1 h2⟩
    all_goals
      have hsd := hb.o01 hs
      have hod := oS_01 hsd
      have hbk : ∀ p, bk C q p s (oT C q P s) ≤ amt C q p s := fun p => by
        unfold amt
        rcases hsd with e | e <;> rw [e] <;> omega
      obtain ⟨r1, r2, r3, r4⟩ := co_all (sd := oT C q P s) hs hb hr (fun p hp => Nat.le_trans (hbk p) (hF p hp)) P (Nat.le_refl P)
      have hK := (hb.sn hs (oT C q P s)).2
      obtain ⟨hL1, hL2⟩ := r1.sn hs (oS (oT C q P s))
      have key : ∃ B' : Nat → Nat, (∀ p, B' p ≤ B p + 11988) ∧ SB E (shMem (cM C q s (oT C q P s) P) q P s (oS (oT C q P s)) (cP C q s (oT C q P s) P)) q P ∧ SP B' (fun p => if p < P then F p - bk C q p s (oT C q P s) else F p) (shMem (cM C q s (oT C q P s) P) q P s (oS (oT C q P s)) (cP C q s (oT C q P s) P)) q ∧ mon (shMem (cM C q s (oT C q P s) P) q P s (oS (oT C q P s)) (cP C q s (oT C q P s) P)) q P = mon (cM C q s (oT C q P s) P) q P + shRes (cM C q s (oT C q P s) P) q P s (oS (oT C q P s)) (cP C q s (oT C q P s) P) := by
        unfold shMem shRes
        rw [hL1]
        by_cases hL0 : 0 < ns (fun p => bk (cM C q s (oT C q P s) P) q p s (oS (oT C q P s))) P
        · rw [if_pos (nI_gt hL0 (by omega)), if_pos (nI_gt hL0 (by omega)), r4]
          obtain ⟨u1, u2, u3⟩ := sh_all (sd := oS (oT C q P s)) hE hs hK hL0 hL2 (fun p hp => ns_1 (f := fun p => bk (cM C q s (oT C q P s) P) q p s (oS (oT C q P s))) hp) r1 r2 P (Nat.le_refl P)
          refine ⟨_, fun p => ?_, u1, u2, u3⟩
          show (if p < P then _ else _) ≤ _
          split <;> omega
        · have hz : ¬ 0 < nI (ns (fun p => bk (cM C q s (oT C q P s) P) q p s (oS (oT C q P s))) P) := by
            rw [show ns (fun p => bk (cM C q s (oT C q P s) P) q p s (oS (oT C q P s))) P = 0 by omega]
            decide
          rw [if_neg hz, if_neg hz]
          exact ⟨B, fun p => Nat.le_add_right _ _, r1, r2, (Int32.add_zero _).symm⟩
      obtain ⟨B', hB', v1, v2, v3⟩ := key
      unfold sBM
    · refine ((((((v1.s15).s10 hsd).s11 ?_).s12 hod).s13 ?_).s14)
      · split
        · obtain ⟨J, c, j1, -, -, -, j5⟩ := hb.qn hs
          exact ⟨J / 2, by rw [j1, nI_div (by omega) (by decide) (by decide)], by omega⟩
        · exact ⟨0, rfl, by omega⟩
      · split
        · exact bq_n P hP12
        · exact ⟨0, rfl, Nat.two_pow_pos P⟩
    · refine (((((((v2.le (fun p hp => hB' p) (fun p hp => ?_)).o ?_).o ?_).o ?_).o ?_).o ?_).o ?_)
      · show F p - amt C q p s ≤ (if p < P then _ else _)
        have := hbk p
        split <;> omega
      all_goals omega
    · rw [mon_o (by omega) (by omega), mon_o (by omega) (by omega), mon_o (by omega) (by omega), mon_o (by omega) (by omega), mon_o (by omega) (by omega), mon_15 (by omega), v3, r3]
      grind
end
