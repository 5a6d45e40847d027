/-! SETTLING A DAY. -/
section
variable {C C' : Mem} {q q' P : Nat} {E E' B F B' F' : Nat → Nat}
theorem fill_ne {C : Mem} {a b n : Nat} {v : Int32} (h : b ≠ a) : fillM C a v n b = C b := by simp [fillM, h]
theorem fill_in {C : Mem} {a n j : Nat} {v : Int32} (h : j < n) : fillM C a v n a j = v := by simp [fillM, h]
theorem amt_c {p s : Nat} (h9 : C' (q + 9) = C (q + 9)) : amt C' q p s = amt C q p s := by
  unfold amt bk
  simp only [bm, h9]
theorem hm_c {p : Nat} (h9 : C' (q + 9) = C (q + 9)) : hm C' q p = hm C q p := ns_c 96 (fun s _ => amt_c h9)
theorem SE.am (h : SE C q C' q') {p s : Nat} (hp : p < 12) (hs : s < 96) : amt C q p s = amt C' q' p s := by
  show (bF (bm C q p s) (nI 0)).toInt.toNat + (bF (bm C q p s) (nI 1)).toInt.toNat = (bF (bm C' q' p s) (nI 0)).toInt.toNat + (bF (bm C' q' p s) (nI 1)).toInt.toNat
  rw [show bm C q p s = bm C' q' p s from h.m hp hs]
theorem SE.hm (h : SE C q C' q') {p : Nat} (hp : p < 12) : hm C q p = hm C' q' p := ns_c 96 (fun s hs => h.am hp hs)
theorem sdM_9 (s : Nat) : sdM C q P s (q + 9) = C (q + 9) := sdM_ne (by omega) (by omega) (by omega) (by omega) (by omega) (by omega) s
theorem sd_all (hE : ∀ r, r < 12 → E r < 2 ^ 31) (hb : SB E C q P) (hr : SP B (fun p => hm C q p) C q) : ∀ s, s ≤ 96 → SB E (sdM C q P s) q P ∧ SP (fun p => B p + 11988 * s) (fun p => hm C q p - ns (fun v => amt C q p v) s) (sdM C q P s) q ∧ mon (sdM C q P s) q P = mon C q P ∧ (∀ v, v < s → sdM C q P s (q + 10) v = oT C q P v) ∧ ∀ v i, s ≤ v → 10 ≤ i → i ≤ 14 → sdM C q P s (q + i) v = C (q + i) v
  | 0, _ => ⟨hb, hr, rfl, fun v hv => absurd hv (Nat.not_lt_zero v), fun _ _ _ _ _ => rfl⟩
  | s + 1, hs => by
    obtain ⟨h1, h2, h3, h4, h5⟩ := sd_all hE hb hr s (by omega)
    have ea : ∀ p, amt (sdM C q P s) q p s = amt C q p s := fun p => amt_c (sdM_9 s)
    have eo : oT (sdM C q P s) q P s = oT C q P s := oT_c (sdM_9 s) (h5 s 10 (Nat.le_refl s) (by decide) (by decide)) (h5 s 11 (Nat.le_refl s) (by decide) (by decide)) (h5 s 12 (Nat.le_refl s) (by decide) (by decide))
    have hle : ∀ p, ns (fun v => amt C q p v) s + amt C q p s ≤ hm C q p := fun p => ns_le (f := fun v => amt C q p v) hs
    obtain ⟨r1, r2, r3, r4, r5⟩ := st_all hE (show s < 96 by omega) h1 h2 (fun p hp => by
      rw [ea]
      have := hle p
      show amt C q p s ≤ hm C q p - ns (fun v => amt C q p v) s
      omega)
    show SB E (sdSt (sdM C q P s) q P s) q P ∧ SP _ _ (sdSt (sdM C q P s) q P s) q ∧ mon (sdSt (sdM C q P s) q P s) q P = _ ∧ (∀ v, v < s + 1 → sdSt (sdM C q P s) q P s (q + 10) v = _) ∧ ∀ v i, s + 1 ≤ v → 10 ≤ i → i ≤ 14 → sdSt (sdM C q P s) q P s (q + i) v = _
    refine ⟨r1, r2.le (fun p hp => ?_) (fun p hp => ?_), r3.trans h3, fun v hv => ?_, fun v i hv i1 i2 => ?_⟩
    · show B p + 11988 * s + 11988 ≤ B p + 11988 * (s + 1)
      omega
    · rw [ea]
      show hm C q p - (ns (fun v => amt C q p v) s + amt C q p s) ≤ hm C q p - ns (fun v => amt C q p v) s - amt C q p s
      omega
    · by_cases e : v = s
      · subst e; rw [r4, eo]
      · rw [r5 v 10 e (by decide) (by decide)]; exact h4 v (by omega)
    · rw [r5 v i (by omega) i1 i2]; exact h5 v i (by omega) i1 i2
theorem SB.f9 (h : SB E C q P) : SB E (fillM C (q + 9) (nI 0) 1152) q P := by
  obtain ⟨a1, a2, a3, a4, a5, a6⟩ := h
  refine ⟨a1.of (by rw [fill_ne (by omega)]) (fill_ne (by omega)), fun r s hr hs => ?_, fun r h1 h2 => ⟨fun i' h3 h4 => ?_, fun s hs => ?_⟩, fun s hs => ?_, ?_, fun r hr => ?_⟩
  · exact ⟨0, fill_in (by omega), Or.inl (by omega)⟩
  · rw [fill_ne (by omega)]; exact (a3 r h1 h2).1 i' h3 h4
  · exact (fill_in (by omega)).trans nI_0
  · rw [fill_ne (by omega), fill_ne (by omega), fill_ne (by omega), fill_ne (by omega)]; exact a4 s hs
  · rw [fill_ne (by omega)]; exact a5
  · rw [fill_ne (by omega)]; exact a6 r hr
theorem SB.f2 (h : SB E C q P) : SB E (fillM C (q + 2) (nI 0) 12) q P := by
  obtain ⟨a1, a2, a3, a4, a5, a6⟩ := h
  refine ⟨a1.of (by rw [fill_ne (by omega)]) (fill_ne (by omega)), fun r s hr hs => ?_, fun r h1 h2 => ⟨fun i' h3 h4 => ?_, fun s hs => ?_⟩, fun s hs => ?_, ?_, fun r hr => ?_⟩
  · rw [show bm (fillM C (q + 2) (nI 0) 12) q r s = bm C q r s from congrFun (fill_ne (by omega)) _]; exact a2 r s hr hs
  · by_cases e : i' = 2
    · subst e; exact (fill_in h2).trans nI_0
    · rw [fill_ne (by omega)]; exact (a3 r h1 h2).1 i' h3 h4
  · rw [show bm (fillM C (q + 2) (nI 0) 12) q r s = bm C q r s from congrFun (fill_ne (by omega)) _]; exact (a3 r h1 h2).2 s hs
  · rw [fill_ne (by omega), fill_ne (by omega), fill_ne (by omega), fill_ne (by omega)]; exact a4 s hs
  · rw [fill_ne (by omega)]; exact a5
  · rw [fill_ne (by omega)]; exact a6 r hr
/-- what stands behind the loop over slots -/
theorem sdD_ne {a : Nat} (h0 : a ≠ q) (h2 : a ≠ q + 2) (h9 : a ≠ q + 9) : sdD C q P a = sdM C q P 96 a := by
  unfold sdD
  rw [up_ne h0, fill_ne h2, fill_ne h9]
theorem sdD_q {j : Nat} (h : j ≠ 0) : sdD C q P q j = C q j := by
  unfold sdD
  rw [up_ne2 h, fill_ne (by omega), fill_ne (by omega)]
  exact congrFun (sdM_ne (by omega) (by omega) (by omega) (by omega) (by omega) (by omega) 96) j
theorem sdD_0 : sdD C q P q 0 = C q 0 + nI 1 := by
  unfold sdD
  rw [up_eq, fill_ne (by omega), fill_ne (by omega)]
  exact congrArg (· + nI 1) (congrFun (sdM_ne (by omega) (by omega) (by omega) (by omega) (by omega) (by omega) 96) 0)
theorem sdD_9 {j : Nat} (h : j < 1152) : sdD C q P (q + 9) j = nI 0 := by
  unfold sdD
  rw [up_ne (by omega), fill_ne (by omega), fill_in h]
theorem sdD_2 {j : Nat} (h : j < 12) : sdD C q P (q + 2) j = nI 0 := by
  unfold sdD
  rw [up_ne (by omega), fill_in h]
theorem sdD_8 : sdD C q P (q + 8) = C (q + 8) := (sdD_ne (by omega) (by omega) (by omega)).trans (sdM_ne (by omega) (by omega) (by omega) (by omega) (by omega) (by omega) 96)
theorem amt_0 {p s : Nat} (h : bm C q p s = nI 0) : amt C q p s = 0 := by
  show (bF (bm C q p s) (nI 0)).toInt.toNat + (bF (bm C q p s) (nI 1)).toInt.toNat = 0
  rw [h]
  decide
theorem hm_0 {p : Nat} (h : ∀ s, s < 96 → bm C q p s = nI 0) : hm C q p = 0 := by
  have : hm C q p = ns (fun _ => 0) 96 := ns_c 96 (fun s hs => amt_0 (h s hs))
  rw [this]
  decide
theorem SB.ex (h : SB E C q P) (hE : ∀ r, r < 12 → E r < 2 ^ 31) : SB (fun p => (C (q + 3) p).toInt.toNat) C q P := by
  obtain ⟨a1, a2, a3, a4, a5, a6⟩ := h
  refine ⟨a1, a2, a3, a4, a5, fun p hp => ?_⟩
  obtain ⟨k, h1, h2⟩ := a6 p hp
  have := hE p hp
  refine ⟨k, h1, ?_⟩
  show k ≤ (C (q + 3) p).toInt.toNat
  rw [h1, nI_toInt (by omega)]
  omega
theorem SI.settle {t : Nat} (ht : t ≤ 512) (h : SI t C q P) : SI (t + 1) (sdD C q P) q P ∧ mon (sdD C q P) q P = mon C q P ∧ (∀ v, v < 96 → sdD C q P (q + 10) v = oT C q P v) ∧ ∀ p, p < 12 → ∃ e e', C (q + 3) p = nI e ∧ sdD C q P (q + 3) p = nI e' ∧ e' ≤ e ∧ e ≤ 1000 * t := by
  obtain ⟨hb, hp, hh, ⟨dy, d1, d2⟩, hbr⟩ := h
  have hb2 := hb.ex (fun r _ => by show 1000 * t < _; omega)
  have hEx : ∀ p, p < 12 → ∃ k, C (q + 3) p = nI k ∧ k ≤ 1000 * t ∧ (C (q + 3) p).toInt.toNat = k := fun p hp => by
    obtain ⟨k, h1, h2⟩ := hb.deb hp
    have h2 : k ≤ 1000 * t := h2
    refine ⟨k, h1, h2, ?_⟩
    rw [h1, nI_toInt (by omega)]
    omega
  obtain ⟨h1, h2, h3, h4, -⟩ := sd_all (fun r hr => by
    obtain ⟨k, -, k2, k3⟩ := hEx r hr
    show (C (q + 3) r).toInt.toNat < _
    omega) hb2 hp 96 (Nat.le_refl 96)
  have hbD : SB (fun p => (C (q + 3) p).toInt.toNat) (sdD C q P) q P := by
    unfold sdD
    exact (h1.f9.f2).w0 (by decide) (fun z => absurd z (by decide))
  have hb9 : ∀ p s, p < 12 → s < 96 → bm (sdD C q P) q p s = nI 0 := fun p s hp hs => sdD_9 (by omega)
  have hm0 : ∀ p, p < 12 → hm (sdD C q P) q p = 0 := fun p hp => hm_0 (fun s hs => hb9 p s hp hs)
  refine ⟨⟨hbD.mono (fun p hp => ?_), fun p hp => ?_, fun p hp => ?_, ⟨dy + 1, by rw [sdD_0, d1, nI_add], by omega⟩, ?_⟩, ?_, fun v hv => ?_, fun p hp => ?_⟩
  · obtain ⟨k, -, k2, k3⟩ := hEx p hp
    show (C (q + 3) p).toInt.toNat ≤ 1000 * (t + 1)
    omega
  · rw [sdD_ne (by omega) (by omega) (by omega)]
    obtain ⟨k, k1, k2, k3⟩ := h2 p hp
    have k3 : k ≤ 2000000 * t + 11988 * 96 := k3
    exact ⟨k, k1, by show hm (sdD C q P) q p ≤ k; rw [hm0 p hp]; omega, by show k ≤ 2000000 * (t + 1); omega⟩
  · rw [sdD_2 hp, hm0 p hp]
  · rw [sdD_q (by decide), sdD_8]; exact hbr
  · rw [← h3]
    exact mon_c (sdD_ne (by omega) (by omega) (by omega)) (sdD_ne (by omega) (by omega) (by omega))
  · rw [sdD_ne (by omega) (by omega) (by omega)]; exact h4 v hv
  · obtain ⟨k, k1, k2, k3⟩ := hEx p hp
    obtain ⟨e', e1, e2⟩ := hbD.deb hp
    exact ⟨k, e', k1, e1, by have : e' ≤ (C (q + 3) p).toInt.toNat := e2; omega, k2⟩
/-! THE SAME AT ANY PLACE OF THE MEMORY. -/
theorem SE.cs {s p : Nat} {sd : Int32} (h : SE C q C' q') (hp : p < 12) (hs : s < 96) : SE (cSt C q s sd p) q (cSt C' q' s sd p) q' := by
  rw [cSt_e, cSt_e, show bm C q p s = bm C' q' p s from h.m hp hs, h.pe (i := 1) (by decide) (by decide) hp, h.pe (i := 5) (by decide) (by decide) hp, h.pe (i := 6) (by decide) (by decide) hp]
  split
  · exact ((h.up rfl).up rfl).up rfl
  · exact h
theorem SE.cm {s : Nat} {sd : Int32} (h : SE C q C' q') (hs : s < 96) : ∀ k, k ≤ 12 → SE (cM C q s sd k) q (cM C' q' s sd k) q' ∧ cP C q s sd k = cP C' q' s sd k
  | 0, _ => ⟨h, rfl⟩
  | k + 1, hk => by
    obtain ⟨h1, h2⟩ := SE.cm (sd := sd) h hs k (by omega)
    refine ⟨h1.cs (by omega) hs, ?_⟩
    show (if 0 < bF (bm (cM C q s sd k) q k s) sd then cP C q s sd k + bF (bm (cM C q s sd k) q k s) sd else cP C q s sd k) = (if 0 < bF (bm (cM C' q' s sd k) q' k s) sd then cP C' q' s sd k + bF (bm (cM C' q' s sd k) q' k s) sd else cP C' q' s sd k)
    rw [h2, show bm (cM C q s sd k) q k s = bm (cM C' q' s sd k) q' k s from h1.m (by omega) hs]
theorem SE.sm {s : Nat} {sd m u : Int32} (h : SE C q C' q') (hw : Wf C q P) (hs : s < 96) : ∀ k, k ≤ 12 → SE (shM C q s sd m u k) q (shM C' q' s sd m u k) q' ∧ shP C q s sd m u k = shP C' q' s sd m u k
  | 0, _ => ⟨h, rfl⟩
  | k + 1, hk => by
    obtain ⟨h1, h2⟩ := SE.sm (sd := sd) (m := m) (u := u) h hw hs k (by omega)
    have eb : bm (shM C q s sd m u k) q k s = bm (shM C' q' s sd m u k) q' k s := h1.m (by omega) hs
    refine ⟨?_, ?_⟩
    · show SE (shSt (shM C q s sd m u k) q s sd m u k) q (shSt (shM C' q' s sd m u k) q' s sd m u k) q'
      obtain ⟨st, s1, s2⟩ := vp4 ((hw.shM (s := s) (sd := sd) (m := m) (sum := u) k).2.2 k (by omega))
      rw [shSt_e, shSt_e, eb, h1.pe (i := 7) (by decide) (by decide) (show k < 12 by omega)]
      exact (h1.rc (by omega) s1 s2 rfl).up rfl
    · show shP C q s sd m u k + m * bF (bm (shM C q s sd m u k) q k s) sd / u = shP C' q' s sd m u k + m * bF (bm (shM C' q' s sd m u k) q' k s) sd / u
      rw [h2, eb]
theorem SE.sh {s : Nat} {sd m : Int32} (h : SE C q C' q') (hw : Wf C q P) (hs : s < 96) : SE (shMem C q P s sd m) q (shMem C' q' P s sd m) q' ∧ shRes C q P s sd m = shRes C' q' P s sd m := by
  unfold shMem shRes
  rw [h.sb hw.2.1 hs]
  obtain ⟨h1, h2⟩ := SE.sm (sd := sd) (m := m) (u := sB C' q' P s sd) h hw hs P hw.2.1
  split
  · exact ⟨h1, h2⟩
  · exact ⟨h, rfl⟩
theorem SE.bq {s : Nat} (h : SE C q C' q') (hs : s < 96) : ∀ k, k ≤ 12 → bq C q s k = bq C' q' s k
  | 0, _ => rfl
  | k + 1, hk => by
    show (if 0 < bF (bm C q k s) (nI 0) then _ else _) = (if 0 < bF (bm C' q' k s) (nI 0) then _ else _)
    rw [show bm C q k s = bm C' q' k s from h.m (by omega) hs, SE.bq h hs k (by omega)]
theorem SE.bM {s : Nat} (h : SE C q C' q') (hw : Wf C q P) (hs : s < 96) : SE (sBM C q P s) q (sBM C' q' P s) q' := by
  unfold sBM
  rw [h.ow hw.2.1 hs, h.sg hw.2.1 hs]
  generalize oT C' q' P s = sd
  simp only []
  obtain ⟨h1, h2⟩ := SE.cm (sd := sd) h hs P hw.2.1
  rw [h2]
  obtain ⟨h3, h4⟩ := SE.sh (sd := oS sd) (m := cP C' q' s sd P) h1 (hw.cM P) hs
  rw [h4, h3.fu (show s / 24 < 4 by omega)]
  have h5 := ((((h3.up (i := 15) (j := s / 24) (x := shMem (cM C' q' s sd P) q' P s (oS sd) (cP C' q' s sd P) (q' + 15) (s / 24) + (cP C' q' s sd P - shRes (cM C' q' s sd P) q' P s (oS sd) (cP C' q' s sd P))) rfl).up (i := 10) (j := s) (x := sd) rfl).up (i := 11) (j := s) (x := if sd = nI 1 then stg C' q' P s (nI 0) / nI 2 else nI 0) rfl).up (i := 12) (j := s) (x := oS sd) rfl)
  rw [h5.bq hs P hw.2.1]
  exact (h5.up rfl).up rfl
theorem SE.sS {s : Nat} (h : SE C q C' q') (hw : Wf C q P) (hs : s < 96) : SE (sdSt C q P s) q (sdSt C' q' P s) q' := by
  unfold sdSt
  rw [h.nb hw.2.1 hs]
  split
  · rw [h.sl (i := 11) (by decide) (by decide) hs]
    exact (h.up rfl).up rfl
  · exact h.bM hw hs
theorem SE.sM (h : SE C q C' q') (hw : Wf C q P) : ∀ s, s ≤ 96 → SE (sdM C q P s) q (sdM C' q' P s) q'
  | 0, _ => h
  | s + 1, hs => (SE.sM h hw s (by omega)).sS (hw.sdM s) (by omega)
theorem SE.fl {i n : Nat} {v : Int32} (h : SE C q C' q') : SE (fillM C (q + i) v n) q (fillM C' (q' + i) v n) q' := by
  intro a b ha hb
  by_cases e : a = i
  · subst e
    by_cases e2 : b < n
    · rw [fill_in e2, fill_in e2]
    · simp only [fillM, if_true, if_neg e2]; exact h a b ha hb
  · rw [fill_ne (by omega), fill_ne (by omega)]; exact h a b ha hb
theorem SE.sd (h : SE C q C' q') (hw : Wf C q P) : SE (sdD C q P) q (sdD C' q' P) q' := by
  unfold sdD
  have h1 := (((SE.sM h hw 96 (Nat.le_refl 96)).fl (i := 9) (v := nI 0) (n := 1152)).fl (i := 2) (v := nI 0) (n := 12))
  exact h1.up (i := 0) (j := 0) (congrArg (· + nI 1) (h1.f (j := 0) (by decide)))
end
