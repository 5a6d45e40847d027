/-! SETTLING, ON BOTH SIDES. -/
theorem sD_n {d P m s : Nat} {D : Mem} {sd : Int32} (hb : RB d (D (m + 1)) P) (hs : s < 96) : ∃ J : Nat, J ≤ 11988 ∧ sD D m P s sd = nI J ∧ ∀ p, p < P → bk (D (m + 1)) p s sd ≤ J := by
  obtain ⟨J, h1, h2, h3⟩ := sm_n (B := 999) (f := fun p => aF (dm D m p s) sd) (fun p hp => by
    obtain ⟨a1, a2⟩ := bk_v hb hp hs sd
    exact ⟨_, a2, a1⟩) P hb.P12
  have := hb.P12
  refine ⟨J, by omega, h2, fun p hp => ?_⟩
  obtain ⟨a1, a2⟩ := bk_v hb (show p < 12 by omega) hs sd
  exact h3 p hp _ a2 a1 (by decide)
set_option maxHeartbeats 4000000 in
theorem st_eq {d P q m s : Nat} {C D : Mem} {B F : Nat → Nat} (hd : d < 2 ^ 31) (hs : s < 96) (h : RowEq C q (D (m + 1))) (hb : RB d (D (m + 1)) P) (hr : RP B F (D (m + 1))) (hF : ∀ p, p < 12 → amt (D (m + 1)) p s ≤ F p) : RowEq (sdSt C q P s) q (stM D m P s (m + 1)) ∧ RB d (stM D m P s (m + 1)) P ∧ RP (fun p => B p + 11988) (fun p => F p - amt (D (m + 1)) p s) (stM D m P s (m + 1)) := by
  have hP12 := hb.P12
  unfold sdSt stM
  rw [h.nb2 hb hs]
  by_cases hn : nD D m P s = 0
  · rw [if_pos hn, if_pos hn]
    simp only []
    rw [puM_g, puM_g, show C (q + 11) s = D (m + 1) (92 + 5 * s + 1) from (h.2.2.1 s hs).2.1]
    obtain ⟨k, k1, k2⟩ := hb.2.2.2.2.2.1 s hs
    refine ⟨(h.s11 hs).s14 hs, (hb.s1 hs ⟨k / 2, by rw [k1, pk_div (by omega) (by decide) (by decide)], by omega⟩).s4 hs, ((hr.o (fun p hp => by omega)).o (fun p hp => by omega)).le (fun _ _ => Nat.le_add_right _ _) (fun _ _ => Nat.sub_le _ _)⟩
  · rw [if_neg hn, if_neg hn]
    unfold sBM
    simp only []
    rw [h.wn2 hb hs]
    have hsd := wn_01 hb hs
    generalize wnF D m P s = sd at hsd ⊢
    obtain ⟨od, ho, hod, hos⟩ : ∃ od : Int32, nI 1 - sd = od ∧ (od = nI 0 ∨ od = nI 1) ∧ oS sd = od := by
      rcases hsd with rfl | rfl
      · exact ⟨nI 1, by decide, Or.inr rfl, by decide⟩
      · exact ⟨nI 0, by decide, Or.inl rfl, by decide⟩
    obtain ⟨r1, r2, r3⟩ := co_eq hsd hs h hb hr (fun p hp => Nat.le_trans (bk_le hsd) (hF p hp)) P (Nat.le_refl P)
    have hcP : cP C q s sd P = sD D m P s sd := (cP_eq hsd hs h hb P hP12).trans (h.sb2 hb hs sd hsd)
    obtain ⟨K, hK, hK2, -⟩ := sD_n (sd := sd) hb hs
    have hmk : ∀ p, dm (coM D m s sd P) m p s = dm D m p s := fun p => coM_b hP12
    have hlost : sD (coM D m s sd P) m P s od = sD D m P s od := sm_c P (fun p hp => by rw [hmk p])
    obtain ⟨L, hL, hL2, hL3⟩ := sD_n (sd := od) r2 hs
    have hsB : sB (cM C q s sd P) q P s od = nI L := (r1.sb2 r2 hs od hod).trans hL2
    have key : ∃ B' : Nat → Nat, (∀ p, B' p ≤ B p + 11988) ∧ RowEq (shMem (cM C q s sd P) q P s od (nI K)) q (shD (coM D m s sd P) m s sd (nI K) (nI L) P (m + 1)) ∧ RB d (shD (coM D m s sd P) m s sd (nI K) (nI L) P (m + 1)) P ∧ RP B' (fun p => if p < P then F p - bk (D (m + 1)) p s sd else F p) (shD (coM D m s sd P) m s sd (nI K) (nI L) P (m + 1)) ∧ nI K - shRes (cM C q s sd P) q P s od (nI K) = shL (coM D m s sd P) m s sd (nI K) (nI L) P := by
      unfold shMem shRes
      rw [hsB]
      by_cases hL0 : 0 < L
      · have hpos : 0 < nI L := by rw [← nI_0]; exact nI_lt hL0 (by omega)
        rw [if_pos hpos, if_pos hpos]
        obtain ⟨u1, u2, u3, u4⟩ := sh_eq ho hod hd hs hK hL hL0 hL3 r1 r2 r3 P (Nat.le_refl P)
        refine ⟨_, fun p => ?_, u1, u2, u3, u4.symm⟩
        show (if p < P then _ else _) ≤ _
        split
        · exact Nat.le_refl _
        · omega
      · have hz : ¬ 0 < nI L := by
          rw [show L = 0 by omega]
          decide
        rw [if_neg hz, if_neg hz]
        obtain ⟨u1, u2⟩ := shD_0 (m := m) (s := s) (D := coM D m s sd P) (sum := nI K) (lost := nI L) ho (P := P) (fun p hp => by
          obtain ⟨a1, a2⟩ := bk_v r2 (show p < 12 by omega) hs od
          have := hL3 p hp
          rw [show dm (coM D m s sd P) m p s = coM D m s sd P (m + 1) (572 + 96 * p + s) from rfl, a1, show bk (coM D m s sd P (m + 1)) p s od = 0 by omega]
          decide) P (Nat.le_refl P)
        rw [u1, u2]
        exact ⟨B, fun p => Nat.le_add_right _ _, r1, r2, r3, by rw [nI_0, Int32.sub_zero]⟩
    obtain ⟨B', hB', v1, v2, v3, v4⟩ := key
    rw [hos, hcP, hK2, v4]
    rw [hlost] at hL2
    rw [ho, hL2]
    rw [puM_g, puM_g, puM_g, puM_g, puM_g, up_gu]
    have hf : shMem (cM C q s sd P) q P s od (nI K) (q + 15) (s / 24) = shD (coM D m s sd P) m s sd (nI K) (nI L) P (m + 1) (4 + s / 24) := v1.2.2.2.1 (s / 24) (by omega)
    rw [hf, (h.sg2 hb hs).1]
    have hbq : ∀ C6 : Mem, C6 (q + 9) = C (q + 9) → (if sd = 0 then bq C6 q s P else nI 0) = (if sd = 0 then coW D m s sd P else nI 0) ∧ ∃ j : Nat, (if sd = 0 then coW D m s sd P else nI 0) = nI j ∧ j < 2 ^ P := fun C6 h6 => by
      by_cases z : sd = 0
      · rw [if_pos z, if_pos z]
        have z0 : sd = nI 0 := z.trans nI_0.symm
        obtain ⟨x1, j, x2, x3⟩ := bq_eq (q := q) (m := m) (s := s) (C := C6) (D := D) (fun p hp => by
          rw [show bm C6 q p s = bm C q p s from congrFun h6 _]
          exact (h.mk2 hb hp hs).2.1 _ (Or.inl rfl)) P hP12
        rw [z0]
        exact ⟨x1, j, by rw [← x1]; exact x2, x3⟩
      · rw [if_neg z, if_neg z]
        exact ⟨rfl, 0, rfl, Nat.two_pow_pos P⟩
    have hm9 : ∀ C2 : Mem, C2 (q + 9) = C (q + 9) → ∀ x1 x2 x3 x4 : Int32, (up (up (up (up C2 (q + 15) (s / 24) x1) (q + 10) s x2) (q + 11) s x3) (q + 12) s x4) (q + 9) = C (q + 9) := fun C2 h2 x1 x2 x3 x4 => by
      rw [up_ne (by omega), up_ne (by omega), up_ne (by omega), up_ne (by omega)]
      exact h2
    have h9 : shMem (cM C q s sd P) q P s od (nI K) (q + 9) = C (q + 9) := by
      rw [shMem_ne (by omega) (by omega) (by omega) (by omega)]
      exact cM_ne (by omega) (by omega) (by omega) P
    rw [(hbq _ (hm9 _ h9 _ _ _ _)).1]
    obtain ⟨-, j, x2, x3⟩ := hbq C rfl
    have hq : ∃ J : Nat, qD D m P s = nI J ∧ J ≤ 23976 := by
      obtain ⟨K0, k1, k2, -⟩ := sD_n (sd := nI 0) hb hs
      obtain ⟨c, c1, c2⟩ := hb.2.2.2.2.2.1 s hs
      exact ⟨K0 + c, by unfold qD; rw [k2, c1, nI_add], by omega⟩
    obtain ⟨J, J1, J2⟩ := hq
    have hcar : ∃ k : Nat, (if sd = nI 1 then qD D m P s / nI 2 else nI 0) = nI k ∧ k ≤ 11988 := by
      split
      · exact ⟨J / 2, by rw [J1, pk_div (by omega) (by decide) (by decide)], by omega⟩
      · exact ⟨0, rfl, by omega⟩
    refine ⟨?_, (((((v2.f (by omega)).s0 hs hsd).s1 hs hcar).s2 hs).s3 hs ⟨j, x2, x3⟩).s4 hs, ?_⟩
    · have hg := st_fin (q := q) (xf := shD (coM D m s sd P) m s sd (nI K) (nI L) P (m + 1) (4 + s / 24) + shL (coM D m s sd P) m s sd (nI K) (nI L) P) (xc := (if sd = nI 1 then qD D m P s / nI 2 else nI 0)) (xw := (if sd = 0 then coW D m s sd P else nI 0)) (xp := nI K) hs hsd v1
      rw [hos] at hg
      exact hg
    · refine RP.o (RP.o (RP.o (RP.o (RP.o (RP.o (v3.le (fun p hp => hB' p) (fun p hp => ?_)) (fun p hp => by omega)) (fun p hp => by omega)) (fun p hp => by omega)) (fun p hp => by omega)) (fun p hp => by omega)) (fun p hp => by omega)
      have := bk_le (g := D (m + 1)) (p := p) (s := s) hsd
      show F p - amt (D (m + 1)) p s ≤ (if p < P then _ else _)
      split <;> omega
theorem sd_eq {d P q m : Nat} {C D : Mem} {B : Nat → Nat} (hd : d < 2 ^ 31) (h : RowEq C q (D (m + 1))) (hb : RB d (D (m + 1)) P) (hr : RP B (fun p => ns (amt (D (m + 1)) p) 96) (D (m + 1))) : ∀ s, s ≤ 96 → RowEq (sdM C q P s) q (saL D m P s (m + 1)) ∧ RB d (saL D m P s (m + 1)) P ∧ RP (fun p => B p + 11988 * s) (fun p => ns (amt (D (m + 1)) p) 96 - ns (amt (D (m + 1)) p) s) (saL D m P s (m + 1))
  | 0, _ => ⟨h, hb, hr⟩
  | s + 1, hs => by
    obtain ⟨h1, h2, h3⟩ := sd_eq hd h hb hr s (by omega)
    have ea : ∀ p, amt (saL D m P s (m + 1)) p s = amt (D (m + 1)) p s := fun p => amt_c (saL_b hb.wm s (by omega))
    obtain ⟨r1, r2, r3⟩ := st_eq hd (show s < 96 by omega) h1 h2 h3 (fun p hp => by
      rw [ea]
      have h5 : ns (amt (D (m + 1)) p) (s + 1) ≤ ns (amt (D (m + 1)) p) 96 := ns_le hs
      have h6 : ns (amt (D (m + 1)) p) (s + 1) = ns (amt (D (m + 1)) p) s + amt (D (m + 1)) p s := rfl
      show amt (D (m + 1)) p s ≤ ns (amt (D (m + 1)) p) 96 - ns (amt (D (m + 1)) p) s
      omega)
    refine ⟨r1, r2, r3.le (fun p hp => ?_) (fun p hp => ?_)⟩
    · show B p + 11988 * s + 11988 ≤ B p + 11988 * (s + 1)
      omega
    · rw [ea]
      have h6 : ns (amt (D (m + 1)) p) (s + 1) = ns (amt (D (m + 1)) p) s + amt (D (m + 1)) p s := rfl
      show ns (amt (D (m + 1)) p) 96 - ns (amt (D (m + 1)) p) (s + 1) ≤ ns (amt (D (m + 1)) p) 96 - ns (amt (D (m + 1)) p) s - amt (D (m + 1)) p s
      omega
theorem fill_ne {C : Mem} {a b n : Nat} {v : Int32} (h : b ≠ a) : fillM C a v n b = C b := by simp [fillM, h]
theorem fill_in {C : Mem} {a n j : Nat} {v : Int32} (h : j < n) : fillM C a v n a j = v := by simp [fillM, h]
theorem row_clear {q m : Nat} {C D : Mem} (h : RowEq C q (D (m + 1))) : RowEq (fillM (fillM C (q + 9) (nI 0) 1152) (q + 2) (nI 0) 12) q (fcO D (m + 1) 572 (fun _ => nI 0) 1152 (m + 1)) := by
  obtain ⟨⟨b1, b2, b3, b4⟩, a2, a3, a4, a5, a6⟩ := h
  have R : ∀ a, a ≠ q + 2 → a ≠ q + 9 → fillM (fillM C (q + 9) (nI 0) 1152) (q + 2) (nI 0) 12 a = C a := fun a h1 h2 => (fill_ne h1).trans (fill_ne h2)
  have G : ∀ j, j < 572 → fcO D (m + 1) 572 (fun _ => nI 0) 1152 (m + 1) j = D (m + 1) j := fun j hj => fcO_out (by omega)
  refine ⟨⟨?_, ?_, ?_, ?_⟩, fun p hp => ?_, fun s hs => ?_, fun j hj => ?_, fun p s hp hs => ?_, fun p hp => ?_⟩
  · rw [R _ (by omega) (by omega), G _ (by omega)]; exact b1
  · rw [R _ (by omega) (by omega), G _ (by omega)]; exact b2
  · rw [R _ (by omega) (by omega), G _ (by omega)]; exact b3
  · rw [R _ (by omega) (by omega), G _ (by omega)]; exact b4
  · rw [R _ (by omega) (by omega), R _ (by omega) (by omega), R _ (by omega) (by omega), R _ (by omega) (by omega), R _ (by omega) (by omega), R _ (by omega) (by omega), R _ (by omega) (by omega), G _ (by omega), G _ (by omega), G _ (by omega), G _ (by omega), G _ (by omega), G _ (by omega), G _ (by omega)]; exact a2 p hp
  · rw [R _ (by omega) (by omega), R _ (by omega) (by omega), R _ (by omega) (by omega), R _ (by omega) (by omega), R _ (by omega) (by omega), G _ (by omega), G _ (by omega), G _ (by omega), G _ (by omega), G _ (by omega)]; exact a3 s hs
  · rw [R _ (by omega) (by omega), G _ (by omega)]; exact a4 j hj
  · rw [fcO_in (by omega), fill_ne (by omega), fill_in (by omega)]
  · rw [fill_in hp]
    exact (hld_0 (fun s hs => by rw [fcO_in (by omega)]; rfl)).symm
theorem rb_clear {d P m : Nat} {D : Mem} (h : RB d (D (m + 1)) P) : RB d (fcO D (m + 1) 572 (fun _ => nI 0) 1152 (m + 1)) P := by
  obtain ⟨⟨a1, b1⟩, a2, a3, a4, a5, a6, a7, a8, a10⟩ := h
  have G : ∀ j, j < 572 → fcO D (m + 1) 572 (fun _ => nI 0) 1152 (m + 1) j = D (m + 1) j := fun j hj => fcO_out (by omega)
  exact ⟨⟨by rw [G _ (by omega)]; exact a1, b1⟩, fun p hp => by rw [G _ (by omega)]; exact a2 p hp, fun p s hp hs => ⟨0, fcO_in (by omega), by omega⟩, fun p h1 h2 => ⟨fun w hw => by rw [G _ (by omega)]; exact (a4 p h1 h2).1 w hw, fun s hs => by rw [fcO_in (by omega)]; rfl⟩, fun s hs => by rw [G _ (by omega)]; exact a5 s hs, fun s hs => by rw [G _ (by omega)]; exact a6 s hs, fun s hs => by rw [G _ (by omega)]; exact a7 s hs, by rw [G _ (by omega)]; exact a8, fun p hp => by rw [G _ (by omega)]; exact a10 p hp⟩
theorem RB.u0 {d P : Nat} {g : Nat → Int32} {x : Int32} (h : RB d g P) : RB d (gu g 0 x) P := by
  obtain ⟨⟨a1, b1⟩, a2, a3, a4, a5, a6, a7, a8, a10⟩ := h
  exact ⟨⟨by rw [gu_ne (by omega)]; exact a1, b1⟩, fun p hp => by rw [gu_ne (by omega)]; exact a2 p hp, fun p s hp hs => by rw [gu_ne (by omega)]; exact a3 p s hp hs, fun p h1 h2 => ⟨fun w hw => by rw [gu_ne (by omega)]; exact (a4 p h1 h2).1 w hw, fun s hs => by rw [gu_ne (by omega)]; exact (a4 p h1 h2).2 s hs⟩, fun s hs => by rw [gu_ne (by omega)]; exact a5 s hs, fun s hs => by rw [gu_ne (by omega)]; exact a6 s hs, fun s hs => by rw [gu_ne (by omega)]; exact a7 s hs, by rw [gu_ne (by omega)]; exact a8, fun p hp => by rw [gu_ne (by omega)]; exact a10 p hp⟩
theorem sdD_eq {d P q m : Nat} {C D : Mem} {B : Nat → Nat} (hd : d < 2 ^ 31) (h : RowEq C q (D (m + 1))) (hb : RB d (D (m + 1)) P) (hr : RP B (fun p => ns (amt (D (m + 1)) p) 96) (D (m + 1))) : RowEq (sdD C q P) q (saM D m P (m + 1)) ∧ RB d (saM D m P (m + 1)) P ∧ RP (fun p => B p + 1150848) (fun _ => 0) (saM D m P (m + 1)) ∧ (∀ p, p < 12 → hld (saM D m P (m + 1)) p = nI 0) ∧ saM D m P (m + 1) 0 = D (m + 1) 0 + nI 1 := by
  obtain ⟨h1, h2, h3⟩ := sd_eq hd h hb hr 96 (Nat.le_refl 96)
  have e0 : saL D m P 96 (m + 1) 0 = D (m + 1) 0 := h1.1.1.symm.trans ((congrFun (sdM_ne (by omega) (by omega) (by omega) (by omega) (by omega) (by omega) 96) 0).trans h.1.1)
  have eS : saM D m P (m + 1) = gu (fcO (saL D m P 96) (m + 1) 572 (fun _ => nI 0) 1152 (m + 1)) 0 (D (m + 1) 0 + nI 1) := by
    unfold saM
    rw [up_gu, show fcO (saL D m P 96) (m + 1) 572 (fun _ => nI 0) 1152 (m + 1) 0 = D (m + 1) 0 from (fcO_out (by omega)).trans e0]
  rw [eS]
  refine ⟨?_, (rb_clear h2).u0, ?_, fun p hp => ?_, gu_eq⟩
  · have h5 := (row_clear h1).u0 (x := D (m + 1) 0 + nI 1)
    unfold sdD
    simp only []
    rw [show fillM (fillM (sdM C q P 96) (q + 9) (nI 0) 1152) (q + 2) (nI 0) 12 q 0 = D (m + 1) 0 from (congrFun ((fill_ne (by omega)).trans (fill_ne (by omega))) 0).trans (h1.1.1.trans e0)]
    exact h5
  · refine RP.o (fun p hp => ?_) (fun p hp => by omega)
    rw [fcO_out (by omega)]
    obtain ⟨k, k1, k2, k3⟩ := h3 p hp
    exact ⟨k, k1, by show k ≤ B p + 1150848; have : k ≤ B p + 11988 * 96 := k2; omega, Nat.zero_le k⟩
  · exact hld_0 (fun s hs => by rw [gu_ne (by omega), fcO_in (by omega)]; rfl)
