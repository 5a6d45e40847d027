/-! CALLS OF THE CLASS, between two of which At holds. -/
theorem ge_m2 {j : Nat} (h : j < 2 ^ 31) : ¬ nI j < (-2) := fun z => by
  have h1 := Int32.lt_iff_toInt_lt.mp z
  rw [nI_toInt h, show ((-2 : Int32)).toInt = -2 by decide] at h1
  omega
theorem neg_n : ∀ c, c < 1000 → 0 < c → -nI c < 0 ∧ (-100000 : Int32) ≤ -nI c ∧ -nI c ≤ nI 100000 := by decide +kernel
section
variable {sh : Sh} {M : Mem} {P t o z len : Nat}
/-- the latest state, and the one before it -/
def Rc (M M1 : Mem) (o z o' z' : Nat) : Prop := SE M 1 M1 (tp o' z') ∧ (0 < z → tp o' (z' - 1) = tp o z ∧ SE M (tp o z) M1 (tp o z))
theorem recM_lo (hz : z ≤ 5) {a : Nat} (ha : a < 33) : recM M 33 o z 1 a = M a := recM_ne hz (Or.inl ha)
theorem At.rec (hA : At t M P o z len) : SI t (recM M 33 o z 1) 1 P := hA.1.se (SE.fr (fun a _ h => recM_lo hA.2.1.2.1.2 (by omega)))
theorem At.z5 (hA : At t M P o z len) : z ≤ 5 := hA.2.1.2.1.2
theorem At.o5 (hA : At t M P o z len) : o < 5 := hA.2.1.1.2
theorem At.ho (hA : At t M P o z len) : M 33 1 = nI o := hA.2.1.1.1
theorem At.hz (hA : At t M P o z len) : M 33 2 = nI z := hA.2.1.2.1.1
theorem At.P12 (hA : At t M P o z len) : P ≤ 12 := hA.1.P12
theorem a_join_ok (hs : IsSH sh 0) (hA : At t M P o z len) (hP : P < 12) {k : Nat} (hk : k ≤ 100000) : ∃ M1, Calls mX4_join 4 0 0 [.inr (some 0), .inl (nI k)] sh M (some (.inl (nI P))) sh M1 ∧ At (t + 1) M1 (P + 1) (oN o z) (zN z) len ∧ Rc M M1 o z (oN o z) (zN z) ∧ (∀ a, 3 ≤ a → a ≤ 16 → M1 a = M a) ∧ (M1 2 P = nI k ∧ ∀ r, r ≠ P → M1 2 r = M 2 r) := by
  have hc := c_join_ok (b := 0) hs hA.wf hA.ho hA.hz hA.o5 hA.z5 (nI k) ⟨nI_le (Nat.zero_le _) (by omega), nI_le hk (by decide)⟩ hP
  have hS := hA.rec.join hP hk
  obtain ⟨h1, h2⟩ := hA.act (Nat.le_succ t) (fun a ha => by rw [up_ne (by omega), up_ne (by omega)]) hS
  refine ⟨_, hc, h1, h2, fun a a1 a2 => ?_, ?_, fun r hr => ?_⟩
  · show up (up (recM M 33 o z 1) 2 P (nI k)) 1 3 (nI (P + 1)) a = M a
    rw [up_ne (by omega), up_ne (by omega), recM_lo hA.z5 (by omega)]
  · show up (up (recM M 33 o z 1) 2 P (nI k)) 1 3 (nI (P + 1)) 2 P = nI k
    rw [up_ne (by omega), up_eq]
  · show up (up (recM M 33 o z 1) 2 P (nI k)) 1 3 (nI (P + 1)) 2 r = M 2 r
    rw [up_ne (by omega), up_ne2 hr, recM_lo hA.z5 (by omega)]
theorem a_join_full (hs : IsSH sh 0) (hA : At t M P o z len) (hP : P = 12) {k : Nat} (hk : k ≤ 100000) : Calls mX4_join 4 0 0 [.inr (some 0), .inl (nI k)] sh M (some (.inl (-3))) sh M := c_join_full (b := 0) hs hA.wf (nI k) ⟨nI_le (Nat.zero_le _) (by omega), nI_le hk (by decide)⟩ hP
theorem a_join (hs : IsSH sh 0) (hA : At t M P o z len) {k : Nat} (hk : k ≤ 100000) : ∃ r M1 P' o' z', Calls mX4_join 4 0 0 [.inr (some 0), .inl (nI k)] sh M (some (.inl r)) sh M1 ∧ At (t + 1) M1 P' o' z' len ∧ P ≤ P' ∧ ((∃ j, r = nI j ∧ j < 12) ∨ r = (-3)) := by
  have := hA.P12
  by_cases hP : P < 12
  · obtain ⟨M1, h1, h2, -⟩ := a_join_ok hs hA hP hk
    exact ⟨_, M1, _, _, _, h1, h2, Nat.le_succ P, Or.inl ⟨P, rfl, hP⟩⟩
  · exact ⟨_, M, P, o, z, a_join_full hs hA (by omega) hk, hA.mono (Nat.le_succ t), Nat.le_refl P, Or.inr rfl⟩
theorem a_pay_in (hs : IsSH sh 0) (hA : At t M P o z len) (ht : t ≤ 512) {p k : Nat} (hp : p < P) (hk : k ≤ 100000) : ∃ r M1 o' z', Calls mX4_pay 4 0 0 [.inr (some 0), .inl (nI p), .inl (nI k)] sh M (some (.inl r)) sh M1 ∧ At (t + 1) M1 P o' z' len ∧ ¬ r < (-2) := by
  have hp12 : p < 12 := Nat.lt_of_lt_of_le hp hA.P12
  have hx : (-100000 ≤ nI k ∧ nI k ≤ nI 100000) := ⟨by
    rw [Int32.le_iff_toInt_le, nI_toInt (by omega), show ((-100000 : Int32)).toInt = -100000 by decide]; omega, nI_le hk (by decide)⟩
  by_cases hc : cbp M 1 p (nI k)
  · have h := c_pay_ok (b := 0) hs hA.wf hA.ho hA.hz hA.o5 hA.z5 hp (nI k) hx hc
    have e : payM (recM M 33 o z 1) 1 p (nI k) = rcv (recM M 33 o z 1) 1 p (nI k) := if_neg (nI_pos (by omega))
    have hS := hA.rec.rcv ht hp (k := k) (by omega)
    have h : Calls mX4_pay 4 0 0 [.inr (some 0), .inl (nI p), .inl (nI k)] sh M (some (.inl (payM (recM M 33 o z 1) 1 p (nI k) 2 p))) sh (payM (recM M 33 o z 1) 1 p (nI k)) := h
    rw [e] at h
    obtain ⟨h1, -⟩ := hA.act (Nat.le_succ t) (fun a ha => rcv_ne (by omega) (by omega) (by omega)) hS
    obtain ⟨v, v1, v2, v3, -⟩ := hS.mny hp12
    refine ⟨_, _, _, _, h, h1, ?_⟩
    rw [show rcv (recM M 33 o z 1) 1 p (nI k) 2 p = nI v from v1]
    exact ge_m2 (by omega)
  · exact ⟨_, _, _, _, c_pay_ill (b := 0) hs hA.wf hp (nI k) hx hc, hA.mono (Nat.le_succ t), by decide⟩
theorem a_pay_out (hs : IsSH sh 0) (hA : At t M P o z len) (ht : t ≤ 512) {p k : Nat} (hp : p < P) (hk : k < 1000) (hk0 : 0 < k) : ∃ r M1 o' z', Calls mX4_pay 4 0 0 [.inr (some 0), .inl (nI p), .inl (-nI k)] sh M (some (.inl r)) sh M1 ∧ At (t + 1) M1 P o' z' len ∧ ¬ r < (-2) := by
  have hp12 : p < 12 := Nat.lt_of_lt_of_le hp hA.P12
  obtain ⟨n1, n2, n3⟩ := neg_n k hk hk0
  by_cases hc : cbp M 1 p (-nI k)
  · have h := c_pay_ok (b := 0) hs hA.wf hA.ho hA.hz hA.o5 hA.z5 hp (-nI k) ⟨n2, n3⟩ hc
    obtain ⟨w, w1, w2, w3, w4⟩ := hA.1.mny hp12
    have hkw : k ≤ w - hm M 1 p := by
      have h1 := hc.1
      have h2 : ¬ fM M 1 p < - (- nI k) := fun z => h1 ⟨n1, Or.inr z⟩
      rw [Int32.neg_neg, w4] at h2
      exact Nat.le_of_not_lt (fun z => h2 (nI_lt z (by omega)))
    have e : payM (recM M 33 o z 1) 1 p (-nI k) = up (recM M 33 o z 1) 2 p (nI (w - k)) := by
      unfold payM
      rw [if_pos n1, show recM M 33 o z 1 (1 + 1) p = nI w by rw [recM_lo hA.z5 (by decide)]; exact w1, ← Int32.sub_eq_add_neg, nI_subn (by omega)]
    have h9 : hm (recM M 33 o z 1) 1 p = hm M 1 p := hm_c (recM_lo hA.z5 (by decide))
    have hS := hA.rec.take hp (k := w - k) (by rw [h9]; omega) (by omega)
    have h : Calls mX4_pay 4 0 0 [.inr (some 0), .inl (nI p), .inl (-nI k)] sh M (some (.inl (payM (recM M 33 o z 1) 1 p (-nI k) 2 p))) sh (payM (recM M 33 o z 1) 1 p (-nI k)) := h
    rw [e] at h
    obtain ⟨h1, -⟩ := hA.act (Nat.le_refl t) (fun a ha => up_ne (by omega)) hS
    refine ⟨_, _, _, _, h, h1.mono (Nat.le_succ t), ?_⟩
    rw [up_eq]
    exact ge_m2 (by omega)
  · exact ⟨_, _, _, _, c_pay_ill (b := 0) hs hA.wf hp (-nI k) ⟨n2, n3⟩ hc, hA.mono (Nat.le_succ t), by decide⟩
theorem a_fine (hs : IsSH sh 0) (hA : At t M P o z len) {k : Nat} (hk : k ≤ 1000) : ∃ f M1 o' z', Calls mX4_setFine 4 0 0 [.inr (some 0), .inl (nI k)] sh M (some (.inl (nI f))) sh M1 ∧ At t M1 P o' z' len ∧ f ≤ 1000 := by
  have h := c_setFine_ok (b := 0) hs hA.wf hA.ho hA.hz hA.o5 hA.z5 (nI k) ⟨nI_le (Nat.zero_le _) (by omega), nI_le hk (by decide)⟩
  obtain ⟨f, f1, f2⟩ := hA.1.1.fine
  have hS := hA.rec.fine hk
  obtain ⟨h1, -⟩ := hA.act (Nat.le_refl t) (fun a ha => up_ne (by omega)) hS
  have h : Calls mX4_setFine 4 0 0 [.inr (some 0), .inl (nI k)] sh M (some (.inl (recM M 33 o z 1 1 1))) sh (up (recM M 33 o z 1) 1 1 (nI k)) := h
  rw [show recM M 33 o z 1 1 1 = nI f by rw [recM_lo hA.z5 (by decide)]; exact f1] at h
  exact ⟨f, _, _, _, h, h1, f2⟩
theorem a_bid_ok (hs : IsSH sh 0) (hA : At t M P o z len) (ht : t ≤ 512) {p st h a : Nat} {sd : Int32} (hp : p < P) (hst : st < 4) (hh : h < 24) (hsd : sd = nI 0 ∨ sd = nI 1) (ha : a ≤ 999) (he : bE M 1 p (st * 24 + h) (nI a) = 0) : ∃ v M1, fM M 1 p = nI v ∧ v ≤ 2000000 * t ∧ a ≤ v + amt M 1 p (st * 24 + h) ∧ Calls mX4_bid 4 0 0 [.inr (some 0), .inl (nI p), .inl (nI st), .inl (nI h), .inl sd, .inl (nI a)] sh M (some (.inl (nI (v + amt M 1 p (st * 24 + h) - a)))) sh M1 ∧ At t M1 P (oN o z) (zN z) len ∧ Rc M M1 o z (oN o z) (zN z) ∧ (∀ a, 1 ≤ a → a ≤ 16 → a ≠ 3 → a ≠ 10 → M1 a = M a) ∧ (∀ r v, v < 96 → bm M1 1 r v = if r = p ∧ v = st * 24 + h then mkB sd (nI a) else bm M 1 r v) ∧ fM M1 1 p = nI (v + amt M 1 p (st * 24 + h) - a) := by
  have hc := c_bid_ok (b := 0) hs hA.wf hA.ho hA.hz hA.o5 hA.z5 hp hst hh sd (nI a) (hsd.imp (fun e => e.trans nI_0) id) he
  have hslot : st * 24 + h < 96 := by omega
  have hSE : SE M 1 (recM M 33 o z 1) 1 := SE.fr (fun a _ h => recM_lo hA.z5 (by omega))
  have hp12 : p < 12 := Nat.lt_of_lt_of_le hp hA.P12
  have ebE : bE (recM M 33 o z 1) 1 p (st * 24 + h) (nI a) = 0 := by
    rw [← he]
    unfold bE fM bA bm
    rw [recM_lo hA.z5 (show 1 + 3 < 33 by decide), recM_lo hA.z5 (show 1 + 1 < 33 by decide), recM_lo hA.z5 (show 1 + 2 < 33 by decide), recM_lo hA.z5 (show 1 + 9 < 33 by decide)]
  obtain ⟨hS, v, v1, v2, v3, v4⟩ := hA.rec.bid ht hp hslot hsd ha ebE
  have hR : ∀ a, a < 33 → recM M 33 o z 1 a = M a := fun a h => recM_lo hA.z5 h
  have ef : fM (recM M 33 o z 1) 1 p = fM M 1 p := by unfold fM; rw [hR _ (by decide), hR _ (by decide)]
  have eam : amt (recM M 33 o z 1) 1 p (st * 24 + h) = amt M 1 p (st * 24 + h) := amt_c (hR _ (by decide))
  rw [ef] at v1
  rw [eam] at v3 v4
  obtain ⟨h1, h2⟩ := hA.act (Nat.le_refl t) (fun a ha => pB_ne (by omega) (by omega)) hS
  have hc : Calls mX4_bid 4 0 0 [.inr (some 0), .inl (nI p), .inl (nI st), .inl (nI h), .inl sd, .inl (nI a)] sh M (some (.inl (fM (pB (recM M 33 o z 1) 1 p (st * 24 + h) sd (nI a)) 1 p))) sh (pB (recM M 33 o z 1) 1 p (st * 24 + h) sd (nI a)) := hc
  rw [v4] at hc
  refine ⟨v, _, v1, v2, v3, hc, h1, h2, fun a a1 a2 a3 a4 => ?_, fun r v hv => ?_, v4⟩
  · rw [pB_ne (by omega) (by omega)]; exact hR _ (by omega)
  · rw [pB_bm hslot hv, show bm (recM M 33 o z 1) 1 r v = bm M 1 r v from congrFun (hR _ (by decide)) _]
theorem a_bid (hs : IsSH sh 0) (hA : At t M P o z len) (ht : t ≤ 512) {p st h a : Nat} {sd : Int32} (hp : p < P) (hst : st < 4) (hh : h < 24) (hsd : sd = nI 0 ∨ sd = nI 1) (ha : a ≤ 999) : ∃ r M1 o' z', Calls mX4_bid 4 0 0 [.inr (some 0), .inl (nI p), .inl (nI st), .inl (nI h), .inl sd, .inl (nI a)] sh M (some (.inl r)) sh M1 ∧ At t M1 P o' z' len := by
  by_cases he : bE M 1 p (st * 24 + h) (nI a) = 0
  · obtain ⟨v, M1, -, -, -, h1, h2, -⟩ := a_bid_ok hs hA ht hp hst hh hsd ha he
    exact ⟨_, _, _, _, h1, h2⟩
  · exact ⟨_, _, _, _, c_bid_err (b := 0) hs hA.wf hp hst hh sd (nI a) (hsd.imp (fun e => e.trans nI_0) id) he, hA⟩
theorem a_undo (hs : IsSH sh 0) (hA : At t M P o z len) (hz : 0 < z) {P' : Nat} {C0 : Mem} (hT : SE C0 1 M (tp o z)) (h0 : SI t C0 1 P') : ∃ M1, Calls mX4_undo 3 0 0 [.inr (some 0)] sh M (some (.inl (nI (z - 1)))) sh M1 ∧ At t M1 P' o (z - 1) len ∧ SE C0 1 M1 1 ∧ ∀ a, 17 ≤ a → a ≠ 33 → M1 a = M a := by
  have hc := c_undo_ok (b := 0) hs hA.wf hA.ho hA.hz hA.o5 hA.z5 hz
  obtain ⟨h1, h2, h3⟩ := hA.undo hz (h0.se hT)
  exact ⟨_, hc, h1, hT.tr h2, h3⟩
theorem a_settle (hs : IsSH sh 0) (hA : At t M P o z len) (ht : t ≤ 512) : ∃ M1 o' z', Calls mX4_settle 6 0 0 [.inr (some 0)] sh M (some (.inl (sm (fun st => nI 24 - qh M1 1 st) 4))) sh M1 ∧ At (t + 1) M1 P o' z' len ∧ mon M1 1 P = mon M 1 P ∧ (∀ v, v < 96 → M1 11 v = oT M 1 P v) ∧ (∀ p, p < 12 → ∃ e e', M 4 p = nI e ∧ M1 4 p = nI e' ∧ e' ≤ e ∧ e ≤ 1000 * t) ∧ M1 1 0 = M 1 0 + nI 1 ∧ (∀ p s, p < 12 → s < 96 → bm M1 1 p s = nI 0) ∧ (∀ p, p < 12 → M1 3 p = nI 0) ∧ ∀ C' q', SE M 1 C' q' → ∀ p, p < 12 → M1 2 p = sdD C' q' P (q' + 1) p := by
  obtain ⟨dy, d1, d2⟩ := hA.1.2.2.2.1
  have hc := c_settle_ok (b := 0) hs hA.wf hA.ho hA.hz hA.o5 hA.z5 (by rw [show M (0 + 1) 0 = nI dy from d1]; exact nI_lt (by omega) (by decide))
  obtain ⟨s1, s2, s3, s4⟩ := hA.rec.settle ht
  have hSE : SE M 1 (recM M 33 o z 1) 1 := SE.fr (fun a _ h => recM_lo hA.z5 (by omega))
  obtain ⟨h1, -⟩ := hA.act (Nat.le_succ t) (fun a ha => by
    rw [sdD_ne (by omega) (by omega) (by omega)]
    exact sdM_ne (by omega) (by omega) (by omega) (by omega) (by omega) (by omega) 96) s1
  refine ⟨_, _, _, hc, h1, ?_, fun v hv => ?_, fun p hp => ?_, ?_, fun p s hp hss => ?_, fun p hp => ?_, fun C' q' hq p hp => ?_⟩
  · exact s2.trans (hSE.mon hA.P12).symm
  · exact (s3 v hv).trans (hSE.ow hA.P12 hv).symm
  · obtain ⟨e, e', e1, e2, e3, e4⟩ := s4 p hp
    exact ⟨e, e', by rw [← e1]; exact (congrFun (recM_lo hA.z5 (by decide)) p).symm, e2, e3, e4⟩
  · exact (sdD_0 (C := recM M 33 o z 1) (q := 1) (P := P)).trans (congrArg (· + nI 1) (congrFun (recM_lo hA.z5 (by decide)) 0))
  · exact sdD_9 (by omega)
  · exact sdD_2 hp
  · exact ((hSE.sy.tr hq).sd hA.rec.wf).pe (i := 1) (by decide) (by decide) hp
theorem a_purseThen (hs : IsSH sh 0) (hA : At t M P o z len) {p : Nat} (hp : p < P) : ∃ M1, Calls mX4_purseThen 6 0 0 [.inr (some 0), .inl (nI p)] sh M (some (.inl (sdD (cpM M 1 17) 17 P 18 p))) sh M1 ∧ (∀ a, a < 17 ∨ 33 ≤ a → M1 a = M a) := by
  have hc := c_purseThen_ok (b := 0) hs hA.wf hp
  refine ⟨_, hc, fun a ha => ?_⟩
  show sdD (cpM M 1 17) 17 P a = M a
  rw [sdD_ne (by omega) (by omega) (by omega), sdM_ne (by omega) (by omega) (by omega) (by omega) (by omega) (by omega) 96, cpM_ne (by omega)]
theorem a_breach_ok (hs : IsSH sh 0) (hA : At t M P o z len) (ht : t < 512) {p st h : Nat} (hp : p < P) (hst : st < 4) (hh : h < 24) (hown : M 11 (st * 24 + h) = nI 0) : ∃ f v M1 o' z', M 1 1 = nI f ∧ f ≤ 1000 ∧ fM M 1 p = nI v ∧ v < 2 ^ 31 ∧ Calls mX4_breach 4 0 0 [.inr (some 0), .inl (nI p), .inl (nI st), .inl (nI h)] sh M (some (.inl (nI (min f v)))) sh M1 ∧ At (t + 1) M1 P o' z' len ∧ mon M1 1 P = mon M 1 P ∧ (∀ r, r < 12 → ∃ e e', M 4 r = nI e ∧ M1 4 r = nI e' ∧ e ≤ 1000 * t ∧ e' ≤ e + (if r = p then f - min f v else 0)) ∧ M1 11 = M 11 := by
  have hc := c_breach_ok (b := 0) hs hA.wf hA.ho hA.hz hA.o5 hA.z5 hp hst hh (by rw [show M (0 + 11) (st * 24 + h) = nI 0 from hown]; decide)
  have hR : ∀ a, a < 33 → recM M 33 o z 1 a = M a := fun a h => recM_lo hA.z5 h
  have hSE : SE M 1 (recM M 33 o z 1) 1 := SE.fr (fun a _ h => hR a (by omega))
  obtain ⟨f, v, f1, f2, v1, v2, r1, s1, s2, s3⟩ := hA.rec.breach (s := st * 24 + h) ht hp (by omega)
  obtain ⟨h1, -⟩ := hA.act (Nat.le_succ t) (fun a ha => nbM_ne (by omega) (by omega) (by omega) (by omega) (by omega) (by omega)) s1
  have hc : Calls mX4_breach 4 0 0 [.inr (some 0), .inl (nI p), .inl (nI st), .inl (nI h)] sh M (some (.inl (nbR (recM M 33 o z 1) 1 p (st * 24 + h)))) sh (nbM (recM M 33 o z 1) 1 P p (st * 24 + h)) := hc
  rw [r1] at hc
  refine ⟨f, v, _, _, _, ?_, f2, ?_, v2, hc, h1, s2.trans (hSE.mon hA.P12).symm, fun r hr => ?_, ?_⟩
  · rw [← f1]; exact (congrFun (hR 1 (by decide)) 1).symm
  · rw [← v1]; unfold fM; rw [hR _ (by decide), hR _ (by decide)]
  · obtain ⟨e, e', e1, e2, e3, e4⟩ := s3 r hr
    exact ⟨e, e', by rw [← e1]; exact (congrFun (hR 4 (by decide)) r).symm, e2, e3, e4⟩
  · rw [nbM_ne (by omega) (by omega) (by omega) (by omega) (by omega) (by omega)]; exact hR _ (by decide)
theorem a_breach_ill (hs : IsSH sh 0) (hA : At t M P o z len) {p st h : Nat} (hp : p < P) (hst : st < 4) (hh : h < 24) (hown : M 11 (st * 24 + h) = nI 1) : Calls mX4_breach 4 0 0 [.inr (some 0), .inl (nI p), .inl (nI st), .inl (nI h)] sh M (some (.inl (-2))) sh M := c_breach_ill (b := 0) hs hA.wf hp hst hh hown
end
