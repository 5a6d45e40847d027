/-! WHAT QUESTIONS ANSWER, while At holds. -/
section
variable {sh : Sh} {M : Mem} {P t o z len : Nat}
theorem qh_n {C : Mem} {q st : Nat} : qh C q st = nI (ns (fun h => if C (q + 10) (st * 24 + h) = 0 then 1 else 0) 24) := sm_ns 24 (fun h _ => by split <;> rfl)
theorem qrun_n {f : Nat → Int32} : ∀ n h, qrun f n h + ns (fun h => if f h = 0 then 1 else 0) h ≤ ns (fun h => if f h = 0 then 1 else 0) (h + n)
  | 0, h => by show 0 + _ ≤ _; rw [Nat.zero_add]; exact Nat.le_refl _
  | n + 1, h => by
    show (if f h = 0 then qrun f n (h + 1) + 1 else 0) + _ ≤ _
    have e1 : ns (fun h => if f h = 0 then 1 else 0) (h + 1) = ns (fun h => if f h = 0 then 1 else 0) h + (if f h = 0 then 1 else 0) := rfl
    by_cases e : f h = 0
    · rw [if_pos e]
      have := qrun_n (f := f) n (h + 1)
      rw [e1, if_pos e, show h + 1 + n = h + (n + 1) by omega] at this
      omega
    · rw [if_neg e, Nat.zero_add]
      exact ns_le (Nat.le_add_right h (n + 1))
theorem lqn_n {f : Nat → Int32} {T : Nat} : ∀ k, k ≤ T → T = 24 → lqn f k ≤ ns (fun h => if f h = 0 then 1 else 0) T
  | 0, _, _ => Nat.zero_le _
  | k + 1, hk, hT => by
    have h1 := lqn_n (f := f) k (by omega) hT
    have h2 := qrun_n (f := f) (24 - k) k
    rw [show k + (24 - k) = T by omega] at h2
    show max (lqn f k) (qrun f (24 - k) k) ≤ _
    omega
theorem q_c0 (hs : IsSH sh 0) (hA : At t M P o z len) : Calls mX4_count 3 0 0 [.inr (some 0), .inl (nI 0)] sh M (some (.inl (M 1 0))) sh M := c_count_0 (b := 0) hs hA.wf
theorem q_c1 (hs : IsSH sh 0) (hA : At t M P o z len) : Calls mX4_count 3 0 0 [.inr (some 0), .inl (nI 1)] sh M (some (.inl (nI P))) sh M := c_count_1 (b := 0) hs hA.wf
theorem q_c2 (hs : IsSH sh 0) (hA : At t M P o z len) : Calls mX4_count 3 0 0 [.inr (some 0), .inl (nI 2)] sh M (some (.inl (sm (fun p => sm (fun s => n01 (bm M 1 p s)) 96) P))) sh M := c_count_2 (b := 0) hs hA.wf
theorem q_c3 (hs : IsSH sh 0) (hA : At t M P o z len) : Calls mX4_count 3 0 0 [.inr (some 0), .inl (nI 3)] sh M (some (.inl (sm (fun st => nI 24 - qh M 1 st) 4))) sh M := c_count_3 (b := 0) hs hA.wf
theorem q_c4 (hs : IsSH sh 0) (hA : At t M P o z len) : Calls mX4_count 3 0 0 [.inr (some 0), .inl (nI 4)] sh M (some (.inl (M 1 1))) sh M := c_count_4 (b := 0) hs hA.wf
theorem q_c5 (hs : IsSH sh 0) (hA : At t M P o z len) : Calls mX4_count 3 0 0 [.inr (some 0), .inl (nI 5)] sh M (some (.inl (mon M 1 P))) sh M := by
  have h := c_count_5 (b := 0) hs hA.wf
  rw [sm2_e] at h
  exact h
theorem q_c6 (hs : IsSH sh 0) (hA : At t M P o z len) : Calls mX4_count 3 0 0 [.inr (some 0), .inl (nI 6)] sh M (some (.inl (sm (fun p => M 4 p) P))) sh M := c_count_6 (b := 0) hs hA.wf
theorem q_c7 (hs : IsSH sh 0) (hA : At t M P o z len) : Calls mX4_count 3 0 0 [.inr (some 0), .inl (nI 7)] sh M (some (.inl (M 1 2))) sh M := c_count_7 (b := 0) hs hA.wf
theorem q_c8 (hs : IsSH sh 0) (hA : At t M P o z len) : Calls mX4_count 3 0 0 [.inr (some 0), .inl (nI 8)] sh M (some (.inl (nI z))) sh M := by
  have h := c_count_8 (b := 0) hs hA.wf
  rw [show M (0 + 33) 2 = nI z from hA.hz] at h
  exact h
theorem q_c9 (hs : IsSH sh 0) (hA : At t M P o z len) : Calls mX4_count 3 0 0 [.inr (some 0), .inl (nI 9)] sh M (some (.inl (nI len))) sh M := by
  have h := c_count_9 (b := 0) hs hA.wf
  rw [show M (0 + 115) 1 = nI len from hA.2.2.1.1] at h
  exact h
theorem q_p0 (hs : IsSH sh 0) (hA : At t M P o z len) {p : Nat} (hp : p < P) : Calls mX4_person 2 0 0 [.inr (some 0), .inl (nI p), .inl (nI 0)] sh M (some (.inl (M 2 p))) sh M := c_person_0 (b := 0) hs hA.wf hp
theorem q_p1 (hs : IsSH sh 0) (hA : At t M P o z len) {p : Nat} (hp : p < P) : Calls mX4_person 2 0 0 [.inr (some 0), .inl (nI p), .inl (nI 1)] sh M (some (.inl (fM M 1 p))) sh M := c_person_1 (b := 0) hs hA.wf hp
theorem q_p2 (hs : IsSH sh 0) (hA : At t M P o z len) {p : Nat} (hp : p < P) : Calls mX4_person 2 0 0 [.inr (some 0), .inl (nI p), .inl (nI 2)] sh M (some (.inl (M 4 p))) sh M := c_person_2 (b := 0) hs hA.wf hp
theorem q_p3 (hs : IsSH sh 0) (hA : At t M P o z len) {p : Nat} (hp : p < P) : Calls mX4_person 2 0 0 [.inr (some 0), .inl (nI p), .inl (nI 3)] sh M (some (.inl (sm (fun s => n01 (bm M 1 p s)) 96))) sh M := c_person_3 (b := 0) hs hA.wf hp
theorem q_p7 (hs : IsSH sh 0) (hA : At t M P o z len) {p : Nat} (hp : p < P) : Calls mX4_person 2 0 0 [.inr (some 0), .inl (nI p), .inl (nI 7)] sh M (some (.inl (M 9 p))) sh M := c_person_7 (b := 0) hs hA.wf hp
theorem nP (hP : P ≤ 12) : ¬ isP P (nI P) := fun ⟨p, h1, h2⟩ => by
  have := (nI_eq (by omega) (by omega)).mp h2
  omega
theorem q_pP (hs : IsSH sh 0) (hA : At t M P o z len) : Calls mX4_person 2 0 0 [.inr (some 0), .inl (nI P), .inl (nI 0)] sh M (some (.inl (-1))) sh M := c_person_bad (b := 0) hs hA.wf _ _ (nP hA.P12)
theorem q_bo (hs : IsSH sh 0) (hA : At t M P o z len) {p st h : Nat} (hp : p < P) (hst : st < 4) (hh : h < 24) : Calls mX4_bidOf 3 0 0 [.inr (some 0), .inl (nI p), .inl (nI st), .inl (nI h)] sh M (some (.inl (if bm M 1 p (st * 24 + h) = 0 then (-9) else bm M 1 p (st * 24 + h)))) sh M := c_bidOf_ok (b := 0) hs hA.wf hp hst hh
theorem q_wi (hs : IsSH sh 0) (hA : At t M P o z len) {st h : Nat} (hst : st < 4) (hh : h < 24) : Calls mX4_winner 4 0 0 [.inr (some 0), .inl (nI st), .inl (nI h)] sh M (some (.inl (oT M 1 P (st * 24 + h)))) sh M := c_winner_ok (b := 0) hs hA.wf hst hh
theorem q_ne (hs : IsSH sh 0) (hA : At t M P o z len) {st h : Nat} (hst : st < 4) (hh : h < 24) {sd : Int32} (hsd : sd = nI 0 ∨ sd = nI 1) : Calls mX4_needed 5 0 0 [.inr (some 0), .inl (nI st), .inl (nI h), .inl sd] sh M (some (.inl (mF M 1 P (st * 24 + h) sd))) sh M := c_needed_ok (b := 0) hs hA.wf hst hh sd (hsd.imp (fun e => e.trans nI_0) id)
theorem q_s0 (hs : IsSH sh 0) (hA : At t M P o z len) {st h : Nat} (hst : st < 4) (hh : h < 24) : Calls mX4_slot 3 0 0 [.inr (some 0), .inl (nI st), .inl (nI h), .inl (nI 0)] sh M (some (.inl (M 11 (st * 24 + h)))) sh M := c_slot_0 (b := 0) hs hA.wf hst hh
theorem q_s1 (hs : IsSH sh 0) (hA : At t M P o z len) {st h : Nat} (hst : st < 4) (hh : h < 24) : Calls mX4_slot 3 0 0 [.inr (some 0), .inl (nI st), .inl (nI h), .inl (nI 1)] sh M (some (.inl (sB M 1 P (st * 24 + h) (nI 0)))) sh M := c_slot_1 (b := 0) hs hA.wf hst hh
theorem q_s2 (hs : IsSH sh 0) (hA : At t M P o z len) {st h : Nat} (hst : st < 4) (hh : h < 24) : Calls mX4_slot 3 0 0 [.inr (some 0), .inl (nI st), .inl (nI h), .inl (nI 2)] sh M (some (.inl (sB M 1 P (st * 24 + h) (nI 1)))) sh M := c_slot_2 (b := 0) hs hA.wf hst hh
theorem q_s3 (hs : IsSH sh 0) (hA : At t M P o z len) {st h : Nat} (hst : st < 4) (hh : h < 24) : Calls mX4_slot 3 0 0 [.inr (some 0), .inl (nI st), .inl (nI h), .inl (nI 3)] sh M (some (.inl (M 12 (st * 24 + h)))) sh M := c_slot_3 (b := 0) hs hA.wf hst hh
theorem q_s4 (hs : IsSH sh 0) (hA : At t M P o z len) {st h : Nat} (hst : st < 4) (hh : h < 24) : Calls mX4_slot 3 0 0 [.inr (some 0), .inl (nI st), .inl (nI h), .inl (nI 4)] sh M (some (.inl (nB M 1 P (st * 24 + h)))) sh M := c_slot_4 (b := 0) hs hA.wf hst hh
theorem q_fu (hs : IsSH sh 0) {st : Nat} (hst : st < 4) : Calls mX4_fund 2 0 0 [.inr (some 0), .inl (nI st)] sh M (some (.inl (M 16 st))) sh M := c_fund_ok (b := 0) hs hst
theorem q_q0 (hs : IsSH sh 0) {st : Nat} (hst : st < 4) : Calls mX4_quiet 3 0 0 [.inr (some 0), .inl (nI st), .inl (nI 0)] sh M (some (.inl (qh M 1 st))) sh M := c_quiet_0 (b := 0) hs hst
theorem q_q1 (hs : IsSH sh 0) {st : Nat} (hst : st < 4) : Calls mX4_quiet 3 0 0 [.inr (some 0), .inl (nI st), .inl (nI 1)] sh M (some (.inl (nI (lqn (owr M 1 st) 24)))) sh M := c_quiet_1 (b := 0) hs hst
theorem q_q01 {st : Nat} : ¬ qh M 1 st < nI (lqn (owr M 1 st) 24) := by
  rw [qh_n]
  have h2 := lqn_le (owr M 1 st) 24
  have h1 := lqn_n (f := owr M 1 st) 24 (Nat.le_refl 24) rfl
  have h3 : ns (fun h => if M (1 + 10) (st * 24 + h) = 0 then 1 else 0) 24 ≤ 1 * 24 := ns_b 24 (fun h _ => by show (if _ then _ else _) ≤ 1; split <;> omega)
  exact nI_nlt h1 (by omega)
/-! what is needed -/
theorem oS_sub {x : Int32} (h : x = nI 0 ∨ x = nI 1) : nI 1 - x = oS x := by
  rcases h with rfl | rfl <;> decide
theorem oS_ne {x : Int32} (h : x = nI 0 ∨ x = nI 1) : x ≠ oS x := by
  rcases h with rfl | rfl <;> decide
theorem oS_oS {x : Int32} (h : x = nI 0 ∨ x = nI 1) : oS (oS x) = x := by
  rcases h with rfl | rfl <;> decide
theorem mF_0 {C : Mem} {q s : Nat} {x : Int32} (h : oT C q P s = x) : mF C q P s x = nI 0 := by
  unfold mF
  rw [if_pos h]
theorem mx_pos {x y : Int32} (h : 0 < x) : 0 < mx x y := by
  unfold mx
  split
  · rename_i c
    exact Int32.lt_trans h c
  · exact h
theorem mF_pos {C : Mem} {q s : Nat} {x : Int32} (h : oT C q P s ≠ x) : 0 < mF C q P s x := by
  unfold mF
  rw [if_neg h]
  exact mx_pos (by decide)
theorem mon_f : M 16 0 + M 16 1 + M 16 2 + M 16 3 + sm (fun p => M 2 p) P = mon M 1 P := by
  show _ = sm (fun p => M 2 p) P + ((((0 + M 16 0) + M 16 1) + M 16 2) + M 16 3)
  grind
end
