theorem sm2_s (a : Int32) (f : Nat → Int32) : ∀ n, sm2 a f n = a + sm f n
  | 0 => (Int32.add_zero a).symm
  | n + 1 => by
    show sm2 a f n + f n = a + (sm f n + f n)
    rw [sm2_s a f n, Int32.add_assoc]
theorem sm_ap (f : Nat → Int32) (a : Nat) : ∀ b, sm f (a + b) = sm f a + sm (fun i => f (a + i)) b
  | 0 => (Int32.add_zero _).symm
  | b + 1 => by
    show sm f (a + b) + f (a + b) = _ + (_ + _)
    rw [sm_ap f a b, Int32.add_assoc]
/-- noisy hours of a street: 24 less the quiet ones -/
theorem sm_q {f : Nat → Int32} : ∀ n, (∀ i, i < n → f i = nI 0 ∨ f i = nI 1) → nI n - sm (fun i => if f i = 0 then nI 1 else nI 0) n = sm f n
  | 0, _ => by show nI 0 - (0 : Int32) = 0; decide
  | n + 1, h => by
    have ih := sm_q n (fun i hi => h i (by omega))
    show nI (n + 1) - (sm (fun i => if f i = 0 then nI 1 else nI 0) n + (if f n = 0 then nI 1 else nI 0)) = sm f n + f n
    rw [← ih, nI_succ]
    generalize sm (fun i => if f i = 0 then nI 1 else nI 0) n = y
    generalize nI n = x
    rcases h n (by omega) with e | e
    · rw [e, if_pos (by decide), show nI 1 = 1 from rfl, show nI 0 = 0 from rfl, Int32.add_zero, Int32.add_comm y 1, ← Int32.sub_sub, Int32.add_sub_cancel]
    · rw [e, if_neg (by decide), show nI 1 = 1 from rfl, show nI 0 = 0 from rfl, Int32.add_zero, Int32.sub_eq_add_neg, Int32.sub_eq_add_neg, Int32.add_assoc, Int32.add_comm 1, Int32.add_assoc]
theorem noisy_eq {t : Nat} {M : Mem} {P q m : Nat} (hq : ∀ s, s < 96 → M (q + 10) s = M (m + 1) (92 + 5 * s + 0)) (ho : ∀ s, s < 96 → M (m + 1) (92 + 5 * s + 0) = nI 0 ∨ M (m + 1) (92 + 5 * s + 0) = nI 1) : sm (fun st => nI 24 - qh M q st) 4 = sm (fun s => M (m + 1) (92 + 5 * s + 0)) 96 := by
  have e : ∀ st, st < 4 → nI 24 - qh M q st = sm (fun h => M (m + 1) (92 + 5 * (24 * st + h) + 0)) 24 := fun st hst => by
    rw [← sm_q 24 (fun i hi => ho (24 * st + i) (by omega))]
    refine congrArg (nI 24 - ·) (sm_c 24 (fun i hi => ?_))
    rw [hq (st * 24 + i) (by omega), st24]
  rw [sm_c 4 e]
  rw [show (96 : Nat) = 24 + (24 + (24 + 24)) from rfl, sm_ap, sm_ap, sm_ap]
  show 0 + _ + _ + _ + _ = _
  rw [Int32.zero_add, Int32.add_assoc, Int32.add_assoc]
  rfl
theorem b_count {sh : Sh} (hs : IsSH sh 0) (hm : IsMo sh 134) {t : Nat} {M : Mem} (hR : Rel t M) (x : Int32) : Bth mX4_count mX5_count sh Rel [.inl x] t M := by
  obtain ⟨P, o, z, len, hA⟩ := hR
  by_cases hy : x.toInt < 0 ∨ 9 < x.toInt
  · exact Bth.q hA (c_count_bad hs hA.wf x hy) (d_count_bad hm x hy) (by decide) (by decide) rfl
  · obtain ⟨i, hi, rfl⟩ := rngI (n := 9) (by decide) hy
    rcases (show i = 0 ∨ i = 1 ∨ i = 2 ∨ i = 3 ∨ i = 4 ∨ i = 5 ∨ i = 6 ∨ i = 7 ∨ i = 8 ∨ i = 9 by omega) with rfl | rfl | rfl | rfl | rfl | rfl | rfl | rfl | rfl | rfl
    · exact Bth.q hA (c_count_0 hs hA.wf) (d_count_0 hm hA.wm) (by decide) (by decide) (hA.1.1.1.1)
    · exact Bth.q hA (c_count_1 hs hA.wf) (d_count_1 hm hA.wm) (by decide) (by decide) rfl
    · exact Bth.q hA (c_count_2 hs hA.wf) (d_count_2 hm hA.wm) (by decide) (by decide) (sm_c P (fun p hp => sm_c 96 (fun s h9 => (hA.1.1.mk hA.1.2 (Nat.lt_of_lt_of_le hp hA.1.2.P12) h9).2.2)))
    · exact Bth.q hA (c_count_3 hs hA.wf) (d_count_3 hm hA.wm) (by decide) (by decide) (noisy_eq (t := t) (P := P) (fun s h9 => (hA.1.1.2.2.1 s h9).1) hA.1.2.2.2.2.2.1)
    · exact Bth.q hA (c_count_4 hs hA.wf) (d_count_4 hm hA.wm) (by decide) (by decide) hA.1.1.1.2.1
    · exact Bth.q hA (c_count_5 hs hA.wf) (d_count_5 hm hA.wm) (by decide) (by decide) (by
        rw [sm2_s, sm2_s, sm_c P (fun p hp => (hA.1.1.2.1 p (Nat.lt_of_lt_of_le hp hA.1.2.P12)).1), sm_c 4 (fun j hj => hA.1.1.2.2.2.1 j hj), Int32.add_comm]
        congr 1
        show 0 + _ + _ + _ + _ = _
        rw [Int32.zero_add])
    · exact Bth.q hA (c_count_6 hs hA.wf) (d_count_6 hm hA.wm) (by decide) (by decide) (sm_c P (fun p hp => (hA.1.1.2.1 p (Nat.lt_of_lt_of_le hp hA.1.2.P12)).2.1))
    · exact Bth.q hA (c_count_7 hs hA.wf) (d_count_7 hm hA.wm) (by decide) (by decide) hA.1.1.1.2.2.1
    · exact Bth.q hA (c_count_8 hs hA.wf) (d_count_8 hm hA.wm) (by decide) (by decide) (hA.2.1.2.1.1.trans hA.2.1.2.1.2.1.symm)
    · exact Bth.q hA (c_count_9 hs hA.wf) (d_count_9 hm hA.wm) (by decide) (by decide) (hA.2.2.1.1.trans hA.2.2.1.2.1.symm)
theorem RowEq.tie {M : Mem} {s : Nat} (h : RowEq M 1 (M 135)) (hs : s < 96) : M (0 + 1 + 12) s = tdF M 134 s := (h.2.2.1 s hs).2.2.1
theorem RowEq.sg {t : Nat} {M : Mem} {P s : Nat} (h : RowEq M 1 (M 135)) (hi : RowInv t (M 135) P) (hs : s < 96) : stg M (0 + 1) P s (nI 0) = qD M 134 P s ∧ stg M (0 + 1) P s (nI 1) = sD M 134 P s (nI 1) := by
  unfold stg qD
  rw [h.sb hi hs _ (Or.inl rfl), h.sb hi hs _ (Or.inr rfl), if_pos (by decide), if_neg (by decide), show M (0 + 1 + 11) s = M 135 (92 + 5 * s + 1) from (h.2.2.1 s hs).2.1]
  exact ⟨rfl, Int32.add_zero _⟩
theorem RowEq.wn {t : Nat} {M : Mem} {P s : Nat} (h : RowEq M 1 (M 135)) (hi : RowInv t (M 135) P) (hs : s < 96) : oT M (0 + 1) P s = wnF M 134 P s := by
  unfold oT wnF
  rw [h.nb hi hs, (h.sg hi hs).1, (h.sg hi hs).2, h.tie hs, show M (0 + 1 + 10) s = M (134 + 1) (92 + 5 * s + 0) from (h.2.2.1 s hs).1]
theorem mx_lt (x : Int32) : mx (nI 1) x = if x < nI 1 then nI 1 else x := by
  unfold mx
  by_cases h : x < nI 1
  · rw [if_pos h, if_neg (fun z => Int32.lt_irrefl (Int32.lt_trans h z))]
  · rw [if_neg h]
    by_cases h2 : nI 1 < x
    · rw [if_pos h2]
    · rw [if_neg h2]
      have h3 : ¬ x.toInt < (nI 1).toInt := fun z => h (Int32.lt_iff_toInt_lt.mpr z)
      have h4 : ¬ (nI 1).toInt < x.toInt := fun z => h2 (Int32.lt_iff_toInt_lt.mpr z)
      exact Int32.toInt_inj.mp (by omega)
theorem RowEq.nd {t : Nat} {M : Mem} {P s : Nat} (h : RowEq M 1 (M 135)) (hi : RowInv t (M 135) P) (hs : s < 96) (sd : Int32) (hsd : sd = nI 0 ∨ sd = nI 1) : mF M (0 + 1) P s sd = ndF M 134 P s sd := by
  unfold mF ndF
  rw [h.wn hi hs]
  by_cases e : wnF M 134 P s = sd
  · rw [if_pos e, if_pos e]
  · rw [if_neg e, if_neg e, mx_lt]
    have e2 : (if M (0 + 1 + 12) s = sd then stg M (0 + 1) P s (oS sd) - stg M (0 + 1) P s sd else stg M (0 + 1) P s (oS sd) - stg M (0 + 1) P s sd + nI 1) = lkF M 134 P s sd := by
      unfold lkF
      rw [h.tie hs]
      have h0 : oS (nI 0) = nI 1 := by decide
      have h1 : oS (nI 1) = nI 0 := by decide
      rcases hsd with rfl | rfl
      · rw [h0, (h.sg hi hs).1, (h.sg hi hs).2, if_pos (show nI 0 = 0 from rfl)]
        by_cases k : tdF M 134 s = nI 0
        · rw [if_pos k, if_pos k]; exact (Int32.add_zero _).symm
        · rw [if_neg k, if_neg k]
      · rw [h1, (h.sg hi hs).1, (h.sg hi hs).2, if_neg (show ¬ nI 1 = 0 by decide)]
        by_cases k : tdF M 134 s = nI 1
        · rw [if_pos k, if_pos k]; exact (Int32.add_zero _).symm
        · rw [if_neg k, if_neg k]
    rw [e2]
theorem b_winner {sh : Sh} (hs : IsSH sh 0) (hm : IsMo sh 134) {t : Nat} {M : Mem} (hR : Rel t M) (x y : Int32) : Bth mX4_winner mX5_winner sh Rel [.inl x, .inl y] t M := by
  obtain ⟨P, o, z, len, hA⟩ := hR
  by_cases hx : inS x y
  · obtain ⟨st, h, hst, hh, rfl, rfl⟩ := inS_x hx
    exact Bth.q hA (c_winner_ok hs hA.wf hst hh) (d_winner_ok hm hA.wm hst hh) (by decide) (by decide) (by rw [st24]; exact hA.1.1.wn hA.1.2 (by omega))
  · exact Bth.q hA (c_winner_bad hs hA.wf x y hx) (d_winner_bad hm x y hx) (by decide) (by decide) rfl
theorem sd01 {sd : Int32} : (sd = 0 ∨ sd = nI 1) ↔ (nI 0 ≤ sd ∧ sd ≤ nI 1) := by
  constructor
  · rintro (rfl | rfl) <;> decide
  · intro h
    obtain ⟨i, hi, rfl⟩ := rng (by decide) h
    rcases (show i = 0 ∨ i = 1 by omega) with rfl | rfl
    · exact Or.inl rfl
    · exact Or.inr rfl
theorem b_needed {sh : Sh} (hs : IsSH sh 0) (hm : IsMo sh 134) {t : Nat} {M : Mem} (hR : Rel t M) (x y v : Int32) : Bth mX4_needed mX5_needed sh Rel [.inl x, .inl y, .inl v] t M := by
  obtain ⟨P, o, z, len, hA⟩ := hR
  by_cases hx : inS x y ∧ (v = 0 ∨ v = nI 1)
  · obtain ⟨h1, h2⟩ := hx
    obtain ⟨st, h, hst, hh, rfl, rfl⟩ := inS_x h1
    exact Bth.q hA (c_needed_ok hs hA.wf hst hh v h2) (d_needed_ok hm hA.wm hst hh v (sd01.mp h2)) (by decide) (by decide) (by rw [st24]; exact hA.1.1.nd hA.1.2 (by omega) v h2)
  · exact Bth.q hA (c_needed_bad hs hA.wf x y v hx) (d_needed_bad hm x y v (fun z => hx ⟨z.1, sd01.mpr z.2⟩)) (by decide) (by decide) rfl
