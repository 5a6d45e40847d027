/-! RUN, ON BOTH SIDES. -/
theorem swM_135 {D : Mem} {j : Nat} (hj : j < 1724) : swM D 134 135 j = D 137 j ∧ swM D 134 137 j = D 135 j := by
  unfold swM swN
  rw [show (134 + 1 : Nat) = 135 from rfl, show (134 + 3 : Nat) = 137 from rfl, fcO_ne (by decide), fcO_in (by omega), fcO_in (by omega), Nat.sub_zero]
  exact ⟨rfl, rfl⟩
theorem baM_135 {D : Mem} {j : Nat} (hj : j < 1724) : baM D 134 135 j = D 137 j := by
  unfold baM
  rw [show (134 + 1 : Nat) = 135 from rfl, show (134 + 3 : Nat) = 137 from rfl, fcO_in (by omega), Nat.sub_zero]
theorem asM_137 {D : Mem} {j : Nat} (hj : j < 1724) : asM D 134 137 j = D 135 j := by
  unfold asM
  rw [show (134 + 1 : Nat) = 135 from rfl, show (134 + 3 : Nat) = 137 from rfl, fcO_in (by omega), Nat.sub_zero]
/-- a text that is no plan -/
theorem b_run_pf {sh : Sh} (hs : IsSH sh 0) (hm : IsMo sh 134) {t : Nat} {M : Mem} {P o z len p : Nat} (hA : RelAt t M P o z len) (hp : p < P) (hf : ¬ (rtE (rtR 115 len (M 116) M)).2 = (-1)) : Bth mX4_run mX5_run sh Rel [.inl (nI p)] t M := by
  obtain ⟨⟨hE, hI⟩, hH, ⟨t1, t2, t3, t4⟩, hF⟩ := id hA
  have hPl : PlOk M 115 len (M 116) := ⟨t1, t3, fun p hp => rfl⟩
  have hcc : Calls mX4_run 6 0 0 [.inr (some 0), .inl (nI p)] sh M (some (.inl ((-1000) - (rtE (rtR 115 len (M 116) M)).2))) sh (fpM (rdM M 115 len (M 116)) 133 (nI 1) (rtE (rtR 115 len (M 116) M)).2 (nI (rtR 115 len (M 116) M).2.2.1) (nI 0) (-9)) := c_run_pf hs hA.wf hp (len := len) (tx := M 116) (by exact hPl) (by exact hf)
  obtain ⟨v0, v1, v2, v3, v4⟩ := fpM_v (C := rdM M 115 len (M 116)) (a := 133) (x0 := nI 1) (x1 := (rtE (rtR 115 len (M 116) M)).2) (x2 := nI (rtR 115 len (M 116) M).2.2.1) (x3 := nI 0) (x4 := (-9))
  have e1 : ∀ a, a ≠ 115 → a ≠ 118 → (a < 119 ∨ 134 ≤ a) → fpM (rdM M 115 len (M 116)) 133 (nI 1) (rtE (rtR 115 len (M 116) M)).2 (nI (rtR 115 len (M 116) M).2.2.1) (nI 0) (-9) a = M a := fun a h1 h2 h3 => (fpM_a (by omega)).trans (rdM_a h1 h2 (by omega))
  have e2 : fpM (rdM M 115 len (M 116)) 133 (nI 1) (rtE (rtR 115 len (M 116) M)).2 (nI (rtR 115 len (M 116) M).2.2.1) (nI 0) (-9) 115 1 = M 115 1 := (congrFun (fpM_a (by decide)) 1).trans rdM_1
  have e3 : fpM (rdM M 115 len (M 116)) 133 (nI 1) (rtE (rtR 115 len (M 116) M)).2 (nI (rtR 115 len (M 116) M).2.2.1) (nI 0) (-9) 118 0 = M 118 0 := (congrFun (fpM_a (by decide)) 0).trans rdM_f
  generalize fpM (rdM M 115 len (M 116)) 133 (nI 1) (rtE (rtR 115 len (M 116) M)).2 (nI (rtR 115 len (M 116) M).2.2.1) (nI 0) (-9) = M1 at hcc v0 v1 v2 v3 v4 e1 e2 e3
  have e34 : ∀ a, 134 ≤ a → M1 a = M a := fun a ha => e1 a (by omega) (by omega) (by omega)
  have hMl : MlOk M1 134 len (M 116) := ⟨by rw [e34 134 (by decide)]; exact t2, t3, fun p hp => by
    show M1 138 p = M 116 p
    rw [e34 138 (by decide)]
    exact (t4 p hp).symm⟩
  obtain ⟨r1, r2, -⟩ := read_eq (m := 134) (D := M1) hPl hMl hF.1
  have hf' : ¬ (qrE len (qrR 134 len (M 116) M1)).2 = (-1) := by rw [← r1]; exact hf
  have hw1 : Wm M1 134 P := by
    unfold Wm
    rw [show M1 (134 + 1) = M 135 from e34 135 (by decide)]
    exact hI.wm
  have hdd := d_run_pf (D := M1) hm hw1 hp hMl hf'
  rw [← r1] at hdd
  have q0 : ∀ a, a ≠ 134 → a ≠ 139 → a ≠ 140 → a ≠ 141 → rdD M1 134 len (M 116) a = M1 a := fun a h1 h2 h3 h4 => rdD_a h1 h2 h3 h4
  have qf : rdD M1 134 len (M 116) 134 10 = nI 1 ∧ rdD M1 134 len (M 116) 140 0 = nI 1 ∧ rdD M1 134 len (M 116) 140 1 = (qrE len (qrR 134 len (M 116) M1)).2 ∧ rdD M1 134 len (M 116) 140 2 = nI (qrR 134 len (M 116) M1).2.2.1 ∧ rdD M1 134 len (M 116) 140 3 = nI 0 ∧ rdD M1 134 len (M 116) 140 4 = (-9) := by
    unfold rdD
    refine ⟨?_, ?_, ?_, ?_, ?_, ?_⟩ <;> simp [QL, hf']
  have qo : ∀ j, j < 6 → rdD M1 134 len (M 116) 134 j = M1 134 j := fun j hj => rdD_o hj
  obtain ⟨w10, w0, w1, w2, w3, w4⟩ := qf
  have Q : ∀ a, a ≠ 115 → a ≠ 118 → (a < 119 ∨ (135 ≤ a ∧ a ≤ 138)) → rdD M1 134 len (M 116) a = M a := fun a h1 h2 h3 => (q0 a (by omega) (by omega) (by omega) (by omega)).trans (e1 a h1 h2 (by omega))
  have O : ∀ j, j < 6 → rdD M1 134 len (M 116) 134 j = M 134 j := fun j hj => (qo j hj).trans (congrFun (e34 134 (by decide)) j)
  refine ⟨_, M1, rdD M1 134 len (M 116), 6, 5, by decide, by decide, hcc, hdd, P, o, z, len, ⟨?_, ?_⟩, (hH.mono (Nat.le_succ t)).fr (fun a b1 b2 => Q a (by omega) (by omega) (by omega)) (O 2 (by decide)) (Q 136 (by decide) (by decide) (by omega)), TxtR.fr ⟨t1, t2, t3, t4⟩ ?_ (O 5 (by decide)) (Q 116 (by decide) (by decide) (by omega)) (Q 138 (by decide) (by decide) (by omega)), ?_, Or.inr ⟨?_, ?_, ?_⟩⟩
  · rw [Q 135 (by decide) (by decide) (by omega)]
    exact hE.fr2 (fun a b1 b2 => Q a (by omega) (by omega) (by omega))
  · rw [Q 135 (by decide) (by decide) (by omega)]
    exact hI.mono (Nat.le_succ t)
  · rw [q0 115 (by decide) (by decide) (by decide) (by decide)]
    exact e2
  · rw [q0 118 (by decide) (by decide) (by decide) (by decide), e3]
    exact hF.1
  · rw [q0 133 (by decide) (by decide) (by decide) (by decide), v0]
    decide
  · rw [w10]
    decide
  · intro i hi
    rw [q0 133 (by decide) (by decide) (by decide) (by decide)]
    rcases (show i = 0 ∨ i = 1 ∨ i = 2 ∨ i = 3 ∨ i = 4 by omega) with rfl | rfl | rfl | rfl | rfl
    · rw [v0, w0]
    · rw [v1, w1, r1]
    · rw [v2, w2, r2]
    · rw [v3, w3]
    · rw [v4, w4]
