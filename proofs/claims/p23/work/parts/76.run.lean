/-! THE LAW'S METHODS: plans. Text and run, between two of which At holds. -/
theorem fpM_v {C : Mem} {a : Nat} {x0 x1 x2 x3 x4 : Int32} : fpM C a x0 x1 x2 x3 x4 a 0 = x0 ∧ fpM C a x0 x1 x2 x3 x4 a 1 = x1 ∧ fpM C a x0 x1 x2 x3 x4 a 2 = x2 ∧ fpM C a x0 x1 x2 x3 x4 a 3 = x3 ∧ fpM C a x0 x1 x2 x3 x4 a 4 = x4 := by
  unfold fpM
  refine ⟨?_, ?_, ?_, ?_, up_eq⟩
  · rw [up_ne2 (by decide), up_ne2 (by decide), up_ne2 (by decide), up_ne2 (by decide), up_eq]
  · rw [up_ne2 (by decide), up_ne2 (by decide), up_ne2 (by decide), up_eq]
  · rw [up_ne2 (by decide), up_ne2 (by decide), up_eq]
  · rw [up_ne2 (by decide), up_eq]
theorem fpM_a {C : Mem} {a b : Nat} {x0 x1 x2 x3 x4 : Int32} (h : b ≠ a) : fpM C a x0 x1 x2 x3 x4 b = C b := by
  unfold fpM
  rw [up_ne h, up_ne h, up_ne h, up_ne h, up_ne h]
section
variable {sh : Sh} {M M' : Mem} {P P' t t' o z len len' : Nat}
theorem At.st (hA : At t M P o z len) (hS : SI t M' 1 P') (e : ∀ a, 33 ≤ a → a ≤ 114 → M' a = M a) (h1 : M' 115 1 = nI len') (hl : len' ≤ 100) (h2 : M' 118 0 = nI 1) : At t M' P' o z len' := by
  obtain ⟨a1, ⟨⟨b1, b2⟩, ⟨b3, b4⟩, b5⟩, ⟨a3, a4⟩, a5⟩ := hA
  refine ⟨hS, ⟨⟨by rw [e 33 (by decide) (by decide)]; exact b1, b2⟩, ⟨by rw [e 33 (by decide) (by decide)]; exact b3, b4⟩, fun i hi => ?_⟩, ⟨h1, hl⟩, h2⟩
  obtain ⟨P2, g⟩ := b5 i hi
  have : (o + i) % 5 < 5 := Nat.mod_lt _ (by decide)
  exact ⟨P2, g.se (SE.fr (fun a h1 h2 => e a (by omega) (by omega)))⟩
theorem At.tx (hA : At t M P o z len) (e : ∀ a, a ≤ 114 ∨ a = 118 → M' a = M a) (h1 : M' 115 1 = nI len') (hl : len' ≤ 100) : At t M' P o z len' := hA.st (hA.1.se (SE.fr (fun a _ h => e a (by omega)))) (fun a _ h => e a (by omega)) h1 hl (by rw [e 118 (by omega)]; exact hA.2.2.2)
theorem a_clear (hs : IsSH sh 0) (hA : At t M P o z len) : ∃ M1, Calls mX4_clearText 0 0 0 [.inr (some 0)] sh M (some (.inl (nI len))) sh M1 ∧ At t M1 P o z 0 ∧ (∀ tx, PlOk M1 115 0 tx) ∧ ∀ a, a ≠ 115 → M1 a = M a := by
  have hc := c_clearText (b := 0) hs hA.2.2.1.1 hA.2.2.1.2
  have R : ∀ a, a ≠ 115 → up M 115 1 (nI 0) a = M a := fun a h => up_ne h
  exact ⟨_, hc, hA.tx (fun a h => R a (by omega)) up_eq (by decide), fun tx => ⟨up_eq, by decide, fun p hp => absurd hp (Nat.not_lt_zero p)⟩, R⟩
theorem a_append (hs : IsSH sh 0) {n m : Nat} {tx : Nat → Int32} (hA : At t M P o z n) (hT : PlOk M 115 n tx) (hn : n < 100) (hm : m = n + 1) {v : Nat} (hv : 1 ≤ v ∧ v ≤ 255) (htx : nI v = tx n) : ∃ M1, Calls mX4_append 1 0 0 [.inr (some 0), .inl (nI v)] sh M (some (.inl (nI m))) sh M1 ∧ At t M1 P o z m ∧ PlOk M1 115 m tx ∧ ∀ a, a ≠ 115 → a ≠ 116 → M1 a = M a := by
  subst hm
  have hc := c_append_ok (b := 0) hs hA.2.2.1.1 hA.2.2.1.2 (nI v) ⟨nI_le hv.1 (by omega), nI_le hv.2 (by decide)⟩ hn
  have R : ∀ a, a ≠ 115 → a ≠ 116 → up (up M 116 n (nI v)) 115 1 (nI (n + 1)) a = M a := fun a h1 h2 => by rw [up_ne h1, up_ne h2]
  refine ⟨_, hc, hA.tx (fun a h => R a (by omega) (by omega)) up_eq (by omega), ⟨up_eq, by omega, fun p hp => ?_⟩, R⟩
  show up (up M 116 n (nI v)) 115 1 (nI (n + 1)) 116 p = tx p
  rw [up_ne (by decide)]
  by_cases e : p = n
  · subst e; rw [up_eq]; exact htx
  · rw [up_ne2 e]; exact hT.2.2 p (by omega)
theorem rdW_ne {k sd st h a : Nat} (h1 : a ≠ 118) (h2 : a ≠ 119) : rdW M 115 k sd st h a = M a := by
  unfold rdW
  rw [up_ne h2, up_ne h2, up_ne h2, up_ne h2, up_ne h2, up_ne h2, up_ne h2, up_ne h1]
theorem rdW_f {k sd st h : Nat} : rdW M 115 k sd st h 118 0 = M 118 0 := by
  unfold rdW
  rw [up_ne (by decide), up_ne (by decide), up_ne (by decide), up_ne (by decide), up_ne (by decide), up_ne (by decide), up_ne (by decide), up_ne2 (by decide)]
/-- what the reading leaves alone -/
theorem PLW_ne {k sd st h a de np : Nat} {l : LxS} (h0 : a ≠ 115) (h1 : a ≠ 118) (h2 : a ≠ 119) : PL (rdW M 115 k sd st h) 115 l de np a = M a := by
  rw [PL_ne h0, rdW_ne h1 h2]
theorem At.rd (hA : At t M P o z len) {k sd st h de np : Nat} {l : LxS} : At t (PL (rdW M 115 k sd st h) 115 l de np) P o z len := hA.st (hA.1.se (SE.fr (fun a _ h => PLW_ne (by omega) (by omega) (by omega)))) (fun a _ h => PLW_ne (by omega) (by omega) (by omega)) (by rw [PL_f (by decide), rdW_ne (by decide) (by decide)]; exact hA.2.2.1.1) hA.2.2.1.2 (by rw [PL_ne (by decide), rdW_f]; exact hA.2.2.2)
/-- what stands ahead of the bids of a run: the text is read, the state is put aside -/
theorem run_pre (hs : IsSH sh 0) (hA : At t M P o z 11) {p k sd st h : Nat} (hp : p < P) (hk : k < 10) (hk2 : 2 ≤ k) (hsd : sd < 2) (hst : st < 4) (hh : h < 10) (hT : PlOk M 115 11 (ptx k sd st h)) : ∃ C1, At t C1 P o z 11 ∧ SE M 1 C1 1 ∧ SE M 1 C1 17 ∧ C1 116 = M 116 ∧ Calls mX4_run 6 0 0 [.inr (some 0), .inl (nI p)] sh M (some (.inl (if bE C1 1 p (st * 24 + h) (nI (3 * k)) = 0 then nI 1 else (-1003)))) sh (if bE C1 1 p (st * 24 + h) (nI (3 * k)) = 0 then recM (pB C1 1 p (st * 24 + h) (nI sd) (nI (3 * k))) 33 o z 17 else fpM (cpM C1 17 1) 133 (nI 2) (nI 3) (nI 1) (nI 0) (bE C1 1 p (st * 24 + h) (nI (3 * k)))) := by
  have hl := lex11 hk hk2 hsd hst hh
  have e3 : rtR 115 11 (ptx k sd st h) M = (rdW M 115 k sd st h, (11, -1), 0, 1) := rt_11 hl hA.2.2.2
  have hrd : rdM M 115 11 (ptx k sd st h) = PL (rdW M 115 k sd st h) 115 (11, -1) 0 1 := by
    unfold rdM
    rw [e3]
    rfl
  have hR := hA.rd (k := k) (sd := sd) (st := st) (h := h) (l := (11, -1)) (de := 0) (np := 1)
  have hRne : ∀ a, a ≠ 115 → a ≠ 118 → a ≠ 119 → PL (rdW M 115 k sd st h) 115 (11, -1) 0 1 a = M a := fun a h0 h1 h2 => PLW_ne h0 h1 h2
  have hS1 : SE M 1 (PL (rdW M 115 k sd st h) 115 (11, -1) 0 1) 1 := SE.fr (fun a _ h => hRne a (by omega) (by omega) (by omega))
  generalize hRR : PL (rdW M 115 k sd st h) 115 (11, -1) 0 1 = R at hrd hR hRne hS1
  have hC : ∀ a, a < 17 ∨ 33 ≤ a → cpM R 1 17 a = R a := fun a ha => cpM_ne (by omega)
  have hA1 : At t (cpM R 1 17) P o z 11 := hR.fr (fun a ha => hC a (by omega))
  have hSE17 : SE M 1 (cpM R 1 17) 17 := hS1.tr (SE.cp (by decide))
  have hSE1 : SE M 1 (cpM R 1 17) 1 := hS1.tr (SE.fr (fun a _ h => hC a (by omega)))
  have h119 : ∀ j, R 119 j = rdW M 115 k sd st h 119 j := fun j => by rw [← hRR, PL_ne (by decide)]
  have hnp : R 115 3 = nI 1 := by rw [← hRR]; exact PL_np
  have hPt : PtOk (cpM R 1 17) 119 1 (fun _ => (3, 1, nI sd, st, h, h, nI (3 * k))) := fun i hi => by
    obtain rfl : i = 0 := by omega
    show cpM R 1 17 119 0 = nI 3 ∧ cpM R 1 17 119 1 = nI 1 ∧ cpM R 1 17 119 2 = nI sd ∧ (cpM R 1 17 119 3 = nI st ∧ st < 4) ∧ (cpM R 1 17 119 4 = nI h ∧ h ≤ h) ∧ (cpM R 1 17 119 5 = nI h ∧ h < 24) ∧ cpM R 1 17 119 6 = nI (3 * k)
    rw [hC 119 (by decide), h119, h119, h119, h119, h119, h119, h119]
    unfold rdW
    refine ⟨?_, ?_, ?_, ⟨?_, hst⟩, ⟨?_, Nat.le_refl h⟩, ⟨?_, by omega⟩, up_eq⟩
    all_goals repeat rw [up_ne2 (by decide)]
    all_goals exact up_eq
  have hRn : RnOk (cpM (rdM M (0 + 115) 11 (ptx k sd st h)) (0 + 1) (0 + 17)) 0 P o z 1 (fun _ => (3, 1, nI sd, st, h, h, nI (3 * k))) := by
    show RnOk (cpM (rdM M 115 11 (ptx k sd st h)) 1 17) 0 P o z 1 _
    rw [hrd]
    exact ⟨hA1.wf, hA1.ho, hA1.hz, (congrFun (hC 115 (by decide)) 3).trans hnp, hPt⟩
  have hgo := c_run_go (b := 0) hs hA.wf hA.o5 hA.z5 hp hT (by show (rtE (rtR 115 11 (ptx k sd st h) M)).2 = -1; rw [e3]; rfl) (by decide) hRn
  have hC1 : cpM (rdM M (0 + 115) 11 (ptx k sd st h)) (0 + 1) (0 + 17) = cpM R 1 17 := by
    show cpM (rdM M 115 11 (ptx k sd st h)) 1 17 = _
    rw [hrd]
  rw [hC1] at hgo
  refine ⟨cpM R 1 17, hA1, hSE1, hSE17, (hC 116 (by decide)).trans (hRne 116 (by decide) (by decide) (by decide)), ?_⟩
  have hh1 : h + 1 - h = 0 + 1 := by omega
  by_cases he : bE (cpM R 1 17) 1 p (st * 24 + h) (nI (3 * k)) = 0
  · have er : rnP (0 + 1) p (fun _ => (3, 1, nI sd, st, h, h, nI (3 * k))) 1 0 (cpM R 1 17) 0 = (pB (cpM R 1 17) 1 p (st * 24 + h) (nI sd) (nI (3 * k)), 1, 0, 1) := by
      refine (rnP_go (n := 0) (C2 := pB (cpM R 1 17) 1 p (st * 24 + h) (nI sd) (nI (3 * k))) (m2 := 1) ?_).trans rfl
      show rnH 1 p st (nI sd) (nI (3 * k)) (h + 1 - h) h (cpM R 1 17) 0 = _
      rw [hh1, rnH_go he]
      rfl
    rw [if_pos he, if_pos he]
    rw [er] at hgo
    exact hgo
  · have er : rnP (0 + 1) p (fun _ => (3, 1, nI sd, st, h, h, nI (3 * k))) 1 0 (cpM R 1 17) 0 = (cpM R 1 17, 0, bE (cpM R 1 17) 1 p (st * 24 + h) (nI (3 * k)), 0) := by
      refine rnP_no (n := 0) he ?_
      show rnH 1 p st (nI sd) (nI (3 * k)) (h + 1 - h) h (cpM R 1 17) 0 = _
      rw [hh1, rnH_no he]
    rw [if_neg he, if_neg he]
    rw [er] at hgo
    simp only [if_neg he] at hgo
    exact hgo
theorem bE_se {C C' : Mem} {q q' p s : Nat} {am : Int32} (h : SE C q C' q') (hp : p < 12) (hs : s < 96) : bE C q p s am = bE C' q' p s am := by
  unfold bE fM
  rw [show bA C q p s = bA C' q' p s by show bF (bm C q p s) _ + bF (bm C q p s) _ = bF (bm C' q' p s) _ + bF (bm C' q' p s) _; rw [show bm C q p s = bm C' q' p s from h.m hp hs], h.pe (i := 1) (by decide) (by decide) hp, h.pe (i := 2) (by decide) (by decide) hp, h.pe (i := 3) (by decide) (by decide) hp]
/-- a run whose bid is made -/
theorem a_run_ok (hs : IsSH sh 0) (ht : t ≤ 512) (hA : At t M P o z 11) {p k sd st h : Nat} (hp : p < P) (hk : k < 10) (hk2 : 2 ≤ k) (hsd : sd < 2) (hst : st < 4) (hh : h < 10) (hT : PlOk M 115 11 (ptx k sd st h)) (he : bE M 1 p (st * 24 + h) (nI (3 * k)) = 0) : ∃ v M1, fM M 1 p = nI v ∧ v ≤ 2000000 * t ∧ 3 * k ≤ v + amt M 1 p (st * 24 + h) ∧ Calls mX4_run 6 0 0 [.inr (some 0), .inl (nI p)] sh M (some (.inl (nI 1))) sh M1 ∧ At t M1 P (oN o z) (zN z) 11 ∧ SE M 1 M1 (tp (oN o z) (zN z)) ∧ PlOk M1 115 11 (ptx k sd st h) ∧ bm M1 1 p (st * 24 + h) = mkB (nI sd) (nI (3 * k)) ∧ fM M1 1 p = nI (v + amt M 1 p (st * 24 + h) - 3 * k) ∧ M1 4 p = M 4 p := by
  obtain ⟨C1, hA1, hS1, hS17, h116, hc⟩ := run_pre hs hA hp hk hk2 hsd hst hh hT
  have hp12 : p < 12 := Nat.lt_of_lt_of_le hp hA.P12
  have hslot : st * 24 + h < 96 := by omega
  have he1 : bE C1 1 p (st * 24 + h) (nI (3 * k)) = 0 := (bE_se hS1 hp12 hslot).symm.trans he
  rw [if_pos he1, if_pos he1] at hc
  have hsd01 : nI sd = nI 0 ∨ nI sd = nI 1 := by
    rcases (show sd = 0 ∨ sd = 1 by omega) with rfl | rfl
    · exact Or.inl rfl
    · exact Or.inr rfl
  obtain ⟨hSX, v, v1, v2, v3, v4⟩ := hA1.1.bid ht hp hslot hsd01 (by omega) he1
  have ev : fM C1 1 p = fM M 1 p := by
    show C1 (1 + 1) p - C1 (1 + 2) p = M (1 + 1) p - M (1 + 2) p
    rw [hS1.pe (i := 1) (by decide) (by decide) hp12, hS1.pe (i := 2) (by decide) (by decide) hp12]
  have eam : amt C1 1 p (st * 24 + h) = amt M 1 p (st * 24 + h) := (hS1.am hp12 hslot).symm
  rw [ev] at v1
  rw [eam] at v3 v4
  have hX : ∀ a, 17 ≤ a → pB C1 1 p (st * 24 + h) (nI sd) (nI (3 * k)) a = C1 a := fun a ha => pB_ne (by omega) (by omega)
  have hAX : At t (pB C1 1 p (st * 24 + h) (nI sd) (nI (3 * k))) P o z 11 := hA1.st hSX (fun a h _ => hX a (by omega)) (by rw [hX 115 (by decide)]; exact hA1.2.2.1.1) (by decide) (by rw [hX 118 (by decide)]; exact hA1.2.2.2)
  have hS17X : SE M 1 (pB C1 1 p (st * 24 + h) (nI sd) (nI (3 * k))) 17 := hS17.tr (SE.fr (fun a h _ => hX a h))
  have h4 : pB C1 1 p (st * 24 + h) (nI sd) (nI (3 * k)) 4 p = M 4 p := by
    rw [pB_ne (by decide) (by decide)]
    exact (hS1.pe (i := 3) (by decide) (by decide) hp12).symm
  generalize hXX : pB C1 1 p (st * 24 + h) (nI sd) (nI (3 * k)) = X at hc hSX hX hAX hS17X v4 h4
  have hbX : bm X 1 p (st * 24 + h) = mkB (nI sd) (nI (3 * k)) := by
    rw [← hXX, pB_bm hslot hslot, if_pos ⟨rfl, rfl⟩]
  have hlo : ∀ a, a < 33 ∨ 115 ≤ a → recM X 33 o z 17 a = X a := fun a ha => recM_ne hA.z5 (by omega)
  obtain ⟨g1, g2, -⟩ := his_rec (f := 17) (by decide) hAX.2.1 (hA.1.se hS17X) (recM X 33 o z 17) (fun a _ _ => rfl)
  refine ⟨v, _, v1, v2, v3, hc, ⟨hSX.se (SE.fr (fun a _ h => hlo a (by omega))), g1, ⟨by rw [hlo 115 (by decide)]; exact hAX.2.2.1.1, by decide⟩, by rw [hlo 118 (by decide)]; exact hAX.2.2.2⟩, hS17X.tr g2, ⟨by rw [hlo 115 (by decide)]; exact hAX.2.2.1.1, by decide, fun j hj => ?_⟩, (congrFun (hlo 10 (by decide)) _).trans hbX, ?_, (congrFun (hlo 4 (by decide)) p).trans h4⟩
  · show recM X 33 o z 17 116 j = _
    rw [hlo 116 (by decide), hX 116 (by decide), h116]; exact hT.2.2 j hj
  · rw [← v4]
    show recM X 33 o z 17 2 p - recM X 33 o z 17 3 p = X 2 p - X 3 p
    rw [hlo 2 (by decide), hlo 3 (by decide)]
/-- a run whose bid fails -/
theorem a_run_no (hs : IsSH sh 0) (hA : At t M P o z 11) {p k sd st h : Nat} (hp : p < P) (hk : k < 10) (hk2 : 2 ≤ k) (hsd : sd < 2) (hst : st < 4) (hh : h < 10) (hT : PlOk M 115 11 (ptx k sd st h)) (he : bE M 1 p (st * 24 + h) (nI (3 * k)) = (-2)) : ∃ M1, Calls mX4_run 6 0 0 [.inr (some 0), .inl (nI p)] sh M (some (.inl (-1003))) sh M1 ∧ At t M1 P o z 11 ∧ SE M 1 M1 1 ∧ M1 133 0 = nI 2 ∧ M1 133 1 = nI 3 ∧ M1 133 2 = nI 1 ∧ M1 133 3 = nI 0 ∧ M1 133 4 = (-2) := by
  obtain ⟨C1, hA1, hS1, hS17, h116, hc⟩ := run_pre hs hA hp hk hk2 hsd hst hh hT
  have hp12 : p < 12 := Nat.lt_of_lt_of_le hp hA.P12
  have hslot : st * 24 + h < 96 := by omega
  have he1 : bE C1 1 p (st * 24 + h) (nI (3 * k)) = (-2) := (bE_se hS1 hp12 hslot).symm.trans he
  have hne : ¬ bE C1 1 p (st * 24 + h) (nI (3 * k)) = 0 := by rw [he1]; decide
  rw [if_neg hne, if_neg hne, he1] at hc
  have hF : ∀ a, a ≠ 133 → fpM (cpM C1 17 1) 133 (nI 2) (nI 3) (nI 1) (nI 0) (-2) a = cpM C1 17 1 a := fun a h => fpM_a h
  have hC : ∀ a, 17 ≤ a → cpM C1 17 1 a = C1 a := fun a h => cpM_ne (by omega)
  have hSE : SE M 1 (fpM (cpM C1 17 1) 133 (nI 2) (nI 3) (nI 1) (nI 0) (-2)) 1 := (hS17.tr (SE.cp (by decide))).tr (SE.fr (fun a _ h => hF a (by omega)))
  refine ⟨_, hc, hA1.st (hA.1.se hSE) (fun a h _ => by rw [hF a (by omega), hC a (by omega)]) (by rw [hF 115 (by decide), hC 115 (by decide)]; exact hA1.2.2.1.1) (by decide) (by rw [hF 118 (by decide), hC 118 (by decide)]; exact hA1.2.2.2), hSE, fpM_v⟩
/-- a run of a text with one bracket too many -/
theorem a_run_12 (hs : IsSH sh 0) (hA : At t M P o z 12) {p k sd st h : Nat} (hp : p < P) (hk : k < 10) (hk2 : 2 ≤ k) (hsd : sd < 2) (hst : st < 4) (hh : h < 10) (hT : PlOk M 115 12 (ptx k sd st h)) : ∃ M1, Calls mX4_run 6 0 0 [.inr (some 0), .inl (nI p)] sh M (some (.inl ((-1000) - nI 11))) sh M1 ∧ At t M1 P o z 12 ∧ M1 133 0 = nI 1 ∧ M1 133 1 = nI 11 ∧ M1 133 2 = nI 0 ∧ M1 133 3 = nI 0 ∧ M1 133 4 = (-9) := by
  obtain ⟨hl, h4⟩ := lex12 hk hk2 hsd hst hh
  have e3 : rtR 115 12 (ptx k sd st h) M = (rdW M 115 k sd st h, (11, nI 11), 0, 1) := rt_12 hl h4 hA.2.2.2
  have hrd : rdM M 115 12 (ptx k sd st h) = PL (rdW M 115 k sd st h) 115 (11, nI 11) 0 1 := by
    unfold rdM
    rw [e3]
    rfl
  have hc := c_run_pf (b := 0) hs hA.wf hp hT (by show ¬ (rtE (rtR 115 12 (ptx k sd st h) M)).2 = -1; rw [e3]; exact show ¬ nI 11 = -1 by decide)
  have hc : Calls mX4_run 6 0 0 [.inr (some 0), .inl (nI p)] sh M (some (.inl ((-1000) - (rtE (rtR 115 12 (ptx k sd st h) M)).2))) sh (fpM (rdM M 115 12 (ptx k sd st h)) 133 (nI 1) (rtE (rtR 115 12 (ptx k sd st h) M)).2 (nI (rtR 115 12 (ptx k sd st h) M).2.2.1) (nI 0) (-9)) := hc
  rw [hrd, e3] at hc
  have hR := hA.rd (k := k) (sd := sd) (st := st) (h := h) (l := (11, nI 11)) (de := 0) (np := 1)
  refine ⟨_, hc, hR.tx (fun a h => fpM_a (by omega)) (by rw [fpM_a (by decide)]; exact hR.2.2.1.1) (by decide), fpM_v⟩
end
