/-! READING A TEXT, ON BOTH SIDES: signs, numbers, a part. -/
/-- the same failure; and without one, the same place -/
def Sm (l k : LxS) : Prop := l.2 = k.2 ∧ (l.2 = (-1) → l.1 = k.1)
theorem tk_bad {g : Nat → Int32} {w : Int32} {l : LxS} (h : ¬ l.2 = (-1)) : (lTK g w l).2 = l.2 := by
  show (if lTI g w l then l.2 else if l.2 = (-1) then nI l.1 else l.2) = _
  rw [if_neg (fun z => h z.1), if_neg h]
theorem ts_bad {g : Nat → Int32} {l : LxS} (h : ¬ l.2 = (-1)) : (lTS g l).2 = l.2 := by
  unfold lTS lSK
  show (if isSt (g l.1 - nI 48) then l else lFA (nI l.1) l).2 = _
  split
  · rfl
  · show (if l.2 = (-1) then _ else l.2) = _
    rw [if_neg h]
theorem ts_le {g : Nat → Int32} {l : LxS} : (lTS g l).1 ≤ l.1 + 1 := by
  have h : ∀ x : LxS, x.1 = l.1 → (lSK x).1 ≤ l.1 + 1 := fun x hx => by
    show (if x.2 = (-1) then x.1 + 1 else x.1) ≤ _
    split <;> omega
  unfold lTS
  apply h
  split <;> rfl
theorem fa_bad {x : Int32} {l : LxS} (h : ¬ l.2 = (-1)) : lFA x l = l := by
  unfold lFA
  rw [if_neg h]
theorem tn_bad {g : Nat → Int32} {lo hi : Int32} {l : LxS} (h : ¬ l.2 = (-1)) : (tnF g lo hi l).1.2 = l.2 := by
  unfold tnF
  generalize tnL g l.2 3 l.1 (nI 0) true = r
  show (if lo ≤ r.2 ∧ r.2 ≤ hi then (if r.1 = l.1 ∨ isD (g r.1) then (if l.2 = (-1) then nI r.1 else l.2) else l.2) else (if (if r.1 = l.1 ∨ isD (g r.1) then (if l.2 = (-1) then nI r.1 else l.2) else l.2) = (-1) then nI l.1 else (if r.1 = l.1 ∨ isD (g r.1) then (if l.2 = (-1) then nI r.1 else l.2) else l.2))) = l.2
  have e : (if r.1 = l.1 ∨ isD (g r.1) then (if l.2 = (-1) then nI r.1 else l.2) else l.2) = l.2 := by
    by_cases c : r.1 = l.1 ∨ isD (g r.1)
    · rw [if_pos c, if_neg h]
    · rw [if_neg c]
  rw [e, if_neg h, ite_self]
theorem tnL_nm {g : Nat → Int32} {bg : Nat} : ∀ (n at' : Nat) (v : Int32), at' + n = bg + 3 → tnL g (-1) n at' v (decide (0 < v)) = nmL g bg (n + 1) at' v
  | 0, at', v, h => by
    unfold tnL nmL
    rw [if_neg (fun z => by have := z.2.1; omega)]
  | n + 1, at', v, h => by
    have e1 : tnL g (-1) (n + 1) at' v (decide (0 < v)) = (if decide (0 < v) = true ∧ isD (g at') then tnL g (-1) n (if (-1 : Int32) = (-1) then at' + 1 else at') (v * nI 10 + g at' - nI 48) (decide (0 < v * nI 10 + g at' - nI 48)) else (at', v)) := rfl
    have e2 : nmL g bg (n + 1 + 1) at' v = (if 0 < v ∧ at' - bg < 3 ∧ isD (g at') then nmL g bg (n + 1) (at' + 1) (nI 10 * v + g at' - nI 48) else (at', v)) := rfl
    rw [e1, e2]
    by_cases c : 0 < v ∧ isD (g at')
    · have c2 : decide (0 < v) = true ∧ isD (g at') := ⟨decide_eq_true c.1, c.2⟩
      have c3 : 0 < v ∧ at' - bg < 3 ∧ isD (g at') := ⟨c.1, by omega, c.2⟩
      rw [if_pos c2, if_pos c3, if_pos rfl, Int32.mul_comm v]
      exact tnL_nm n (at' + 1) _ (by omega)
    · rw [if_neg (fun z => c ⟨of_decide_eq_true z.1, z.2⟩), if_neg (fun z => c ⟨z.1, z.2.2⟩)]
def tF (g : Nat → Int32) (lo hi : Int32) (po : Nat) (r : Nat × Int32) : LxS × Int32 := ((r.1, if lo ≤ r.2 ∧ r.2 ≤ hi then (if r.1 = po ∨ isD (g r.1) then nI r.1 else (-1)) else (if (if r.1 = po ∨ isD (g r.1) then nI r.1 else (-1)) = (-1) then nI po else (if r.1 = po ∨ isD (g r.1) then nI r.1 else (-1)))), r.2)
theorem tnF_t {g : Nat → Int32} {lo hi : Int32} {po : Nat} : tnF g lo hi (po, -1) = tF g lo hi po (tnL g (-1) 3 po (nI 0) true) := by
  have hp : ∀ x y : Int32, (if (-1 : Int32) = (-1) then x else y) = x := fun x y => if_pos rfl
  unfold tnF tF
  simp only [hp]
  rfl
theorem nmF_t {g : Nat → Int32} {lo hi : Int32} {po : Nat} (hd : isD (g po)) : nmF g lo hi (po, -1) = (((nmL g po 3 (po + 1) (g po - nI 48)).1, if lo ≤ (nmL g po 3 (po + 1) (g po - nI 48)).2 ∧ (nmL g po 3 (po + 1) (g po - nI 48)).2 ≤ hi then (if isD (g (nmL g po 3 (po + 1) (g po - nI 48)).1) then nI (nmL g po 3 (po + 1) (g po - nI 48)).1 else (-1)) else (if (if isD (g (nmL g po 3 (po + 1) (g po - nI 48)).1) then nI (nmL g po 3 (po + 1) (g po - nI 48)).1 else (-1)) = (-1) then nI po else (if isD (g (nmL g po 3 (po + 1) (g po - nI 48)).1) then nI (nmL g po 3 (po + 1) (g po - nI 48)).1 else (-1)))), (nmL g po 3 (po + 1) (g po - nI 48)).2) := by
  unfold nmF
  rw [if_neg (fun z => z rfl), if_neg (fun z => z hd)]
theorem tn_nm {g : Nat → Int32} {lo hi : Int32} {l : LxS} (h : l.2 = (-1)) (hl : l.1 < 2 ^ 30) : (tnF g lo hi l).1 = (nmF g lo hi l).1 ∧ (isD (g l.1) → (tnF g lo hi l).2 = (nmF g lo hi l).2) := by
  obtain ⟨po, fa⟩ := l
  have h' : fa = (-1) := h
  subst h'
  rw [tnF_t]
  by_cases hd : isD (g po)
  · have e1 : tnL g (-1) 3 po (nI 0) true = nmL g po 3 (po + 1) (g po - nI 48) := by
      have e2 : nI 0 * nI 10 + g po - nI 48 = g po - nI 48 := by rw [nI_0, Int32.zero_mul, Int32.zero_add]
      have e3 := tnL_nm (g := g) (bg := po) 2 (po + 1) (g po - nI 48) (by omega)
      rw [← e3]
      show (if true = true ∧ isD (g po) then tnL g (-1) 2 (if (-1 : Int32) = (-1) then po + 1 else po) (nI 0 * nI 10 + g po - nI 48) (decide (0 < nI 0 * nI 10 + g po - nI 48)) else (po, nI 0)) = _
      rw [if_pos ⟨rfl, hd⟩, if_pos rfl, e2]
    have hle := (nmL_le (g := g) (bg := po) 3 (po + 1) (g po - nI 48)).1
    rw [nmF_t hd, e1]
    generalize nmL g po 3 (po + 1) (g po - nI 48) = r at hle ⊢
    have hne : ¬ r.1 = po := by omega
    have e4 : (if r.1 = po ∨ isD (g r.1) then nI r.1 else (-1)) = (if isD (g r.1) then nI r.1 else (-1)) := by
      by_cases c : isD (g r.1)
      · rw [if_pos (Or.inr c), if_pos c]
      · rw [if_neg (fun z => z.elim hne c), if_neg c]
    unfold tF
    rw [e4]
    exact ⟨rfl, fun _ => rfl⟩
  · refine ⟨?_, fun z => absurd z hd⟩
    have e1 : tnL g (-1) 3 po (nI 0) true = (po, nI 0) := by
      show (if true = true ∧ isD (g po) then _ else (po, nI 0)) = _
      rw [if_neg (fun z => hd z.2)]
    rw [nmF_2 rfl hd, e1]
    show ((po, if lo ≤ nI 0 ∧ nI 0 ≤ hi then (if po = po ∨ isD (g po) then nI po else (-1)) else (if (if po = po ∨ isD (g po) then nI po else (-1)) = (-1) then nI po else (if po = po ∨ isD (g po) then nI po else (-1)))) : LxS) = (po, nI po)
    rw [if_pos (show po = po ∨ isD (g po) from Or.inl rfl), if_neg (nI_ne_m1 (show po < 2 ^ 31 by have : po < 2 ^ 30 := hl; omega)), ite_self]
theorem tn_rng {g : Nat → Int32} {lo hi : Int32} {l : LxS} (hl : l.1 < 2 ^ 30) (h : (tnF g lo hi l).1.2 = (-1)) : lo ≤ (tnF g lo hi l).2 ∧ (tnF g lo hi l).2 ≤ hi := by
  by_cases c : lo ≤ (tnF g lo hi l).2 ∧ (tnF g lo hi l).2 ≤ hi
  · exact c
  · exfalso
    have c' : ¬ (lo ≤ (tnL g l.2 3 l.1 (nI 0) true).2 ∧ (tnL g l.2 3 l.1 (nI 0) true).2 ≤ hi) := c
    unfold tnF at h
    simp only [] at h
    rw [if_neg c'] at h
    revert h
    generalize (if (tnL g l.2 3 l.1 (nI 0) true).1 = l.1 ∨ isD (g (tnL g l.2 3 l.1 (nI 0) true).1) then (if l.2 = (-1) then nI (tnL g l.2 3 l.1 (nI 0) true).1 else l.2) else l.2) = f1
    intro h
    by_cases z : f1 = (-1)
    · rw [if_pos z] at h
      exact nI_ne_m1 (by omega) h
    · rw [if_neg z] at h
      exact z h
theorem nm_ok {g : Nat → Int32} {lo hi : Int32} {l : LxS} (hl : l.1 < 2 ^ 30) (h : (nmF g lo hi l).1.2 = (-1)) : l.2 = (-1) ∧ isD (g l.1) := by
  have h1 := (nmF_lo (by omega) h).1
  refine ⟨h1, ?_⟩
  by_cases hd : isD (g l.1)
  · exact hd
  · rw [nmF_2 h1 hd] at h
    exact absurd h (nI_ne_m1 (by omega))
theorem Sm.tn {g : Nat → Int32} {lo hi : Int32} {l k : LxS} (h : Sm l k) (hl : l.1 < 2 ^ 30) : Sm (tnF g lo hi l).1 (nmF g lo hi k).1 ∧ ((tnF g lo hi l).1.2 = (-1) → (tnF g lo hi l).2 = (nmF g lo hi k).2) := by
  by_cases h0 : l.2 = (-1)
  · have e : l = k := Prod.ext (h.2 h0) h.1
    subst e
    obtain ⟨h1, h2⟩ := tn_nm (g := g) (lo := lo) (hi := hi) h0 hl
    rw [h1]
    exact ⟨⟨rfl, fun _ => rfl⟩, fun z => h2 (nm_ok hl z).2⟩
  · have hk : ¬ k.2 = (-1) := fun z => h0 (h.1.trans z)
    rw [nmF_1 hk]
    refine ⟨⟨(tn_bad h0).trans h.1, fun z => absurd ((tn_bad h0).symm.trans z) h0⟩, fun z => absurd ((tn_bad h0).symm.trans z) h0⟩
theorem Sm.tk {g : Nat → Int32} {w : Int32} {l k : LxS} (h : Sm l k) (hl : l.1 < 2 ^ 30) : Sm (lTK g w l) (if k.2 = (-1) then sgF g w k else k) := by
  by_cases h0 : l.2 = (-1)
  · have e : l = k := Prod.ext (h.2 h0) h.1
    subst e
    rw [if_pos h0]
    unfold lTK sgF
    by_cases c : g l.1 = w
    · rw [if_pos ⟨h0, c⟩, if_pos ⟨h0, c⟩, if_pos c]
      exact ⟨rfl, fun _ => rfl⟩
    · rw [if_neg (fun z => c z.2), if_neg (fun z => c z.2), if_neg c]
      refine ⟨rfl, fun z => ?_⟩
      simp only [if_pos h0] at z
      exact absurd z (nI_ne_m1 (by omega))
  · have hk : ¬ k.2 = (-1) := fun z => h0 (h.1.trans z)
    rw [if_neg hk]
    exact ⟨(tk_bad h0).trans h.1, fun z => absurd ((tk_bad h0).symm.trans z) h0⟩
theorem tk_lo {g : Nat → Int32} {w : Int32} {l : LxS} (h : (lTK g w l).2 = (-1)) : l.2 = (-1) := Classical.byContradiction (fun z => z ((tk_bad z).symm.trans h))
theorem tk_on {g : Nat → Int32} {w : Int32} {l : LxS} (hl : l.1 < 2 ^ 30) (h : (lTK g w l).2 = (-1)) : g l.1 = w ∧ (lTK g w l).1 = l.1 + 1 := by
  have h0 := tk_lo h
  by_cases c : g l.1 = w
  · exact ⟨c, by show (if lTI g w l then _ else _) = _; rw [if_pos ⟨h0, c⟩]⟩
  · have h' : (if lTI g w l then l.2 else if l.2 = (-1) then nI l.1 else l.2) = (-1) := h
    rw [if_neg (fun z => c z.2), if_pos h0] at h'
    exact absurd h' (nI_ne_m1 (by omega))
theorem tn_lo {g : Nat → Int32} {lo hi : Int32} {l : LxS} (h : (tnF g lo hi l).1.2 = (-1)) : l.2 = (-1) := Classical.byContradiction (fun z => z ((tn_bad z).symm.trans h))
/-- a part of a plan on both sides, from its first sign on -/
theorem part_eq {len : Nat} {tx : Nat → Int32} {l : LxS} (hlen : len ≤ 100) (hl : l.1 ≤ 100) (h0 : l.2 = (-1)) (hq : gF len tx l.1 = nI 113 ∨ gF len tx l.1 = nI 110) :
    (rb2 (gF len tx) l) = (l.1 + 1, (-1)) ∧ Sm (rb10 (gF len tx) (rb2 (gF len tx) l)) (p8 (gF len tx) l) ∧ ((rb10 (gF len tx) (rb2 (gF len tx) l)).2 = (-1) →
      (rb5 (gF len tx) (rb2 (gF len tx) l)).2 = (p4 (gF len tx) l).2 ∧ (rb7 (gF len tx) (rb2 (gF len tx) l)).2 = (p5 (gF len tx) l).2 ∧ (rb9 (gF len tx) (rb2 (gF len tx) l)).2 = (p7 (gF len tx) l).2 ∧
      isSt (gF len tx (l.1 + 1) - nI 48) ∧ (nI 0 ≤ (p4 (gF len tx) l).2 ∧ (p4 (gF len tx) l).2 ≤ nI 23) ∧ ((p4 (gF len tx) l).2 ≤ (p5 (gF len tx) l).2 ∧ (p5 (gF len tx) l).2 ≤ nI 23) ∧ (rb10 (gF len tx) (rb2 (gF len tx) l)).1 ≤ len) := by
  generalize hg : gF len tx = g at hq
  have hlt : l.1 < len := by
    rw [← hg] at hq
    rcases hq with z | z
    · exact gF_lt z (chn rfl)
    · exact gF_lt z (chn rfl)
  have e2 : rb2 g l = (l.1 + 1, (-1)) := by
    unfold rb2
    by_cases c : lTI g (nI 113) l
    · rw [if_pos c]
      unfold lTIs
      rw [if_pos c, h0]
    · rw [if_neg c]
      have c1 : g l.1 = nI 110 := hq.elim (fun z => absurd ⟨h0, z⟩ c) id
      have c2 : lTIs g (nI 113) l = l := by
        unfold lTIs
        rw [if_neg c]
      rw [c2]
      unfold lTK
      rw [if_pos ⟨h0, c1⟩, if_pos ⟨h0, c1⟩, h0]
  rw [e2]
  have b2 : (l.1 + 1) ≤ 101 := by omega
  -- the street
  have s3 : Sm (lTS g (l.1 + 1, (-1))) ((p2 g l).1 + 1, (p2 g l).2) := by
    unfold lTS p2
    by_cases c : isSt (g (l.1 + 1) - nI 48)
    · rw [if_pos c, if_pos c]
      unfold lSK
      rw [if_pos rfl]
      exact ⟨h0.symm, fun _ => rfl⟩
    · rw [if_neg c, if_neg c]
      unfold lSK lFA
      simp only [h0, if_true]
      have : ¬ nI (l.1 + 1) = (-1) := nI_ne_m1 (by omega)
      exact ⟨rfl, fun z => absurd z this⟩
  have d3 : (lTS g (l.1 + 1, (-1))).1 ≤ 102 := by
    have h := ts_le (g := g) (l := (l.1 + 1, (-1)))
    have h2 : (lTS g (l.1 + 1, (-1))).1 ≤ l.1 + 1 + 1 := h
    omega
  have s4 : Sm (rb4 g (l.1 + 1, (-1))) (p3 g l) := s3.tk (by omega)
  have d4 : (rb4 g (l.1 + 1, (-1))).1 ≤ 103 := by
    show (if lTI g (nI 58) (lTS g (l.1 + 1, (-1))) then (lTS g (l.1 + 1, (-1))).1 + 1 else (lTS g (l.1 + 1, (-1))).1) ≤ 103
    split <;> omega
  obtain ⟨s5, v5⟩ := s4.tn (g := g) (lo := nI 0) (hi := nI 23) (by omega)
  have tl : ∀ (fa : Int32) (n po : Nat) (num : Int32) (go : Bool), (tnL g fa n po num go).1 ≤ po + n := by
    intro fa n
    induction n with
    | zero => intro po num go; exact Nat.le_refl _
    | succ n ih =>
      intro po num go
      unfold tnL
      split
      · have := ih (if fa = (-1) then po + 1 else po) (num * nI 10 + g po - nI 48) (decide (0 < num * nI 10 + g po - nI 48))
        have h2 : (if fa = (-1) then po + 1 else po) ≤ po + 1 := by split <;> omega
        omega
      · show po ≤ _
        omega
  have d5 : (rb5 g (l.1 + 1, (-1))).1.1 ≤ 106 := by
    have := tl (rb4 g (l.1 + 1, (-1))).2 3 (rb4 g (l.1 + 1, (-1))).1 (nI 0) true
    show (tnL g (rb4 g (l.1 + 1, (-1))).2 3 (rb4 g (l.1 + 1, (-1))).1 (nI 0) true).1 ≤ 106
    omega
  have s7 : Sm (rb7 g (l.1 + 1, (-1))).1 (p5 g l).1 ∧ ((rb7 g (l.1 + 1, (-1))).1.2 = (-1) → (rb7 g (l.1 + 1, (-1))).2 = (p5 g l).2 ∧ (rb5 g (l.1 + 1, (-1))).1.2 = (-1) ∧ ((p4 g l).2 ≤ (p5 g l).2 ∧ (p5 g l).2 ≤ nI 23)) ∧ (rb7 g (l.1 + 1, (-1))).1.1 ≤ 110 := by
    have v5' : (rb5 g (l.1 + 1, (-1))).1.2 = (-1) → (rb5 g (l.1 + 1, (-1))).2 = (p4 g l).2 := v5
    by_cases c : lTI g (nI 45) (rb5 g (l.1 + 1, (-1))).1
    · have c1 : p5c g l := ⟨s5.1.symm.trans c.1, (congrArg g (s5.2 c.1)).symm.trans c.2⟩
      have e7 : rb7 g (l.1 + 1, (-1)) = tnF g (rb5 g (l.1 + 1, (-1))).2 (nI 23) (lTIs g (nI 45) (rb5 g (l.1 + 1, (-1))).1) := if_pos c
      have e6 : lTIs g (nI 45) (rb5 g (l.1 + 1, (-1))).1 = ((rb5 g (l.1 + 1, (-1))).1.1 + 1, (rb5 g (l.1 + 1, (-1))).1.2) := by
        unfold lTIs
        rw [if_pos c]
      have s6 : Sm ((rb5 g (l.1 + 1, (-1))).1.1 + 1, (rb5 g (l.1 + 1, (-1))).1.2) ((p4 g l).1.1 + 1, (p4 g l).1.2) := ⟨s5.1, fun z => congrArg (· + 1) (s5.2 z)⟩
      rw [p5_y c1, e7, e6, v5' c.1]
      obtain ⟨a1, a2⟩ := s6.tn (g := g) (lo := (p4 g l).2) (hi := nI 23) (by show _ + 1 < _; omega)
      refine ⟨a1, fun z => ⟨a2 z, c.1, ?_⟩, ?_⟩
      · rw [← a2 z]
        exact tn_rng (by show _ + 1 < _; omega) z
      · have := tl (rb5 g (l.1 + 1, (-1))).1.2 3 ((rb5 g (l.1 + 1, (-1))).1.1 + 1) (nI 0) true
        show (tnL g (rb5 g (l.1 + 1, (-1))).1.2 3 ((rb5 g (l.1 + 1, (-1))).1.1 + 1) (nI 0) true).1 ≤ 110
        omega
    · have c1 : ¬ p5c g l := fun z => c ⟨s5.1.trans z.1, (congrArg g (s5.2 (s5.1.trans z.1))).trans z.2⟩
      have e6 : lTIs g (nI 45) (rb5 g (l.1 + 1, (-1))).1 = (rb5 g (l.1 + 1, (-1))).1 := by
        unfold lTIs
        rw [if_neg c]
      have e7 : rb7 g (l.1 + 1, (-1)) = ((rb5 g (l.1 + 1, (-1))).1, (rb5 g (l.1 + 1, (-1))).2) := by
        unfold rb7
        rw [if_neg c, e6]
      rw [p5_n c1, e7]
      refine ⟨s5, fun z => ⟨v5' z, z, Int32.le_refl _, ?_⟩, by show (rb5 g (l.1 + 1, (-1))).1.1 ≤ 110; omega⟩
      rw [← v5' z]
      exact (tn_rng (by omega) z).2
  obtain ⟨s7, v7, d7⟩ := s7
  have s8 : Sm (lTK g (nI 61) (rb7 g (l.1 + 1, (-1))).1) (p6 g l) := s7.tk (by omega)
  have d8 : (lTK g (nI 61) (rb7 g (l.1 + 1, (-1))).1).1 ≤ 111 := by
    show (if lTI g (nI 61) (rb7 g (l.1 + 1, (-1))).1 then (rb7 g (l.1 + 1, (-1))).1.1 + 1 else (rb7 g (l.1 + 1, (-1))).1.1) ≤ 111
    split <;> omega
  obtain ⟨s9, v9⟩ := s8.tn (g := g) (lo := nI 1) (hi := nI 999) (by omega)
  have d9 : (rb9 g (l.1 + 1, (-1))).1.1 ≤ 114 := by
    have := tl (lTK g (nI 61) (rb7 g (l.1 + 1, (-1))).1).2 3 (lTK g (nI 61) (rb7 g (l.1 + 1, (-1))).1).1 (nI 0) true
    show (tnL g (lTK g (nI 61) (rb7 g (l.1 + 1, (-1))).1).2 3 (lTK g (nI 61) (rb7 g (l.1 + 1, (-1))).1).1 (nI 0) true).1 ≤ 114
    omega
  have s10 : Sm (rb10 g (l.1 + 1, (-1))) (p8 g l) := Sm.tk (l := (rb9 g (l.1 + 1, (-1))).1) (k := (p7 g l).1) s9 (by omega)
  refine ⟨rfl, s10, fun z => ?_⟩
  have z9 : (rb9 g (l.1 + 1, (-1))).1.2 = (-1) := tk_lo z
  have z7 : (rb7 g (l.1 + 1, (-1))).1.2 = (-1) := tk_lo (tn_lo z9)
  obtain ⟨w1, w2, w3⟩ := v7 z7
  have z4 : (rb4 g (l.1 + 1, (-1))).2 = (-1) := tn_lo w2
  have z3 : (lTS g (l.1 + 1, (-1))).2 = (-1) := tk_lo z4
  have w5 : (rb5 g (l.1 + 1, (-1))).2 = (p4 g l).2 := v5 w2
  refine ⟨w5, w1, v9 z9, ?_, ?_, w3, ?_⟩
  · by_cases c : isSt (g (l.1 + 1) - nI 48)
    · exact c
    · exfalso
      unfold lTS lSK at z3
      rw [if_neg c] at z3
      exact lFA_ok (l := (l.1 + 1, (-1))) (show l.1 + 1 < 2 ^ 31 by omega) z3
  · rw [← w5]
    exact tn_rng (by omega) w2
  · obtain ⟨y1, y2⟩ := tk_on (l := (rb9 g (l.1 + 1, (-1))).1) (by omega) z
    rw [← hg] at y1
    have y3 := gF_lt y1 (chn rfl)
    rw [hg] at y3
    show (lTK g (nI 59) (rb9 g (l.1 + 1, (-1))).1).1 ≤ len
    rw [y2]
    exact y3
