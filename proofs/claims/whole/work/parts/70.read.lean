/-! READING A TEXT, ON BOTH SIDES: pieces, the whole. -/
theorem og_bad {g : Nat → Int32} {l : LxS} {de : Nat} (h : ¬ l.2 = (-1)) : (ogl g l de).2 = l.2 := by
  unfold ogl
  rw [fa_bad h, ite_self]
  exact tk_bad h
theorem grp_eq {C D : Mem} {q m de : Nat} {g : Nat → Int32} {l k : LxS} {f f' : Int32} (hS : Sm l k) (hl : l.1 < 2 ^ 30) (hf : l.2 = (-1) → f = f') (hfa : ∀ i, i ≤ de → C (q + 3) i = D (m + 5) i) :
    Sm (ogl g l de) (opQ D m g k de f').2.1 ∧ ogD g l de = (opQ D m g k de f').2.2 ∧ ((ogl g l de).2 = (-1) → (∀ i, i ≤ ogD g l de → ogM C q g l de f (q + 3) i = (opQ D m g k de f').1 (m + 5) i) ∧ ∃ x : LxS, x.1 = l.1 ∧ ogl g l de = lTK g (nI 40) x) := by
  by_cases h0 : l.2 = (-1)
  · have e : l = k := Prod.ext (hS.2 h0) hS.1
    subst e
    by_cases c : opC g l de
    · have eo : ogl g l de = (l.1 + 1, l.2) := by
        unfold ogl lTK
        rw [if_pos c.2.2, if_pos ⟨c.1, c.2.1⟩, if_pos ⟨c.1, c.2.1⟩]
      have ed : ogD g l de = de + 1 := by
        unfold ogD
        rw [eo, if_pos h0]
      have em : ogM C q g l de f = up C (q + 3) (de + 1) (C (q + 3) de * f) := by
        unfold ogM
        rw [eo, if_pos h0]
      rw [opQ_y c, ed, em, hf h0]
      refine ⟨by rw [eo]; exact ⟨rfl, fun _ => rfl⟩, rfl, fun _ => ⟨fun i hi => ?_, l, rfl, ?_⟩⟩
      · show up C (q + 3) (de + 1) (C (q + 3) de * f') (q + 3) i = up D (m + 5) (de + 1) (D (m + 5) de * f') (m + 5) i
        by_cases z : i = de + 1
        · subst z; rw [up_eq, up_eq, hfa de (Nat.le_refl de)]
        · rw [up_ne2 z, up_ne2 z]; exact hfa i (by omega)
      · unfold ogl
        rw [if_pos c.2.2]
    · have eo : (ogl g l de).2 = nI l.1 := by
        unfold ogl
        by_cases hd : de < 4
        · rw [if_pos hd]
          have c1 : ¬ g l.1 = nI 40 := fun z => c ⟨h0, z, hd⟩
          show (if lTI g (nI 40) l then l.2 else if l.2 = (-1) then nI l.1 else l.2) = _
          rw [if_neg (fun z => c1 z.2), if_pos h0]
        · rw [if_neg hd]
          have e1 : (lFA (nI l.1) l).2 = nI l.1 := by
            show (if l.2 = (-1) then nI l.1 else l.2) = _
            rw [if_pos h0]
          rw [tk_bad (by rw [e1]; exact nI_ne_m1 (by omega)), e1]
      have hne : ¬ (ogl g l de).2 = (-1) := by rw [eo]; exact nI_ne_m1 (by omega)
      rw [opQ_n c]
      refine ⟨⟨?_, fun z => absurd z hne⟩, by unfold ogD; rw [if_neg hne], fun z => absurd z hne⟩
      rw [eo]
      show _ = (if l.2 = (-1) then nI l.1 else l.2)
      rw [if_pos h0]
  · have hk : ¬ k.2 = (-1) := fun z => h0 (hS.1.trans z)
    have hne : ¬ (ogl g l de).2 = (-1) := by rw [og_bad h0]; exact h0
    rw [opQ_n (fun z => hk z.1)]
    refine ⟨⟨?_, fun z => absurd z hne⟩, by unfold ogD; rw [if_neg hne], fun z => absurd z hne⟩
    rw [og_bad h0]
    show _ = (lFA _ k).2
    rw [fa_bad hk]
    exact hS.1
theorem ogM_a {C : Mem} {q de a : Nat} {g : Nat → Int32} {l : LxS} {f : Int32} (h : a ≠ q + 3) : ogM C q g l de f a = C a := by
  unfold ogM
  split
  · exact up_ne h
  · rfl
theorem opQ_a {D : Mem} {m de a : Nat} {g : Nat → Int32} {l : LxS} {f : Int32} (h : a ≠ m + 5) : (opQ D m g l de f).1 a = D a := by
  by_cases c : opC g l de
  · rw [opQ_y c]; exact up_ne h
  · rw [opQ_n c]
theorem rbM_a {C : Mem} {q de np a : Nat} {g : Nat → Int32} {l : LxS} (h : a < q + 4 ∨ q + 18 ≤ a) : rbM C q g l de np a = C a := by
  unfold rbM
  by_cases c : (rb10 g (rb2 g l)).2 = (-1) ∧ np < 14
  · rw [if_pos c]
    have := c.2
    unfold rbW
    rw [up_ne (by omega), up_ne (by omega), up_ne (by omega), up_ne (by omega), up_ne (by omega), up_ne (by omega), up_ne (by omega)]
  · rw [if_neg c]
theorem rpF_a {q a : Nat} {g : Nat → Int32} {t : PSt} (h1 : a ≠ q + 3) (h2 : a < q + 4 ∨ q + 18 ≤ a) : (rpF q g t).1 a = t.1 a := by
  unfold rpF
  split
  · rfl
  · split
    · exact ogM_a h1
    · split
      · exact ogM_a h1
      · exact rbM_a h2
theorem qpF_a {m a : Nat} {g : Nat → Int32} {u : QSt} (h1 : a ≠ m + 5) (h2 : a ≠ m + 7) : (qpF m g u).1 a = u.1 a := by
  unfold qpF
  split
  · rfl
  · split
    · exact opQ_a h1
    · split
      · exact opQ_a h1
      · split
        · exact pw4_a h2
        · rfl
def PR (q m len : Nat) (t : PSt) (u : QSt) : Prop := t.2.1.2 = u.2.1.2 ∧ t.2.2.1 = u.2.2.1 ∧ (t.2.1.2 = (-1) → t.2.1.1 = u.2.1.1 ∧ t.2.1.1 ≤ len ∧ t.2.2.2 = u.2.2.2 ∧ 7 * t.2.2.2 ≤ t.2.1.1 ∧ (∀ i, i ≤ t.2.2.1 → t.1 (q + 3) i = u.1 (m + 5) i) ∧ ∃ pt, PtOk t.1 (q + 4) t.2.2.2 pt ∧ PtOkD u.1 m t.2.2.2 pt)
theorem rb_bad {g : Nat → Int32} {l : LxS} (h : ¬ l.2 = (-1)) : (rb10 g l).2 = l.2 := by
  have h4 : (rb4 g l).2 = l.2 := (tk_bad (by rw [ts_bad h]; exact h)).trans (ts_bad h)
  have h5 : (rb5 g l).1.2 = l.2 := (tn_bad (by rw [h4]; exact h)).trans h4
  have n5 : ¬ (rb5 g l).1.2 = (-1) := by rw [h5]; exact h
  have e7 : rb7 g l = (lTIs g (nI 45) (rb5 g l).1, (rb5 g l).2) := by
    unfold rb7
    rw [if_neg (fun z => n5 z.1)]
  have h7 : (rb7 g l).1.2 = l.2 := by rw [e7]; exact h5
  have h8 : (lTK g (nI 61) (rb7 g l).1).2 = l.2 := (tk_bad (by rw [h7]; exact h)).trans h7
  have h9 : (rb9 g l).1.2 = l.2 := (tn_bad (by rw [h8]; exact h)).trans h8
  exact (tk_bad (by rw [h9]; exact h)).trans h9
theorem I32v {a b : Nat} (h : a ≠ b) (ha : a < 2 ^ 31) (hb : b < 2 ^ 31) : nI a ≠ nI b := fun z => h ((nI_eq ha hb).mp z)
theorem dig_n {x : Int32} (h : isD x) : x ≠ nI 41 ∧ x ≠ nI 40 := by
  obtain ⟨h1, h2⟩ := h
  constructor
  · rintro rfl; exact absurd h1 (by decide)
  · rintro rfl; exact absurd h1 (by decide)
/-- one piece -/
theorem pr_step {q m len de np : Nat} {tx : Nat → Int32} {C D : Mem} {l : LxS} (hlen : len ≤ 100) (h0 : l.2 = (-1)) (hlt : l.1 < len) (hde : de ≤ 4) (hQ : QOk m len tx (D, l, de, np)) (h : PR q m len (C, l, de, np) (D, l, de, np)) : PR q m len (rpF q (gF len tx) (C, l, de, np)) (qpF m (gF len tx) (D, l, de, np)) := by
  obtain ⟨-, -, h3⟩ := h
  obtain ⟨-, -, -, b7, bf, pt, bp, bd⟩ := h3 h0
  have bf' : ∀ i, i ≤ de → C (q + 3) i = D (m + 5) i := bf
  have bp' : PtOk C (q + 4) np pt := bp
  have bd' : PtOkD D m np pt := bd
  have b7' : 7 * np ≤ l.1 := b7
  have hpr := (qpF_ok (g := gF len tx) hQ h0 hlt b7).2
  generalize hg : gF len tx = g at hpr ⊢
  have hlen' : ∀ (w : Int32) (x : LxS), w ≠ nI 0 → x.1 < 2 ^ 30 → (lTK g w x).2 = (-1) → (lTK g w x).1 ≤ len := fun w x hw hx hk => by
    obtain ⟨y1, y2⟩ := tk_on hx hk
    rw [← hg] at y1
    rw [y2]
    exact gF_lt y1 hw
  by_cases c41 : g l.1 = nI 41
  · have er : rpF q g (C, l, de, np) = (C, cgl g l de, de - 1, np) := if_pos c41
    by_cases hd : 0 < de
    · have eq' : qpF m g (D, l, de, np) = (D, (l.1 + 1, l.2), de - 1, np) := if_pos ⟨c41, hd⟩
      have ec : cgl g l de = (l.1 + 1, l.2) := by
        unfold cgl lTK
        rw [if_pos hd, if_pos ⟨h0, c41⟩, if_pos ⟨h0, c41⟩]
      rw [er, eq', ec]
      exact ⟨rfl, rfl, fun _ => ⟨rfl, hlt, rfl, by show 7 * np ≤ l.1 + 1; omega, fun i hi => bf' i (by have hi' : i ≤ de - 1 := hi; omega), pt, bp', bd'⟩⟩
    · have c40 : ¬ g l.1 = nI 40 := fun z => absurd (c41.symm.trans z) (by decide)
      have cD : ¬ isD (g l.1) := fun z => (dig_n z).1 c41
      have cq : ¬ (g l.1 = nI 113 ∨ g l.1 = nI 110) := fun z => z.elim (fun y => absurd (c41.symm.trans y) (by decide)) (fun y => absurd (c41.symm.trans y) (by decide))
      have eq' : qpF m g (D, l, de, np) = (D, lFA (nI l.1) l, de, np) := (if_neg (fun z => hd z.2)).trans ((if_neg c40).trans ((if_neg cD).trans (if_neg cq)))
      have ec : cgl g l de = lFA (nI l.1) l := if_neg hd
      rw [er, eq', ec]
      refine ⟨rfl, by show de - 1 = de; omega, fun z => absurd z (lFA_ok (by omega))⟩
  · have cn : ¬ (g l.1 = nI 41 ∧ 0 < de) := fun z => c41 z.1
    by_cases c40 : g l.1 = nI 40
    · have er : rpF q g (C, l, de, np) = (ogM C q g l de (nI 1), ogl g l de, ogD g l de, np) := (if_neg c41).trans (if_pos c40)
      have eq' : qpF m g (D, l, de, np) = ((opQ D m g l de (nI 1)).1, (opQ D m g l de (nI 1)).2.1, (opQ D m g l de (nI 1)).2.2, np) := (if_neg cn).trans (if_pos c40)
      obtain ⟨s1, s2, s3⟩ := grp_eq (g := g) (l := l) (k := l) (f := nI 1) (f' := nI 1) ⟨rfl, fun _ => rfl⟩ (by omega) (fun _ => rfl) bf'
      rw [eq'] at hpr
      rw [er, eq']
      refine ⟨s1.1, s2, fun z => ?_⟩
      have z' : (ogl g l de).2 = (-1) := z
      obtain ⟨x, x1, x2⟩ := (s3 z').2
      have p1 := (hpr (s1.1.symm.trans z')).2
      refine ⟨s1.2 z', ?_, rfl, ?_, (s3 z').1, pt, bp'.of (fun i hi => ogM_a (by omega)), fun i hi => ?_⟩
      · rw [x2] at z'
        show (ogl g l de).1 ≤ len
        rw [x2]
        exact hlen' _ x (chn rfl) (by omega) z'
      · show 7 * np ≤ (ogl g l de).1
        rw [s1.2 z']
        exact p1
      · show _ = _ ∧ _
        rw [opQ_a (show m + 7 ≠ m + 5 by omega)]
        exact bd' i hi
    · by_cases cD : isD (g l.1)
      · have er : rpF q g (C, l, de, np) = (ogM C q g (lTK g (nI 42) (tnF g (nI 2) (nI 9) l).1) de (tnF g (nI 2) (nI 9) l).2, ogl g (lTK g (nI 42) (tnF g (nI 2) (nI 9) l).1) de, ogD g (lTK g (nI 42) (tnF g (nI 2) (nI 9) l).1) de, np) := (if_neg c41).trans ((if_neg c40).trans (if_pos cD))
        have eq' : qpF m g (D, l, de, np) = ((opQ D m g (q42 g l) de (nmF g (nI 2) (nI 9) l).2).1, (opQ D m g (q42 g l) de (nmF g (nI 2) (nI 9) l).2).2.1, (opQ D m g (q42 g l) de (nmF g (nI 2) (nI 9) l).2).2.2, np) := (if_neg cn).trans ((if_neg c40).trans (if_pos cD))
        obtain ⟨n1, n2⟩ := Sm.tn (g := g) (lo := nI 2) (hi := nI 9) (l := l) (k := l) ⟨rfl, fun _ => rfl⟩ (by omega)
        have hb1 : (tnF g (nI 2) (nI 9) l).1.1 ≤ 100 := by rw [← hg]; exact tnF_le (by omega) hlen
        have n3 : Sm (lTK g (nI 42) (tnF g (nI 2) (nI 9) l).1) (q42 g l) := n1.tk (by omega)
        have hb2 : (lTK g (nI 42) (tnF g (nI 2) (nI 9) l).1).1 ≤ 100 := by rw [← hg] at hb1 ⊢; exact lTK_le hb1 hlen (chn rfl)
        obtain ⟨s1, s2, s3⟩ := grp_eq (g := g) (f := (tnF g (nI 2) (nI 9) l).2) (f' := (nmF g (nI 2) (nI 9) l).2) n3 (by omega) (fun z => n2 (tk_lo z)) bf'
        rw [eq'] at hpr
        rw [er, eq']
        generalize (lTK g (nI 42) (tnF g (nI 2) (nI 9) l).1) = l1 at n3 hb2 s1 s2 s3 ⊢
        generalize (q42 g l) = k1 at n3 s1 s2 s3 hpr ⊢
        generalize (tnF g (nI 2) (nI 9) l).2 = f at s1 s2 s3 ⊢
        generalize (nmF g (nI 2) (nI 9) l).2 = f' at s1 s2 s3 hpr ⊢
        refine ⟨s1.1, s2, fun z => ?_⟩
        have z' : (ogl g l1 de).2 = (-1) := z
        obtain ⟨x, x1, x2⟩ := (s3 z').2
        have p1 := (hpr (s1.1.symm.trans z')).2
        refine ⟨s1.2 z', ?_, rfl, ?_, (s3 z').1, pt, bp'.of (fun i hi => ogM_a (by omega)), fun i hi => ?_⟩
        · rw [x2] at z'
          show (ogl g l1 de).1 ≤ len
          rw [x2]
          exact hlen' _ x (chn rfl) (by omega) z'
        · show 7 * np ≤ (ogl g l1 de).1
          rw [s1.2 z']
          exact p1
        · show _ = _ ∧ _
          rw [opQ_a (show m + 7 ≠ m + 5 by omega)]
          exact bd' i hi
      · have er : rpF q g (C, l, de, np) = (rbM C q g l de np, rb10 g (rb2 g l), de, rbN g l np) := (if_neg c41).trans ((if_neg c40).trans (if_neg cD))
        by_cases cq : g l.1 = nI 113 ∨ g l.1 = nI 110
        · have eq' : qpF m g (D, l, de, np) = (pw4 D m np g l de, p8 g l, de, np + 1) := (if_neg cn).trans ((if_neg c40).trans ((if_neg cD).trans (if_pos cq)))
          have hpe := part_eq (tx := tx) hlen (show l.1 ≤ 100 by omega) h0 (by rw [hg]; exact cq)
          rw [hg] at hpe
          obtain ⟨e2, s1, s3⟩ := hpe
          rw [eq'] at hpr
          rw [er, eq']
          refine ⟨s1.1, rfl, fun z => ?_⟩
          have z' : (rb10 g (rb2 g l)).2 = (-1) := z
          obtain ⟨v5, v7, v9, vst, v4r, v5r, vle⟩ := s3 z'
          have p1 : 7 * (np + 1) ≤ (p8 g l).1 := (hpr (s1.1.symm.trans z')).2
          have p2' : (rb10 g (rb2 g l)).1 = (p8 g l).1 := s1.2 z'
          have hnp : np < 14 := by omega
          have eN : rbN g l np = np + 1 := if_pos ⟨z', hnp⟩
          have eM : rbM C q g l de np = rbW C q g l de np := if_pos ⟨z', hnp⟩
          have esd : (if lTI g (nI 113) l then nI 0 else nI 1) = (if g l.1 = nI 113 then nI 0 else nI 1) := by
            by_cases y : g l.1 = nI 113
            · rw [if_pos y, if_pos ⟨h0, y⟩]
            · rw [if_neg y, if_neg (fun w => y w.2)]
          have hst' : isSt (g (l.1 + 1) - nI 48) := vst
          obtain ⟨st, hst1, hst2⟩ := rng (n := 3) (by decide) hst'
          obtain ⟨fh, hf1, hf2⟩ := rng (n := 23) (by decide) v4r
          have v5r' : nI 0 ≤ (p5 g l).2 ∧ (p5 g l).2 ≤ nI 23 := ⟨Int32.le_trans v4r.1 v5r.1, v5r.2⟩
          obtain ⟨lh, hl1, hl2⟩ := rng (n := 23) (by decide) v5r'
          have hfl : fh ≤ lh := by
            have y := v5r.1
            rw [hf2, hl2] at y
            exact (nI_leI (by omega) (by omega)).mp y
          have hfac : C (q + 3) de = D (m + 5) de := bf' de (Nat.le_refl de)
          refine ⟨p2', by show (rb10 g (rb2 g l)).1 ≤ len; exact vle, eN, ?_, fun i hi => ?_, fun i => if i = np then (l.1, de, (if g l.1 = nI 113 then nI 0 else nI 1), st, fh, lh, (p7 g l).2 * D (m + 5) de) else pt i, fun i hi => ?_, fun i hi => ?_⟩
          · show 7 * rbN g l np ≤ (rb10 g (rb2 g l)).1
            rw [eN, p2']
            exact p1
          · show rbM C q g l de np (q + 3) i = pw4 D m np g l de (m + 5) i
            rw [rbM_a (by omega), pw4_a (by omega)]
            exact bf' i hi
          · have hi' : i < np + 1 := by have hi2 : i < rbN g l np := hi; omega
            have hrw : ∀ a, a ≠ q + 4 + np → rbW C q g l de np a = C a := fun a ha => by
              unfold rbW
              rw [up_ne ha, up_ne ha, up_ne ha, up_ne ha, up_ne ha, up_ne ha, up_ne ha]
            show rbM C q g l de np (q + 4 + i) 0 = _ ∧ rbM C q g l de np (q + 4 + i) 1 = _ ∧ rbM C q g l de np (q + 4 + i) 2 = _ ∧ (rbM C q g l de np (q + 4 + i) 3 = _ ∧ _) ∧ (rbM C q g l de np (q + 4 + i) 4 = _ ∧ _) ∧ (rbM C q g l de np (q + 4 + i) 5 = _ ∧ _) ∧ rbM C q g l de np (q + 4 + i) 6 = _
            rw [eM]
            by_cases hin : i = np
            · subst hin
              simp only [if_true]
              unfold rbW
              rw [v5, v7, v9, esd, e2, hfac]
              refine ⟨?_, ?_, ?_, ⟨?_, by omega⟩, ⟨?_, hfl⟩, ⟨?_, by omega⟩, ?_⟩
              · rw [up_ne2 (by decide), up_ne2 (by decide), up_ne2 (by decide), up_ne2 (by decide), up_ne2 (by decide), up_ne2 (by decide), up_eq]
              · rw [up_ne2 (by decide), up_ne2 (by decide), up_ne2 (by decide), up_ne2 (by decide), up_ne2 (by decide), up_eq]
              · rw [up_ne2 (by decide), up_ne2 (by decide), up_ne2 (by decide), up_ne2 (by decide), up_eq]
              · rw [up_ne2 (by decide), up_ne2 (by decide), up_ne2 (by decide), up_eq]; exact hst2
              · rw [up_ne2 (by decide), up_ne2 (by decide), up_eq]; exact hf2
              · rw [up_ne2 (by decide), up_eq]; exact hl2
              · rw [up_eq]
            · simp only [if_neg hin]
              rw [hrw _ (by omega)]
              exact bp' i (by omega)
          · have hi' : i < np + 1 := by have hi2 : i < rbN g l np := hi; omega
            have hp3 : ∀ j : Nat, pw3 D m np g l de (m + 7) j = if j = 7 * np + 3 then (p5 g l).2 else pw2 D m np g l de (m + 7) j := fun j => by
              by_cases y : p5c g l
              · rw [pw3_y y]
                by_cases w : j = 7 * np + 3
                · subst w; rw [up_eq, if_pos rfl]
                · rw [up_ne2 w, if_neg w]
              · rw [pw3_n y]
                by_cases w : j = 7 * np + 3
                · subst w
                  rw [if_pos rfl, p5_n y]
                  unfold pw2
                  rw [up_eq]
                · rw [if_neg w]
            have hq4 : ∀ j : Nat, pw4 D m np g l de (m + 7) j = if j = 7 * np + 4 then (p7 g l).2 * D (m + 5) de else if j = 7 * np + 3 then (p5 g l).2 else if j = 7 * np + 2 then (p4 g l).2 else if j = 7 * np + 1 then g (l.1 + 1) - nI 48 else if j = 7 * np + 6 then nI de else if j = 7 * np + 5 then nI l.1 else if j = 7 * np then (if g l.1 = nI 113 then nI 0 else nI 1) else D (m + 7) j := fun j => by
              unfold pw4
              by_cases w4 : j = 7 * np + 4
              · subst w4; rw [up_eq, if_pos rfl]
              · rw [up_ne2 w4, if_neg w4, hp3]
                by_cases w3 : j = 7 * np + 3
                · rw [if_pos w3, if_pos w3]
                · rw [if_neg w3, if_neg w3]
                  unfold pw2 pw1
                  rw [up_ne2 w3]
                  by_cases w2 : j = 7 * np + 2
                  · subst w2; rw [up_eq, if_pos rfl]
                  · rw [up_ne2 w2, if_neg w2]
                    by_cases w1 : j = 7 * np + 1
                    · subst w1; rw [up_eq, if_pos rfl]
                    · rw [up_ne2 w1, if_neg w1]
                      by_cases w6 : j = 7 * np + 6
                      · subst w6; rw [up_eq, if_pos rfl]
                      · rw [up_ne2 w6, if_neg w6]
                        by_cases w5 : j = 7 * np + 5
                        · subst w5; rw [up_eq, if_pos rfl]
                        · rw [up_ne2 w5, if_neg w5]
                          by_cases w0 : j = 7 * np
                          · subst w0; rw [up_eq, if_pos rfl]
                          · rw [up_ne2 w0, if_neg w0]
            show pw4 D m np g l de (m + 7) (7 * i + 5) = _ ∧ pw4 D m np g l de (m + 7) (7 * i + 6) = _ ∧ (pw4 D m np g l de (m + 7) (7 * i) = _ ∧ _) ∧ (pw4 D m np g l de (m + 7) (7 * i + 1) = _ ∧ _) ∧ (pw4 D m np g l de (m + 7) (7 * i + 2) = _ ∧ _) ∧ (pw4 D m np g l de (m + 7) (7 * i + 3) = _ ∧ _) ∧ pw4 D m np g l de (m + 7) (7 * i + 4) = _
            rw [hq4, hq4, hq4, hq4, hq4, hq4, hq4]
            by_cases hin : i = np
            · subst hin
              simp only [if_true]
              refine ⟨?_, ?_, ⟨?_, ?_⟩, ⟨?_, by omega⟩, ⟨?_, hfl⟩, ⟨?_, by omega⟩, ?_⟩
              · rw [if_neg (by omega), if_neg (by omega), if_neg (by omega), if_neg (by omega), if_neg (by omega)]
              · rw [if_neg (by omega), if_neg (by omega), if_neg (by omega), if_neg (by omega)]
              · rw [if_neg (by omega), if_neg (by omega), if_neg (by omega), if_neg (by omega), if_neg (by omega), if_neg (by omega)]
              · split <;> decide
              · rw [if_neg (by omega), if_neg (by omega), if_neg (by omega)]; exact hst2
              · rw [if_neg (by omega), if_neg (by omega)]; exact hf2
              · rw [if_neg (by omega)]; exact hl2
              · trivial
            · simp only [if_neg hin]
              have nn : ∀ j : Nat, j < 7 * np → (if j = 7 * np + 4 then (p7 g l).2 * D (m + 5) de else if j = 7 * np + 3 then (p5 g l).2 else if j = 7 * np + 2 then (p4 g l).2 else if j = 7 * np + 1 then g (l.1 + 1) - nI 48 else if j = 7 * np + 6 then nI de else if j = 7 * np + 5 then nI l.1 else if j = 7 * np then (if g l.1 = nI 113 then nI 0 else nI 1) else D (m + 7) j) = D (m + 7) j := fun j hj => by
                rw [if_neg (by omega), if_neg (by omega), if_neg (by omega), if_neg (by omega), if_neg (by omega), if_neg (by omega), if_neg (by omega)]
              rw [nn _ (by omega), nn _ (by omega), nn _ (by omega), nn _ (by omega), nn _ (by omega), nn _ (by omega), nn _ (by omega)]
              exact bd' i (by omega)
        · have eq' : qpF m g (D, l, de, np) = (D, lFA (nI l.1) l, de, np) := (if_neg cn).trans ((if_neg c40).trans ((if_neg cD).trans (if_neg cq)))
          have e2 : (rb2 g l).2 = nI l.1 := by
            unfold rb2
            have y1 : ¬ lTI g (nI 113) l := fun z => cq (Or.inl z.2)
            rw [if_neg y1]
            have y2 : lTIs g (nI 113) l = l := by
              unfold lTIs
              rw [if_neg y1]
            rw [y2]
            show (if lTI g (nI 110) l then l.2 else if l.2 = (-1) then nI l.1 else l.2) = _
            rw [if_neg (fun z => cq (Or.inr z.2)), if_pos h0]
          have hne : ¬ (rb2 g l).2 = (-1) := by rw [e2]; exact nI_ne_m1 (by omega)
          rw [er, eq']
          refine ⟨?_, rfl, fun z => absurd ((rb_bad hne).symm.trans z) hne⟩
          show (rb10 g (rb2 g l)).2 = (if l.2 = (-1) then nI l.1 else l.2)
          rw [rb_bad hne, e2, if_pos h0]
