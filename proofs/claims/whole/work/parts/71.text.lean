/-! THE WHOLE TEXT, ON BOTH SIDES. -/
theorem rtL_a {q len a : Nat} {g : Nat → Int32} (h1 : a ≠ q + 3) (h2 : a < q + 4 ∨ q + 18 ≤ a) : ∀ (n : Nat) (t : PSt), (rtL q len g n t).1 a = t.1 a
  | 0, _ => rfl
  | n + 1, t => by
    unfold rtL
    split
    · exact (rtL_a h1 h2 n _).trans (rpF_a h1 h2)
    · rfl
theorem qrL_a {m len a : Nat} {g : Nat → Int32} (h1 : a ≠ m + 5) (h2 : a ≠ m + 7) : ∀ (n : Nat) (u : QSt), (qrL m len g n u).1 a = u.1 a
  | 0, _ => rfl
  | n + 1, u => by
    unfold qrL
    split
    · exact (qrL_a h1 h2 n _).trans (qpF_a h1 h2)
    · rfl
theorem pr_loop {q m len : Nat} {tx : Nat → Int32} (hlen : len ≤ 100) : ∀ (n : Nat) (t : PSt) (u : QSt), PR q m len t u → PSok q len tx t → QOk m len tx u → (t.2.1.2 = (-1) → 100 ≤ t.2.1.1 + n) → PR q m len (rtL q len (gF len tx) n t) (qrL m len (gF len tx) (n + 1) u) ∧ ¬ ((rtL q len (gF len tx) n t).2.1.1 < len ∧ (rtL q len (gF len tx) n t).2.1.2 = (-1))
  | 0, t, u, h, hP, hQ, h4 => by
    have hno : ¬ (t.2.1.1 < len ∧ t.2.1.2 = (-1)) := fun z => by
      have := h4 z.2
      omega
    rw [qrL_no (fun z => hno ⟨by rw [(h.2.2 (h.1.trans z.1)).1]; exact z.2, h.1.trans z.1⟩)]
    exact ⟨h, hno⟩
  | n + 1, t, u, h, hP, hQ, h4 => by
    by_cases c : t.2.1.1 < len ∧ t.2.1.2 = (-1)
    · obtain ⟨C, l, de, np⟩ := t
      obtain ⟨D, l', de', np'⟩ := u
      obtain ⟨h1, h2, h3⟩ := id h
      have el : l' = l := Prod.ext (h3 c.2).1.symm h1.symm
      have ede : de' = de := h2.symm
      have enp : np' = np := (h3 c.2).2.2.1.symm
      subst el ede enp
      rw [rtL_go c.1 c.2, qrL_go (t := (D, l', de', np')) c.2 c.1]
      have hs := pr_step hlen c.2 c.1 hP.2.2.1 hQ h
      have hq2 := qpF_ok (g := gF len tx) hQ c.2 c.1 (h3 c.2).2.2.2.1
      refine pr_loop hlen n _ _ hs (rpF_ok hP) hq2.1 (fun z => ?_)
      have y1 := (hq2.2 (hs.1.symm.trans z)).1
      have y2 : (rpF q (gF len tx) (C, l', de', np')).2.1.1 = (qpF m (gF len tx) (D, l', de', np')).2.1.1 := (hs.2.2 z).1
      have y3 := h4 c.2
      show 100 ≤ (rpF q (gF len tx) (C, l', de', np')).2.1.1 + n
      rw [y2]
      have y1' : l'.1 + 1 ≤ (qpF m (gF len tx) (D, l', de', np')).2.1.1 := y1
      have y3' : 100 ≤ l'.1 + (n + 1) := y3
      omega
    · rw [rtL_stop c, qrL_no (fun z => c ⟨by rw [(h.2.2 (h.1.trans z.1)).1]; exact z.2, h.1.trans z.1⟩)]
      exact ⟨h, c⟩
theorem read_eq {q m len : Nat} {tx : Nat → Int32} {C D : Mem} (hC : PlOk C q len tx) (hD : MlOk D m len tx) (hf : C (q + 3) 0 = nI 1) :
    (rtE (rtR q len tx C)).2 = (qrE len (qrR m len tx D)).2 ∧ (rtR q len tx C).2.2.1 = (qrR m len tx D).2.2.1 ∧ ((rtE (rtR q len tx C)).2 = (-1) → (rtR q len tx C).2.2.2 = (qrR m len tx D).2.2.2 ∧ (rtR q len tx C).2.2.2 ≤ 14 ∧ ∃ pt, PtOk (rtR q len tx C).1 (q + 4) (rtR q len tx C).2.2.2 pt ∧ PtOkD (qrR m len tx D).1 m (rtR q len tx C).2.2.2 pt) := by
  have hlen := hC.2.1
  have h0 : PR q m len (rt0 C) (qr0 D m) := ⟨rfl, rfl, fun _ => ⟨rfl, Nat.zero_le len, rfl, Nat.le_refl 0, fun i hi => by
    have hi0 : i = 0 := Nat.le_zero.mp hi
    subst hi0
    show C (q + 3) 0 = up D (m + 5) 0 (nI 1) (m + 5) 0
    rw [hf, up_eq], fun _ => (0, 0, 0, 0, 0, 0, 0), fun i hi => absurd hi (Nat.not_lt_zero i), fun i hi => absurd hi (Nat.not_lt_zero i)⟩⟩
  obtain ⟨h1, h2⟩ := pr_loop hlen 100 (rt0 C) (qr0 D m) h0 ⟨hC, by show 0 ≤ 100; omega, by show 0 ≤ 4; omega, by show 0 ≤ 14; omega⟩ ⟨hD.wr (by omega) (by omega), by show 0 ≤ 200; omega, by show 0 ≤ 4; omega⟩ (fun _ => by show 100 ≤ 0 + 100; omega)
  have h1' : PR q m len (rtR q len tx C) (qrR m len tx D) := h1
  have h2' : ¬ ((rtR q len tx C).2.1.1 < len ∧ (rtR q len tx C).2.1.2 = (-1)) := h2
  generalize rtR q len tx C = T at h1' h2' ⊢
  generalize qrR m len tx D = U at h1' ⊢
  obtain ⟨e1, e2, e3⟩ := h1'
  have eE : (rtE T).2 = (qrE len U).2 := by
    unfold rtE qrE
    by_cases c : T.2.1.2 = (-1)
    · have c' : U.2.1.2 = (-1) := e1.symm.trans c
      have ep : T.2.1.1 = len := by
        have := (e3 c).2.1
        have : ¬ T.2.1.1 < len := fun z => h2' ⟨z, c⟩
        omega
      by_cases d : 0 < T.2.2.1
      · rw [if_pos d, if_pos ⟨c', by rw [← e2]; exact d⟩, ep]
        show (if T.2.1.2 = (-1) then nI len else T.2.1.2) = (if U.2.1.2 = (-1) then nI len else U.2.1.2)
        rw [if_pos c, if_pos c']
      · rw [if_neg d, if_neg (fun z => d (by rw [e2]; exact z.2))]
        exact e1
    · have c' : ¬ U.2.1.2 = (-1) := fun z => c (e1.trans z)
      rw [fa_bad c, ite_self, if_neg (fun z => c' z.1)]
      exact e1
  refine ⟨eE, e2, fun z => ?_⟩
  have c : T.2.1.2 = (-1) := by
    apply Classical.byContradiction
    intro c
    unfold rtE at z
    rw [fa_bad c, ite_self] at z
    exact c z
  obtain ⟨-, a2, a3, a4, -, a6⟩ := e3 c
  exact ⟨a3, by omega, a6⟩
