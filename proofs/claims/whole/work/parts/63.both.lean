/-! WHAT BOTH SIDES READ OF A ROW, at any state of the class; receipts. -/
theorem RB.wm {d P m : Nat} {D : Mem} (h : RB d (D (m + 1)) P) : Wm D m P := ⟨h.1.1, h.1.2, h.2.1⟩
theorem RB.bk {d P m : Nat} {D : Mem} (h : RB d (D (m + 1)) P) : BkOk D m := fun p s hp hs => h.mk hp hs
theorem RowEq.wf2 {d P q : Nat} {C : Mem} {g : Nat → Int32} (h : RowEq C q g) (hb : RB d g P) : Wf C q P := ⟨h.1.2.2.2.trans hb.1.1, hb.1.2, fun p hp => by
  rw [(h.2.1 p hp).2.2.2.2.2.2]; exact hb.2.1 p hp⟩
theorem RowEq.mk2 {d P p s q m : Nat} {C D : Mem} (h : RowEq C q (D (m + 1))) (hb : RB d (D (m + 1)) P) (hp : p < 12) (hs : s < 96) : bm C q p s = dm D m p s ∧ (∀ sd, sd = nI 0 ∨ sd = nI 1 → bF (bm C q p s) sd = aF (dm D m p s) sd) ∧ n01 (bm C q p s) = p01 (dm D m p s) := by
  have e : bm C q p s = dm D m p s := h.2.2.2.2.1 p s hp hs
  obtain ⟨k, h1, h2⟩ := hb.mk hp hs
  have e2 : dm D m p s = nI k := h1
  rw [e, e2]
  exact ⟨rfl, fun sd hsd => (mkF h2 sd hsd).1, (mkF h2 (nI 0) (Or.inl rfl)).2⟩
theorem RowEq.sb2 {d P s q m : Nat} {C D : Mem} (h : RowEq C q (D (m + 1))) (hb : RB d (D (m + 1)) P) (hs : s < 96) (sd : Int32) (hsd : sd = nI 0 ∨ sd = nI 1) : sB C q P s sd = sD D m P s sd := sm_c P (fun p hp => (h.mk2 hb (Nat.lt_of_lt_of_le hp hb.P12) hs).2.1 sd hsd)
theorem RowEq.nb2 {d P s q m : Nat} {C D : Mem} (h : RowEq C q (D (m + 1))) (hb : RB d (D (m + 1)) P) (hs : s < 96) : nB C q P s = nD D m P s := sm_c P (fun p hp => (h.mk2 hb (Nat.lt_of_lt_of_le hp hb.P12) hs).2.2)
theorem RowEq.tie2 {s q m : Nat} {C D : Mem} (h : RowEq C q (D (m + 1))) (hs : s < 96) : C (q + 12) s = tdF D m s := (h.2.2.1 s hs).2.2.1
theorem RowEq.sg2 {d P s q m : Nat} {C D : Mem} (h : RowEq C q (D (m + 1))) (hb : RB d (D (m + 1)) P) (hs : s < 96) : stg C q P s (nI 0) = qD D m P s ∧ stg C q P s (nI 1) = sD D m P s (nI 1) := by
  unfold stg qD
  rw [h.sb2 hb hs _ (Or.inl rfl), h.sb2 hb hs _ (Or.inr rfl), if_pos (by decide), if_neg (by decide), show C (q + 11) s = D (m + 1) (92 + 5 * s + 1) from (h.2.2.1 s hs).2.1]
  exact ⟨rfl, Int32.add_zero _⟩
theorem RowEq.wn2 {d P s q m : Nat} {C D : Mem} (h : RowEq C q (D (m + 1))) (hb : RB d (D (m + 1)) P) (hs : s < 96) : oT C q P s = wnF D m P s := by
  unfold oT wnF
  rw [h.nb2 hb hs, (h.sg2 hb hs).1, (h.sg2 hb hs).2, h.tie2 hs, show C (q + 10) s = D (m + 1) (92 + 5 * s + 0) from (h.2.2.1 s hs).1]
theorem wn_01 {d P s m : Nat} {D : Mem} (hb : RB d (D (m + 1)) P) (hs : s < 96) : wnF D m P s = nI 0 ∨ wnF D m P s = nI 1 := by
  unfold wnF tdF
  split
  · exact hb.2.2.2.2.1 s hs
  · split
    · split
      · exact Or.inr rfl
      · exact Or.inl rfl
    · split
      · exact Or.inl rfl
      · exact Or.inr rfl
/-- a bid for a side, as a number -/
def bk (g : Nat → Int32) (p s : Nat) (sd : Int32) : Nat := (aF (g (572 + 96 * p + s)) sd).toInt.toNat
def amt (g : Nat → Int32) (p s : Nat) : Nat := bk g p s (nI 0) + bk g p s (nI 1)
theorem bk_v {d P p s : Nat} {g : Nat → Int32} (hb : RB d g P) (hp : p < 12) (hs : s < 96) (sd : Int32) : aF (g (572 + 96 * p + s)) sd = nI (bk g p s sd) ∧ bk g p s sd ≤ 999 := by
  obtain ⟨k, h1, h2⟩ := hb.mk hp hs
  obtain ⟨j, h3, h4⟩ := aF_n (sd := sd) h1 h2
  have e : bk g p s sd = j := by
    unfold bk
    rw [h4, nI_toInt (by omega)]
    omega
  rw [e]
  exact ⟨h4, h3⟩
theorem bk_le {g : Nat → Int32} {p s : Nat} {sd : Int32} (hsd : sd = nI 0 ∨ sd = nI 1) : bk g p s sd ≤ amt g p s := by
  unfold amt
  rcases hsd with rfl | rfl <;> omega
def ns (f : Nat → Nat) : Nat → Nat
  | 0 => 0
  | n + 1 => ns f n + f n
theorem ns_le {f : Nat → Nat} {n m : Nat} (h : n ≤ m) : ns f n ≤ ns f m := by
  induction m with
  | zero => rw [show n = 0 by omega]; exact Nat.le_refl _
  | succ m ih =>
    by_cases e : n = m + 1
    · rw [e]; exact Nat.le_refl _
    · exact Nat.le_trans (ih (by omega)) (Nat.le_add_right _ _)
theorem hld_ns {d P p : Nat} {g : Nat → Int32} (hb : RB d g P) (hp : p < 12) : hld g p = nI (ns (amt g p) 96) ∧ ns (amt g p) 96 ≤ 1998 * 96 := by
  have H : ∀ n, n ≤ 96 → sm (fun s => aF (g (572 + 96 * p + s)) (nI 0) + aF (g (572 + 96 * p + s)) (nI 1)) n = nI (ns (amt g p) n) ∧ ns (amt g p) n ≤ 1998 * n := by
    intro n
    induction n with
    | zero => intro _; exact ⟨rfl, Nat.le_refl _⟩
    | succ n ih =>
      intro hn
      obtain ⟨h1, h2⟩ := ih (by omega)
      obtain ⟨a1, a2⟩ := bk_v hb hp (show n < 96 by omega) (nI 0)
      obtain ⟨b1, b2⟩ := bk_v hb hp (show n < 96 by omega) (nI 1)
      refine ⟨?_, ?_⟩
      · show sm _ n + (aF (g (572 + 96 * p + n)) (nI 0) + aF (g (572 + 96 * p + n)) (nI 1)) = nI (ns (amt g p) n + amt g p n)
        rw [h1, a1, b1, nI_add, nI_add]
        rfl
      · show ns (amt g p) n + (bk g p n (nI 0) + bk g p n (nI 1)) ≤ _
        omega
  exact H 96 (Nat.le_refl 96)
theorem bk_c {g g' : Nat → Int32} {p s : Nat} {sd : Int32} (e : g' (572 + 96 * p + s) = g (572 + 96 * p + s)) : bk g' p s sd = bk g p s sd := by
  unfold bk
  rw [e]
theorem amt_c {g g' : Nat → Int32} {p s : Nat} (e : g' (572 + 96 * p + s) = g (572 + 96 * p + s)) : amt g' p s = amt g p s := by
  unfold amt
  rw [bk_c e, bk_c e]
theorem RowInv.rp {t P : Nat} {g : Nat → Int32} (h : RowInv t g P) (ht : t ≤ 512) : RP (fun _ => 2000000 * t) (fun p => ns (amt g p) 96) g := fun p hp => by
  obtain ⟨k, j, h1, h2, h3, h4⟩ := h.2.2.2.2.2.2.2.2.2.2 p hp
  obtain ⟨h5, h6⟩ := hld_ns h.rb hp
  have e : j = ns (amt g p) 96 := (nI_eq (by omega) (by omega)).mp (h3.symm.trans h5)
  exact ⟨k, h1, h2, by show ns (amt g p) 96 ≤ k; omega⟩
/-- a receipt, as three places -/
theorem rcG_u {g : Nat → Int32} {p st : Nat} {v : Int32} (hst : st < 4) : rcG g p v st = gu (gu (gu g (8 + 7 * p + 1) (g (8 + 7 * p + 1) - (if v < g (8 + 7 * p + 1) then v else g (8 + 7 * p + 1)))) (8 + 7 * p + 0) (g (8 + 7 * p + 0) + (v - (if v < g (8 + 7 * p + 1) then v else g (8 + 7 * p + 1))))) (4 + st) (g (4 + st) + (if v < g (8 + 7 * p + 1) then v else g (8 + 7 * p + 1))) := by
  funext j
  unfold rcG
  simp only []
  by_cases h1 : j = 4 + st
  · subst h1; rw [if_pos rfl, gu_eq]
  · rw [if_neg h1, gu_ne h1]
    by_cases h2 : j = 8 + 7 * p + 0
    · subst h2; rw [if_pos rfl, gu_eq]
    · rw [if_neg h2, gu_ne h2]
      by_cases h3 : j = 8 + 7 * p + 1
      · subst h3; rw [if_pos rfl, gu_eq]
      · rw [if_neg h3, gu_ne h3]
theorem gu_sw {g : Nat → Int32} {a b : Nat} {x y : Int32} (h : a ≠ b) : gu (gu g a x) b y = gu (gu g b y) a x := by
  funext i
  by_cases h1 : i = b
  · subst h1
    rw [gu_eq, gu_ne (fun z => h z.symm), gu_eq]
  · rw [gu_ne h1]
    by_cases h2 : i = a
    · subst h2; rw [gu_eq, gu_eq]
    · rw [gu_ne h2, gu_ne h2, gu_ne h1]
theorem gu_id {g : Nat → Int32} {a : Nat} {x : Int32} (h : x = g a) : gu g a x = g := by
  funext i
  by_cases h1 : i = a
  · subst h1; rw [gu_eq, h]
  · rw [gu_ne h1]
theorem adM_g {D : Mem} {m p w : Nat} {v : Int32} : adM D m p w v (m + 1) = gu (D (m + 1)) (8 + 7 * p + w) (D (m + 1) (8 + 7 * p + w) + v) := up_gu
theorem puM_g {D : Mem} {m s w : Nat} {v : Int32} : puM D m s w v (m + 1) = gu (D (m + 1)) (92 + 5 * s + w) v := up_gu
theorem rcG_gu {g : Nat → Int32} {p st l : Nat} {v y : Int32} (hst : st < 4) (h0 : l ≠ 4 + st) (h1 : l ≠ 8 + 7 * p + 0) (h2 : l ≠ 8 + 7 * p + 1) : rcG (gu g l y) p v st = gu (rcG g p v st) l y := by
  rw [rcG_u hst, rcG_u hst, gu_ne (show 8 + 7 * p + 1 ≠ l by omega), gu_ne (show 8 + 7 * p + 0 ≠ l by omega), gu_ne (show 4 + st ≠ l by omega), gu_sw h2, gu_sw h1, gu_sw h0]
theorem rcD_g2 {D : Mem} {p st m : Nat} {v : Int32} (hst : st < 4) (hs : D (m + 1) (8 + 7 * p + 6) = nI st) : rcD D m p v (m + 1) = rcG (D (m + 1)) p v st := by
  have ix : ixN (nI 4 + nI st) = 4 + st := by rw [nI_add]; exact nI_clamp (by omega)
  unfold rcD
  rw [up_gu, adM_g, adM_g, rcG_u hst]
  rw [gu_ne (show 8 + 7 * p + 6 ≠ 8 + 7 * p + 0 by omega), gu_ne (show 8 + 7 * p + 6 ≠ 8 + 7 * p + 1 by omega), hs, ix, gu_ne (show 4 + st ≠ 8 + 7 * p + 0 by omega), gu_ne (show 4 + st ≠ 8 + 7 * p + 1 by omega), gu_ne (show 8 + 7 * p + 0 ≠ 8 + 7 * p + 1 by omega), Int32.sub_eq_add_neg (D (m + 1) (8 + 7 * p + 1))]
  rfl
theorem RowEq.rc {C : Mem} {q p st : Nat} {g : Nat → Int32} {v : Int32} (hp : p < 12) (hst : st < 4) (hs : g (8 + 7 * p + 6) = nI st) (h : RowEq C q g) : RowEq (rcv C q p v) q (rcG g p v st) := by
  obtain ⟨c1, c2, c3, c4, c5, c6, c7⟩ := h.2.1 p hp
  have c8 := h.2.2.2.1 st hst
  have et : mn (C (q + 3) p) v = (if v < g (8 + 7 * p + 1) then v else g (8 + 7 * p + 1)) := by rw [c2]; rfl
  rw [rcG_u hst]
  unfold rcv
  simp only []
  rw [et]
  generalize (if v < g (8 + 7 * p + 1) then v else g (8 + 7 * p + 1)) = t
  have ix : ixN ((up C (q + 3) p (C (q + 3) p - t)) (q + 4) p) = st := by
    rw [up_ne (by omega), c7, hs]
    exact nI_clamp (by omega)
  rw [ix, up_ne (show q + 15 ≠ q + 3 by omega), up_ne (show q + 1 ≠ q + 15 by omega), up_ne (show q + 1 ≠ q + 3 by omega), c1, c2, c8, gu_sw (show 8 + 7 * p + 0 ≠ 4 + st by omega)]
  exact ((h.w3 hp).f15 hst).w1 hp
theorem tk_min {g : Nat → Int32} {p k d : Nat} (hd : g (8 + 7 * p + 1) = nI d) (hk : k < 2 ^ 31) (hd2 : d < 2 ^ 31) : (if nI k < g (8 + 7 * p + 1) then nI k else g (8 + 7 * p + 1)) = nI (min k d) := by
  rw [hd]
  by_cases c : k < d
  · rw [if_pos (nI_lt c (by omega)), Nat.min_eq_left (by omega)]
  · rw [if_neg (nI_nlt (by omega) (by omega)), Nat.min_eq_right (by omega)]
theorem RB.rc {d P p st k : Nat} {g : Nat → Int32} (hd : d < 2 ^ 31) (hpP : p < P) (hst : st < 4) (hk : k < 2 ^ 31) (h : RB d g P) : RB d (rcG g p (nI k) st) P := by
  have hp : p < 12 := Nat.lt_of_lt_of_le hpP h.P12
  obtain ⟨e, e1, e2⟩ := h.2.2.2.2.2.2.2.2 p hp
  rw [rcG_u hst, tk_min e1 hk (by omega)]
  exact ((h.w1 hpP (Nat.le_refl d) ⟨e - min k e, by rw [e1, nI_subn (Nat.min_le_right k e)], by omega⟩).w0 hpP).f hst
theorem RP.rc {d P p st k : Nat} {g : Nat → Int32} {B B' F : Nat → Nat} (hd : d < 2 ^ 31) (hp : p < 12) (hst : st < 4) (hk : k < 2 ^ 31) (hb : RB d g P) (h : RP B F g) (hB : ∀ r, r < 12 → B r ≤ B' r) (hBp : B p + k ≤ B' p) : RP B' F (rcG g p (nI k) st) := by
  obtain ⟨e, e1, e2⟩ := hb.2.2.2.2.2.2.2.2 p hp
  rw [rcG_u hst, tk_min e1 hk (by omega)]
  refine RP.o (fun r hr => ?_) (fun r hr => by omega)
  obtain ⟨kk, k1, k2, k3⟩ := h r hr
  have := hB r hr
  by_cases hrp : r = p
  · subst hrp
    rw [gu_eq]
    refine ⟨kk + (k - min k e), ?_, by omega, by omega⟩
    rw [k1, nI_subn (Nat.min_le_left k e), nI_add]
  · rw [gu_ne (by omega), gu_ne (by omega)]
    exact ⟨kk, k1, by omega, k3⟩
theorem rcG_0 {d P p st : Nat} {g : Nat → Int32} (hd : d < 2 ^ 31) (hp : p < 12) (hst : st < 4) (hb : RB d g P) : rcG g p (nI 0) st = g := by
  obtain ⟨e, e1, e2⟩ := hb.2.2.2.2.2.2.2.2 p hp
  rw [rcG_u hst, tk_min e1 (by decide) (by omega), Nat.min_eq_left (Nat.zero_le e)]
  have e3 : nI 0 - nI 0 = 0 := by decide
  rw [gu_id (g := g) (a := 8 + 7 * p + 1) (by rw [nI_0, Int32.sub_zero]), gu_id (g := g) (a := 8 + 7 * p + 0) (by rw [e3, Int32.add_zero]), gu_id (by rw [nI_0, Int32.add_zero])]
theorem RB.st {d P p : Nat} {g : Nat → Int32} (h : RB d g P) (hp : p < 12) : ∃ j, j < 4 ∧ g (8 + 7 * p + 6) = nI j := vp4 (h.2.1 p hp)
