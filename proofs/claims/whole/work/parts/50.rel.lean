/-! THE RELATION. -/
/-- what person p's bids hold, by the reference's row -/
def hld (g : Nat → Int32) (p : Nat) : Int32 := sm (fun s => aF (g (572 + 96 * p + s)) (nI 0) + aF (g (572 + 96 * p + s)) (nI 1)) 96
/-- the class's state at q shows the row g -/
def RowEq (C : Mem) (q : Nat) (g : Nat → Int32) : Prop :=
  (C q 0 = g 0 ∧ C q 1 = g 2 ∧ C q 2 = g 3 ∧ C q 3 = g 1) ∧
  (∀ p, p < 12 → C (q + 1) p = g (8 + 7 * p + 0) ∧ C (q + 3) p = g (8 + 7 * p + 1) ∧ C (q + 5) p = g (8 + 7 * p + 2) ∧ C (q + 6) p = g (8 + 7 * p + 3) ∧ C (q + 7) p = g (8 + 7 * p + 4) ∧ C (q + 8) p = g (8 + 7 * p + 5) ∧ C (q + 4) p = g (8 + 7 * p + 6)) ∧
  (∀ s, s < 96 → C (q + 10) s = g (92 + 5 * s + 0) ∧ C (q + 11) s = g (92 + 5 * s + 1) ∧ C (q + 12) s = (if g (92 + 5 * s + 2) = nI 1 then nI 1 else nI 0) ∧ C (q + 13) s = g (92 + 5 * s + 3) ∧ C (q + 14) s = g (92 + 5 * s + 4)) ∧
  (∀ j, j < 4 → C (q + 15) j = g (4 + j)) ∧
  (∀ p s, p < 12 → s < 96 → C (q + 9) (p * 96 + s) = g (572 + 96 * p + s)) ∧
  (∀ p, p < 12 → C (q + 2) p = hld g p)
/-- a row as calls leave it, t of them at most -/
def RowInv (t : Nat) (g : Nat → Int32) (P : Nat) : Prop :=
  (g 1 = nI P ∧ P ≤ 12) ∧
  (∀ p, p < 12 → vp_in (g (8 + 7 * p + 6)) 4) ∧
  (∀ p s, p < 12 → s < 96 → ∃ k : Nat, g (572 + 96 * p + s) = nI k ∧ (k ≤ 999 ∨ (1001 ≤ k ∧ k ≤ 1999))) ∧
  (∀ p, P ≤ p → p < 12 → (∀ w, w < 7 → g (8 + 7 * p + w) = 0) ∧ ∀ s, s < 96 → g (572 + 96 * p + s) = 0) ∧
  (∀ s, s < 96 → g (92 + 5 * s + 0) = nI 0 ∨ g (92 + 5 * s + 0) = nI 1) ∧
  (∀ s, s < 96 → ∃ k : Nat, g (92 + 5 * s + 1) = nI k ∧ k ≤ 11988) ∧
  (∀ s, s < 96 → ∃ k : Nat, g (92 + 5 * s + 3) = nI k ∧ k < 2 ^ P) ∧
  (∃ k : Nat, g 2 = nI k ∧ k ≤ 1000) ∧
  (∃ k : Nat, g 0 = nI k ∧ k ≤ 999) ∧
  (∀ p, p < 12 → ∃ k : Nat, g (8 + 7 * p + 1) = nI k ∧ k ≤ 1000 * t) ∧
  (∀ p, p < 12 → ∃ k j : Nat, g (8 + 7 * p + 0) = nI k ∧ k ≤ 2000000 * t ∧ hld g p = nI j ∧ j ≤ k)
theorem RowInv.P1 {t : Nat} {g : Nat → Int32} {P : Nat} (h : RowInv t g P) : g 1 = nI P := h.1.1
theorem RowInv.P12 {t : Nat} {g : Nat → Int32} {P : Nat} (h : RowInv t g P) : P ≤ 12 := h.1.2
theorem RowInv.mk {t : Nat} {g : Nat → Int32} {P : Nat} (h : RowInv t g P) {p s : Nat} (hp : p < 12) (hs : s < 96) : ∃ k : Nat, g (572 + 96 * p + s) = nI k ∧ (k ≤ 999 ∨ (1001 ≤ k ∧ k ≤ 1999)) := h.2.2.1 p s hp hs
theorem RowInv.mono {t t' : Nat} {g : Nat → Int32} {P : Nat} (h : RowInv t g P) (ht : t ≤ t') : RowInv t' g P := by
  obtain ⟨a1, a2, a3, a4, a5, a6, a7, a8, a9, a10, a11⟩ := h
  exact ⟨a1, a2, a3, a4, a5, a6, a7, a8, a9, fun p hp => by
    obtain ⟨k, h1, h2⟩ := a10 p hp
    exact ⟨k, h1, Nat.le_trans h2 (Nat.mul_le_mul_left _ ht)⟩, fun p hp => by
    obtain ⟨k, j, h1, h2, h3, h4⟩ := a11 p hp
    exact ⟨k, j, h1, Nat.le_trans h2 (Nat.mul_le_mul_left _ ht), h3, h4⟩⟩
def HisR (t : Nat) (M : Mem) (o z : Nat) : Prop := (M 33 1 = nI o ∧ o < 5) ∧ (M 33 2 = nI z ∧ M 134 2 = nI z ∧ z ≤ 5) ∧ ∀ i, i < z → ∃ P', RowEq M (35 + 16 * ((o + i) % 5)) (fun j => M 136 (1724 * i + j)) ∧ RowInv t (fun j => M 136 (1724 * i + j)) P'
def TxtR (M : Mem) (len : Nat) : Prop := M 115 1 = nI len ∧ M 134 5 = nI len ∧ len ≤ 100 ∧ ∀ p, p < len → M 116 p = M 138 p
def FaiR (M : Mem) : Prop := M 118 0 = nI 1 ∧ ((M 133 0 = 0 ∧ M 134 10 = 0) ∨ (¬ M 133 0 = 0 ∧ ¬ M 134 10 = 0 ∧ ∀ i, i < 5 → M 133 i = M 140 i))
def RelAt (t : Nat) (M : Mem) (P o z len : Nat) : Prop := (RowEq M 1 (M 135) ∧ RowInv t (M 135) P) ∧ HisR t M o z ∧ TxtR M len ∧ FaiR M
def Rel (t : Nat) (M : Mem) : Prop := ∃ P o z len, RelAt t M P o z len
theorem HisR.mono {t t' : Nat} {M : Mem} {o z : Nat} (h : HisR t M o z) (ht : t ≤ t') : HisR t' M o z := ⟨h.1, h.2.1, fun i hi => by
  obtain ⟨P', h1, h2⟩ := h.2.2 i hi
  exact ⟨P', h1, h2.mono ht⟩⟩
theorem RelAt.mono {t t' : Nat} {M : Mem} {P o z len : Nat} (h : RelAt t M P o z len) (ht : t ≤ t') : RelAt t' M P o z len := ⟨⟨h.1.1, h.1.2.mono ht⟩, h.2.1.mono ht, h.2.2⟩
theorem RowEq.wf {t : Nat} {C : Mem} {q P : Nat} {g : Nat → Int32} (h : RowEq C q g) (hi : RowInv t g P) : Wf C q P := ⟨h.1.2.2.2.trans hi.P1, hi.P12, fun p hp => by
  rw [(h.2.1 p hp).2.2.2.2.2.2]; exact hi.2.1 p hp⟩
theorem RowInv.wm {t : Nat} {D : Mem} {P : Nat} (hi : RowInv t (D 135) P) : Wm D 134 P := ⟨hi.P1, hi.P12, hi.2.1⟩
theorem RowInv.bk {t : Nat} {D : Mem} {P : Nat} (hi : RowInv t (D 135) P) : BkOk D 134 := fun p s hp hs => hi.mk hp hs
theorem RelAt.wf {t : Nat} {M : Mem} {P o z len : Nat} (h : RelAt t M P o z len) : Wf M (0 + 1) P := h.1.1.wf h.1.2
theorem RelAt.wm {t : Nat} {M : Mem} {P o z len : Nat} (h : RelAt t M P o z len) : Wm M 134 P := h.1.2.wm
theorem RelAt.up1 {t : Nat} {M : Mem} {P o z len : Nat} (h : RelAt t M P o z len) : Rel (t + 1) M := ⟨P, o, z, len, h.mono (Nat.le_succ t)⟩
/-- a call that writes nothing on either side -/
theorem Bth.q {yc yd : MI} {sh : Sh} {args : List AV} {t : Nat} {M : Mem} {P o z len : Nat} (h : RelAt t M P o z len) {r r2 : Int32} {dc dd : Nat} (hc : Calls yc dc 0 0 (.inr (some 0) :: args) sh M (some (.inl r)) sh M) (hd : Calls yd dd 0 0 (.inr (some 134) :: args) sh M (some (.inl r2)) sh M) (h1 : dc ≤ 8) (h2 : dd ≤ 8) (e : r = r2) : Bth yc yd sh Rel args t M := by
  subst e
  exact ⟨r, M, M, dc, dd, h1, h2, hc, hd, h.up1⟩
theorem frL_s {D : Mem} {m p : Nat} : ∀ n, frL D m p n = D (m + 1) (8 + 7 * p + 0) - sm (fun s => aF (dm D m p s) (nI 0) + aF (dm D m p s) (nI 1)) n
  | 0 => by show _ = _ - (0 : Int32); rw [Int32.sub_zero]; rfl
  | n + 1 => by
    show frL D m p n - _ = _ - (_ + _)
    rw [frL_s n, Int32.sub_sub]
theorem sm_c {f g : Nat → Int32} : ∀ n, (∀ i, i < n → f i = g i) → sm f n = sm g n
  | 0, _ => rfl
  | n + 1, h => by
    show sm f n + f n = sm g n + g n
    rw [sm_c n (fun i hi => h i (by omega)), h n (by omega)]
/-- a mark's amount, on both sides -/
theorem mkF {k : Nat} (hk : k ≤ 999 ∨ (1001 ≤ k ∧ k ≤ 1999)) (sd : Int32) (hsd : sd = nI 0 ∨ sd = nI 1) : bF (nI k) sd = aF (nI k) sd ∧ n01 (nI k) = p01 (nI k) := by
  have H : ∀ k, k < 2000 → (k ≤ 999 ∨ 1001 ≤ k) → (bF (nI k) (nI 0) = aF (nI k) (nI 0) ∧ bF (nI k) (nI 1) = aF (nI k) (nI 1)) ∧ n01 (nI k) = p01 (nI k) := by decide +kernel
  obtain ⟨⟨h1, h2⟩, h3⟩ := H k (by omega) (by omega)
  rcases hsd with rfl | rfl
  · exact ⟨h1, h3⟩
  · exact ⟨h2, h3⟩
section QUERY
theorem RowEq.fr {t : Nat} {M : Mem} {P : Nat} (h : RowEq M 1 (M 135)) (hi : RowInv t (M 135) P) {p : Nat} (hp : p < 12) : fM M (0 + 1) p = frL M 134 p 96 := by
  rw [frL_s]
  show M 2 p - M 3 p = _
  rw [show M 2 p = M 135 (8 + 7 * p + 0) from (h.2.1 p hp).1, show M 3 p = hld (M 135) p from h.2.2.2.2.2 p hp]
  rfl
end QUERY
