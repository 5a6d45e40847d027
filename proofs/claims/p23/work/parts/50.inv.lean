/-! NUMBERS, SUMS, AND WHAT HOLDS OF A STATE OF THE CLASS at any place of the memory. -/
theorem sm_c {f g : Nat → Int32} : ∀ n, (∀ i, i < n → f i = g i) → sm f n = sm g n
  | 0, _ => rfl
  | n + 1, h => by
    show sm f n + f n = sm g n + g n
    rw [sm_c n (fun i hi => h i (by omega)), h n (by omega)]
theorem sm_u {f f' : Nat → Int32} {i : Nat} : ∀ n, i < n → (∀ s, s < n → s ≠ i → f' s = f s) → sm f' n = sm f n + (f' i - f i)
  | 0, h, _ => absurd h (Nat.not_lt_zero i)
  | n + 1, h, e => by
    show sm f' n + f' n = sm f n + f n + (f' i - f i)
    by_cases hi : i = n
    · subst hi
      rw [sm_c i (fun s hs => e s (by omega) (by omega)), Int32.add_assoc, Int32.add_comm (f i), Int32.sub_add_cancel]
    · rw [sm_u n (by omega) (fun s hs => e s (by omega)), e n (by omega) (by omega), Int32.add_assoc, Int32.add_assoc, Int32.add_comm (f' i - f i)]
theorem sm_z {f : Nat → Int32} : ∀ n, (∀ i, i < n → f i = 0) → sm f n = 0
  | 0, _ => rfl
  | n + 1, h => by
    show sm f n + f n = 0
    rw [sm_z n (fun i hi => h i (by omega)), h n (by omega)]
    rfl
theorem sm2_e {a : Int32} {f : Nat → Int32} : ∀ n, sm2 a f n = a + sm f n
  | 0 => (Int32.add_zero a).symm
  | n + 1 => by
    show sm2 a f n + f n = a + (sm f n + f n)
    rw [sm2_e n, Int32.add_assoc]
def ns (f : Nat → Nat) : Nat → Nat
  | 0 => 0
  | n + 1 => ns f n + f n
theorem ns_le {f : Nat → Nat} {n m : Nat} (h : n ≤ m) : ns f n ≤ ns f m := by
  induction m with
  | zero => rw [show n = 0 by omega]; exact Nat.le_refl _
  | succ m ih =>
    by_cases e : n = m + 1
    · rw [e]; exact Nat.le_refl _
    · exact Nat.le_trans (ih (by omega)) (Nat.le_add_right _ _)
theorem ns_c {f g : Nat → Nat} : ∀ n, (∀ i, i < n → f i = g i) → ns f n = ns g n
  | 0, _ => rfl
  | n + 1, h => by
    show ns f n + f n = ns g n + g n
    rw [ns_c n (fun i hi => h i (by omega)), h n (by omega)]
theorem ns_m {f g : Nat → Nat} : ∀ n, (∀ i, i < n → f i ≤ g i) → ns f n ≤ ns g n
  | 0, _ => Nat.le_refl 0
  | n + 1, h => by
    have h1 := ns_m n (fun i hi => h i (by omega))
    have h2 := h n (by omega)
    show ns f n + f n ≤ ns g n + g n
    omega
theorem ns_b {f : Nat → Nat} {B : Nat} : ∀ n, (∀ i, i < n → f i ≤ B) → ns f n ≤ B * n
  | 0, _ => Nat.zero_le _
  | n + 1, h => by
    have h1 := ns_b n (fun i hi => h i (by omega))
    have h2 := h n (by omega)
    show ns f n + f n ≤ B * (n + 1)
    rw [Nat.mul_succ]
    omega
theorem ns_u {f f' : Nat → Nat} {i : Nat} : ∀ n, i < n → (∀ s, s < n → s ≠ i → f' s = f s) → ns f' n + f i = ns f n + f' i
  | 0, h, _ => absurd h (Nat.not_lt_zero i)
  | n + 1, h, e => by
    show ns f' n + f' n + f i = ns f n + f n + f' i
    by_cases hi : i = n
    · subst hi
      rw [ns_c i (fun s hs => e s (by omega) (by omega))]
      omega
    · have := ns_u n (by omega) (fun s hs => e s (by omega))
      have h2 := e n (by omega) (by omega)
      omega
theorem ns_1 {f : Nat → Nat} {n i : Nat} (h : i < n) : f i ≤ ns f n :=
  Nat.le_trans (Nat.le_add_left (f i) (ns f i)) (ns_le (f := f) (n := i + 1) h)
theorem sm_ns {f : Nat → Int32} {g : Nat → Nat} : ∀ n, (∀ i, i < n → f i = nI (g i)) → sm f n = nI (ns g n)
  | 0, _ => rfl
  | n + 1, h => by
    show sm f n + f n = nI (ns g n + g n)
    rw [sm_ns n (fun i hi => h i (by omega)), h n (by omega), nI_add]
theorem nI_subn {a b : Nat} (h : b ≤ a) : nI a - nI b = nI (a - b) := by
  have : nI (a - b) + nI b = nI a := by rw [nI_add]; congr 1; omega
  rw [← this]
  exact Int32.add_sub_cancel _ _
theorem nI_mul (a b : Nat) : nI a * nI b = nI (a * b) := (Int32.ofNat_mul a b).symm
theorem nI_div {a b : Nat} (ha : a < 2 ^ 31) (hb0 : 0 < b) (hb : b < 2 ^ 31) : nI a / nI b = nI (a / b) := pk_div ha hb0 hb
theorem mn_n {a b : Nat} (ha : a < 2 ^ 31) (hb : b < 2 ^ 31) : mn (nI a) (nI b) = nI (min a b) := by
  unfold mn
  by_cases h : b < a
  · rw [if_pos (nI_lt h ha), Nat.min_eq_right (by omega)]
  · rw [if_neg (nI_nlt (by omega) hb), Nat.min_eq_left (by omega)]
theorem vp4 {x : Int32} (h : vp_in x 4) : ∃ j, j < 4 ∧ x = nI j := by
  obtain ⟨h1, h2⟩ := vp_in_iff.mp h
  obtain ⟨j, hj, e⟩ := nI_of (x := x) (fun z => by
    have := Int32.lt_iff_toInt_lt.mp z
    simp at this
    omega)
  subst e
  rw [nI_toInt hj] at h2
  exact ⟨j, by omega, rfl⟩
/-- a mark: what it holds for each side -/
def okm (k : Nat) : Prop := k ≤ 999 ∨ (1001 ≤ k ∧ k ≤ 1999)
theorem bF_m {k : Nat} (hk : okm k) : bF (nI k) (nI 0) = nI (if k ≤ 999 then k else 0) ∧ bF (nI k) (nI 1) = nI (if k ≤ 999 then 0 else k - 1000) ∧ n01 (nI k) = nI (if k = 0 then 0 else 1) := by
  have H : ∀ k, k < 2000 → (k ≤ 999 ∨ 1001 ≤ k) → bF (nI k) (nI 0) = nI (if k ≤ 999 then k else 0) ∧ bF (nI k) (nI 1) = nI (if k ≤ 999 then 0 else k - 1000) ∧ n01 (nI k) = nI (if k = 0 then 0 else 1) := by decide +kernel
  unfold okm at hk
  exact H k (by omega) (by omega)
/-! TWO PLACES THAT HOLD ONE STATE. -/
def sln (i : Nat) : Nat := if i = 0 then 4 else if i ≤ 8 then 12 else if i = 9 then 1152 else if i ≤ 14 then 96 else 4
def SE (C : Mem) (q : Nat) (C' : Mem) (q' : Nat) : Prop := ∀ i j, i < 16 → j < sln i → C (q + i) j = C' (q' + i) j
theorem SE.re {C : Mem} {q : Nat} : SE C q C q := fun _ _ _ _ => rfl
theorem SE.sy {C C' : Mem} {q q' : Nat} (h : SE C q C' q') : SE C' q' C q := fun i j hi hj => (h i j hi hj).symm
theorem SE.tr {C C' C2 : Mem} {q q' q2 : Nat} (h : SE C q C' q') (h2 : SE C' q' C2 q2) : SE C q C2 q2 := fun i j hi hj => (h i j hi hj).trans (h2 i j hi hj)
theorem SE.fr {C C' : Mem} {q : Nat} (e : ∀ a, q ≤ a → a < q + 16 → C' a = C a) : SE C q C' q := fun i j hi _ => by rw [e (q + i) (by omega) (by omega)]
theorem SE.up {C C' : Mem} {q q' i j : Nat} {x x' : Int32} (h : SE C q C' q') (hx : x = x') : SE (up C (q + i) j x) q (up C' (q' + i) j x') q' := by
  intro a b ha hb
  by_cases e : a = i
  · subst e
    by_cases e2 : b = j
    · subst e2; rw [up_eq, up_eq, hx]
    · rw [up_ne2 e2, up_ne2 e2]; exact h a b ha hb
  · rw [up_ne (by omega), up_ne (by omega)]; exact h a b ha hb
section
variable {C C' : Mem} {q q' : Nat}
theorem SE.f (h : SE C q C' q') {j : Nat} (hj : j < 4) : C q j = C' q' j := h 0 j (by decide) hj
theorem SE.m (h : SE C q C' q') {p s : Nat} (hp : p < 12) (hs : s < 96) : C (q + 9) (p * 96 + s) = C' (q' + 9) (p * 96 + s) := h 9 _ (by decide) (show p * 96 + s < 1152 by omega)
theorem SE.pe (h : SE C q C' q') {i p : Nat} (h1 : 1 ≤ i) (h8 : i ≤ 8) (hp : p < 12) : C (q + i) p = C' (q' + i) p := h i p (by omega) (by unfold sln; rw [if_neg (by omega), if_pos h8]; exact hp)
theorem SE.sl (h : SE C q C' q') {i s : Nat} (h1 : 10 ≤ i) (h8 : i ≤ 14) (hs : s < 96) : C (q + i) s = C' (q' + i) s := h i s (by omega) (by unfold sln; rw [if_neg (by omega), if_neg (by omega), if_neg (by omega), if_pos h8]; exact hs)
theorem SE.fu (h : SE C q C' q') {j : Nat} (hj : j < 4) : C (q + 15) j = C' (q' + 15) j := h 15 j (by decide) hj
theorem SE.sb (h : SE C q C' q') {P s : Nat} (hP : P ≤ 12) (hs : s < 96) (sd : Int32) : sB C q P s sd = sB C' q' P s sd := sm_c P (fun p hp => congrArg (fun x => bF x sd) (h.m (by omega) hs))
theorem SE.nb (h : SE C q C' q') {P s : Nat} (hP : P ≤ 12) (hs : s < 96) : nB C q P s = nB C' q' P s := sm_c P (fun p hp => congrArg n01 (h.m (by omega) hs))
theorem SE.sg (h : SE C q C' q') {P s : Nat} (hP : P ≤ 12) (hs : s < 96) (sd : Int32) : stg C q P s sd = stg C' q' P s sd := by
  unfold stg
  rw [h.sb hP hs sd, h.sl (i := 11) (by decide) (by decide) hs]
theorem SE.ow (h : SE C q C' q') {P s : Nat} (hP : P ≤ 12) (hs : s < 96) : oT C q P s = oT C' q' P s := by
  unfold oT
  rw [h.nb hP hs, h.sg hP hs, h.sg hP hs, h.sl (i := 10) (by decide) (by decide) hs, h.sl (i := 12) (by decide) (by decide) hs]
theorem SE.wf (h : SE C q C' q') {P : Nat} (hw : Wf C q P) : Wf C' q' P := ⟨by rw [← h.f (j := 3) (by decide)]; exact hw.1, hw.2.1, fun p hp => by rw [← h.pe (i := 4) (by decide) (by decide) hp]; exact hw.2.2 p hp⟩
end
/-! THE MONEY OF BIDS, AS NUMBERS. -/
def bk (C : Mem) (q p s : Nat) (sd : Int32) : Nat := (bF (bm C q p s) sd).toInt.toNat
def amt (C : Mem) (q p s : Nat) : Nat := bk C q p s (nI 0) + bk C q p s (nI 1)
def hm (C : Mem) (q p : Nat) : Nat := ns (fun s => amt C q p s) 96
/-- what holds of a state throughout a call: all but day, purses, what is held and the number of breaches; debts up to E -/
def SB (E : Nat → Nat) (C : Mem) (q P : Nat) : Prop :=
  Wf C q P ∧
  (∀ p s, p < 12 → s < 96 → ∃ k, bm C q p s = nI k ∧ okm k) ∧
  (∀ p, P ≤ p → p < 12 → (∀ i, 1 ≤ i → i ≤ 8 → C (q + i) p = 0) ∧ ∀ s, s < 96 → bm C q p s = 0) ∧
  (∀ s, s < 96 → (C (q + 10) s = nI 0 ∨ C (q + 10) s = nI 1) ∧ (C (q + 12) s = nI 0 ∨ C (q + 12) s = nI 1) ∧ (∃ k, C (q + 11) s = nI k ∧ k ≤ 11988) ∧ ∃ k, C (q + 13) s = nI k ∧ k < 2 ^ P) ∧
  (∃ k, C q 1 = nI k ∧ k ≤ 1000) ∧
  (∀ p, p < 12 → ∃ k, C (q + 3) p = nI k ∧ k ≤ E p)
/-- purses: from F to B -/
def SP (B F : Nat → Nat) (C : Mem) (q : Nat) : Prop := ∀ p, p < 12 → ∃ k, C (q + 1) p = nI k ∧ F p ≤ k ∧ k ≤ B p
/-- a state as calls leave it, t of them that bring money -/
def SI (t : Nat) (C : Mem) (q P : Nat) : Prop :=
  SB (fun _ => 1000 * t) C q P ∧ SP (fun _ => 2000000 * t) (fun p => hm C q p) C q ∧ (∀ p, p < 12 → C (q + 2) p = nI (hm C q p)) ∧ (∃ k, C q 0 = nI k ∧ k ≤ t) ∧ C q 2 = sm (fun p => C (q + 8) p) P
section
variable {C C' : Mem} {q q' P : Nat} {E B F : Nat → Nat}
theorem SB.wf (h : SB E C q P) : Wf C q P := h.1
theorem SB.P12 (h : SB E C q P) : P ≤ 12 := h.1.2.1
theorem SB.mk (h : SB E C q P) {p s : Nat} (hp : p < 12) (hs : s < 96) : ∃ k, bm C q p s = nI k ∧ okm k := h.2.1 p s hp hs
theorem SB.st (h : SB E C q P) {p : Nat} (hp : p < 12) : ∃ j, j < 4 ∧ C (q + 4) p = nI j := vp4 (h.1.2.2 p hp)
theorem SB.own (h : SB E C q P) {s : Nat} (hs : s < 96) : C (q + 10) s = nI 0 ∨ C (q + 10) s = nI 1 := (h.2.2.2.1 s hs).1
theorem SB.tie (h : SB E C q P) {s : Nat} (hs : s < 96) : C (q + 12) s = nI 0 ∨ C (q + 12) s = nI 1 := (h.2.2.2.1 s hs).2.1
theorem SB.car (h : SB E C q P) {s : Nat} (hs : s < 96) : ∃ k, C (q + 11) s = nI k ∧ k ≤ 11988 := (h.2.2.2.1 s hs).2.2.1
theorem SB.win (h : SB E C q P) {s : Nat} (hs : s < 96) : ∃ k, C (q + 13) s = nI k ∧ k < 2 ^ P := (h.2.2.2.1 s hs).2.2.2
theorem SB.fine (h : SB E C q P) : ∃ k, C q 1 = nI k ∧ k ≤ 1000 := h.2.2.2.2.1
theorem SB.deb (h : SB E C q P) {p : Nat} (hp : p < 12) : ∃ k, C (q + 3) p = nI k ∧ k ≤ E p := h.2.2.2.2.2 p hp
theorem SB.bv (h : SB E C q P) {p s : Nat} (hp : p < 12) (hs : s < 96) (sd : Int32) : bF (bm C q p s) sd = nI (bk C q p s sd) ∧ bk C q p s sd ≤ 999 := by
  obtain ⟨k, h1, h2⟩ := h.mk hp hs
  have H : ∃ j, bF (nI k) sd = nI j ∧ j ≤ 999 := by
    by_cases e : sd = nI 1
    · subst e
      exact ⟨_, (bF_m h2).2.1, by unfold okm at h2; split <;> omega⟩
    · have : bF (nI k) sd = bF (nI k) (nI 0) := by
        unfold bF
        rw [if_neg e, if_neg (show ¬ nI 0 = nI 1 by decide)]
      rw [this]
      exact ⟨_, (bF_m h2).1, by split <;> omega⟩
  obtain ⟨j, h3, h4⟩ := H
  have e : bk C q p s sd = j := by
    unfold bk
    rw [h1, h3, nI_toInt (by omega)]
    omega
  rw [e, h1]
  exact ⟨h3, h4⟩
end
