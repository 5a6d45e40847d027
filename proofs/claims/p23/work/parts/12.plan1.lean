/-! ===== Plan: the text and its reading ===== -/
abbrev LxS : Type := Nat × Int32
/-- a base memory, with place, failure, depth and number of parts of the plan at q -/
def PL (C : Mem) (q : Nat) (l : LxS) (de np : Nat) : Mem := fun a => if a = q then (fun j => if j = 6 then nI l.1 else if j = 4 then l.2 else if j = 5 then nI de else if j = 3 then nI np else C q j) else C a
theorem PL_po {C : Mem} {q : Nat} {l : LxS} {de np : Nat} : PL C q l de np q 6 = nI l.1 := by simp [PL]
theorem PL_fa {C : Mem} {q : Nat} {l : LxS} {de np : Nat} : PL C q l de np q 4 = l.2 := by simp [PL]
theorem PL_de {C : Mem} {q : Nat} {l : LxS} {de np : Nat} : PL C q l de np q 5 = nI de := by simp [PL]
theorem PL_np {C : Mem} {q : Nat} {l : LxS} {de np : Nat} : PL C q l de np q 3 = nI np := by simp [PL]
theorem PL_f {C : Mem} {q : Nat} {l : LxS} {de np : Nat} {j : Nat} (h : j < 3 ∨ 6 < j) : PL C q l de np q j = C q j := by
  have h1 : j ≠ 6 := by omega
  have h2 : j ≠ 4 := by omega
  have h3 : j ≠ 5 := by omega
  have h4 : j ≠ 3 := by omega
  simp [PL, h1, h2, h3, h4]
theorem PL_ne {C : Mem} {q : Nat} {l : LxS} {de np a : Nat} (h : a ≠ q) : PL C q l de np a = C a := by simp [PL, h]
theorem PL_upo {C : Mem} {q : Nat} {l : LxS} {de np x : Nat} : up (PL C q l de np) q 6 (nI x) = PL C q (x, l.2) de np := by
  funext a j
  by_cases h : a = q
  · subst h
    by_cases hj : j = 6 <;> simp [up, upd, PL, hj]
  · simp [up, PL, h]
theorem PL_ufa {C : Mem} {q : Nat} {l : LxS} {de np : Nat} {x : Int32} : up (PL C q l de np) q 4 x = PL C q (l.1, x) de np := by
  funext a j
  by_cases h : a = q
  · subst h
    by_cases hj : j = 4
    · simp [up, upd, PL, hj]
    · simp [up, upd, PL, hj]
  · simp [up, PL, h]
theorem PL_ude {C : Mem} {q : Nat} {l : LxS} {de np x : Nat} : up (PL C q l de np) q 5 (nI x) = PL C q l x np := by
  funext a j
  by_cases h : a = q
  · subst h
    by_cases hj : j = 5
    · simp [up, upd, PL, hj]
    · simp [up, upd, PL, hj]
  · simp [up, PL, h]
theorem PL_unp {C : Mem} {q : Nat} {l : LxS} {de np x : Nat} : up (PL C q l de np) q 3 (nI x) = PL C q l de x := by
  funext a j
  by_cases h : a = q
  · subst h
    by_cases hj : j = 3
    · simp [up, upd, PL, hj]
    · simp [up, upd, PL, hj]
  · simp [up, PL, h]
theorem PL_up {C : Mem} {q : Nat} {l : LxS} {de np a j : Nat} {x : Int32} (h : a ≠ q) : up (PL C q l de np) a j x = PL (up C a j x) q l de np := by
  funext b i
  by_cases hb : b = a
  · subst hb
    simp [up, upd, PL, h]
  · by_cases hq : b = q
    · subst hq
      simp [up, PL, hb]
    · simp [up, PL, hb, hq]
/-- the text: its length, its signs -/
def PlOk (C : Mem) (q len : Nat) (tx : Nat → Int32) : Prop := C q 1 = nI len ∧ len ≤ 100 ∧ ∀ p, p < len → C (q + 1) p = tx p
theorem PlOk.wr {C : Mem} {q len a j : Nat} {tx : Nat → Int32} {x : Int32} (h : PlOk C q len tx) (h1 : q ≠ a) (h2 : q + 1 ≠ a) : PlOk (up C a j x) q len tx := ⟨by rw [up_ne h1]; exact h.1, h.2.1, by rw [up_ne h2]; exact h.2.2⟩
def gF (len : Nat) (tx : Nat → Int32) (p : Nat) : Int32 := if p < len then tx p else nI 0
theorem gF_lt {len : Nat} {tx : Nat → Int32} {p : Nat} {w : Int32} (h : gF len tx p = w) (hw : w ≠ nI 0) : p < len := by
  unfold gF at h
  by_cases hp : p < len
  · exact hp
  · rw [if_neg hp] at h
    exact absurd h.symm hw
abbrev isD (x : Int32) : Prop := nI 48 ≤ x ∧ x ≤ nI 57
abbrev lTI (g : Nat → Int32) (w : Int32) (l : LxS) : Prop := l.2 = (-1) ∧ g l.1 = w
def lTIs (g : Nat → Int32) (w : Int32) (l : LxS) : LxS := (if lTI g w l then l.1 + 1 else l.1, l.2)
def lFA (x : Int32) (l : LxS) : LxS := (l.1, if l.2 = (-1) then x else l.2)
def lTK (g : Nat → Int32) (w : Int32) (l : LxS) : LxS := (if lTI g w l then l.1 + 1 else l.1, if lTI g w l then l.2 else if l.2 = (-1) then nI l.1 else l.2)
def lSK (l : LxS) : LxS := (if l.2 = (-1) then l.1 + 1 else l.1, l.2)
abbrev isSt (x : Int32) : Prop := nI 0 ≤ x ∧ x ≤ nI 3
def lTS (g : Nat → Int32) (l : LxS) : LxS := lSK (if isSt (g l.1 - nI 48) then l else lFA (nI l.1) l)
theorem lTIs_le {len : Nat} {tx : Nat → Int32} {w : Int32} {l : LxS} (hl : l.1 ≤ 100) (hlen : len ≤ 100) (hw : w ≠ nI 0) : (lTIs (gF len tx) w l).1 ≤ 100 := by
  show (if lTI _ _ _ then _ else _) ≤ 100
  split
  · rename_i h
    have := gF_lt h.2 hw
    omega
  · exact hl
theorem lTK_le {len : Nat} {tx : Nat → Int32} {w : Int32} {l : LxS} (hl : l.1 ≤ 100) (hlen : len ≤ 100) (hw : w ≠ nI 0) : (lTK (gF len tx) w l).1 ≤ 100 := by
  show (if lTI _ _ _ then _ else _) ≤ 100
  split
  · rename_i h
    have := gF_lt h.2 hw
    omega
  · exact hl
theorem nI_ne_m1 {n : Nat} (h : n < 2 ^ 31) : nI n ≠ (-1) := fun z => by
  have h1 := nI_pos (n := n) h
  rw [z] at h1
  exact h1 (by decide)
theorem chn {n : Nat} (h : (Nat.ble 1 n && Nat.ble n 1000) = true) : nI n ≠ nI 0 := by
  simp only [Bool.and_eq_true, Nat.ble_eq] at h
  exact fun z => absurd ((nI_eq (by omega) (by decide)).mp z) (by omega)
theorem lFA_ok {n : Nat} {l : LxS} (h : n < 2 ^ 31) : (lFA (nI n) l).2 ≠ (-1) := by
  show (if l.2 = (-1) then nI n else l.2) ≠ _
  split
  · exact nI_ne_m1 h
  · assumption
theorem gF_st {len : Nat} {tx : Nat → Int32} {p : Nat} (h : isSt (gF len tx p - nI 48)) : p < len := by
  by_cases hp : p < len
  · exact hp
  · unfold gF at h
    rw [if_neg hp] at h
    exact absurd h.1 (by decide)
theorem lTS_le {len : Nat} {tx : Nat → Int32} {l : LxS} (hl : l.1 ≤ 100) (hlen : len ≤ 100) : (lTS (gF len tx) l).1 ≤ 100 := by
  unfold lTS
  by_cases h : isSt (gF len tx l.1 - nI 48)
  · rw [if_pos h]
    have := gF_st h
    show (if l.2 = (-1) then l.1 + 1 else l.1) ≤ 100
    split <;> omega
  · rw [if_neg h]
    show (if (lFA (nI l.1) l).2 = (-1) then _ else _) ≤ 100
    rw [if_neg (lFA_ok (by omega))]
    exact hl
def bI (b : Bool) : Int32 := if b = true then nI 1 else nI 0
theorem bI_0 {b : Bool} : bI b = 0 ↔ ¬ b = true := by cases b <;> decide
def tnL (g : Nat → Int32) (fa : Int32) : Nat → Nat → Int32 → Bool → Nat × Int32
  | 0, po, num, _ => (po, num)
  | n + 1, po, num, go => if go = true ∧ isD (g po) then tnL g fa n (if fa = (-1) then po + 1 else po) (num * nI 10 + g po - nI 48) (decide (0 < num * nI 10 + g po - nI 48)) else (po, num)
def tnF (g : Nat → Int32) (lo hi : Int32) (l : LxS) : LxS × Int32 :=
  let r := tnL g l.2 3 l.1 (nI 0) true
  let f1 := if r.1 = l.1 ∨ isD (g r.1) then (if l.2 = (-1) then nI r.1 else l.2) else l.2
  let f2 := if lo ≤ r.2 ∧ r.2 ≤ hi then f1 else (if f1 = (-1) then nI l.1 else f1)
  ((r.1, f2), r.2)
theorem gF_isD {len : Nat} {tx : Nat → Int32} {p : Nat} (h : isD (gF len tx p)) : p < len := by
  by_cases hp : p < len
  · exact hp
  · unfold gF at h
    rw [if_neg hp] at h
    exact absurd h.1 (by decide)
theorem tnL_le {len : Nat} {tx : Nat → Int32} {fa : Int32} (hlen : len ≤ 100) : ∀ (n po : Nat) (num : Int32) (go : Bool), po ≤ 100 → (tnL (gF len tx) fa n po num go).1 ≤ 100
  | 0, po, num, go, h => h
  | n + 1, po, num, go, h => by
    unfold tnL
    split
    · rename_i h1
      have := gF_isD h1.2
      exact tnL_le hlen n _ _ _ (by split <;> omega)
    · exact h
theorem tnF_le {len : Nat} {tx : Nat → Int32} {lo hi : Int32} {l : LxS} (hl : l.1 ≤ 100) (hlen : len ≤ 100) : (tnF (gF len tx) lo hi l).1.1 ≤ 100 := tnL_le hlen 3 l.1 (nI 0) true hl
set_option maxRecDepth 100000 in
set_option maxHeartbeats 4000000 in
theorem c_X2_hasFailed {sh : Sh} {C : Mem} {q len : Nat} {tx : Nat → Int32} {l : LxS} {de np : Nat} (hq : IsPl sh q) (hC : PlOk C q len tx) (hl : l.1 ≤ 100)  : Calls mX2_hasFailed 0 0 0 [.inr (some (q))] sh (PL C q l de np) (some (.inl (b01c (¬ l.2 = (-1))))) sh (PL (C) q (l) (de) (np)) := by
  refine Calls.of plX2 (Nat.le_of_ble_eq_true rfl) ?_
  have h100 := hC.2.1
  show WP mX2_hasFailed 0 0 0 0 [some (.inr (some (q)))] [] sh (PL C q l de np) (some (.inl (b01c (¬ l.2 = (-1))))) sh (PL (C) q (l) (de) (np))
  refine zw_aload_n dX2_hasFailed_0 rfl ?_
  refine zw_getIv (j := 4) (kd := 2) (v := ((l).2)) dX2_hasFailed_1 hq.i hq.k (by decide) (by decide) fl_X2_21 rfl PL_fa ?_
  refine zw_iconst (v := (-1)) dX2_hasFailed_4 (by decide) ?_
  refine zw_icmp_eq (tgt := 12) dX2_hasFailed_5 (by decide) (fun c5 => ?_) (fun c5 => ?_)
  · refine zw_iconst (v := nI 0) dX2_hasFailed_12 (by decide) ?_
    exact zw_zretE dX2_hasFailed_13 rfl (Or.inl rfl) (by rw [b01c_f (fun z => z c5)]) rfl (rfl)
  · refine zw_iconst (v := nI 1) dX2_hasFailed_8 (by decide) ?_
    refine zw_goto (tgt := 13) dX2_hasFailed_9 (by decide) ?_
    exact zw_zretE dX2_hasFailed_13 rfl (Or.inr rfl) (by rw [b01c_t c5]) rfl (rfl)
set_option maxRecDepth 100000 in
set_option maxHeartbeats 4000000 in
theorem c_X2_sign {sh : Sh} {C : Mem} {q len : Nat} {tx : Nat → Int32} {l : LxS} {de np : Nat} (hq : IsPl sh q) (hC : PlOk C q len tx) (hl : l.1 ≤ 100)  : Calls mX2_sign 0 0 0 [.inr (some (q))] sh (PL C q l de np) (some (.inl ((gF len tx) l.1))) sh (PL (C) q (l) (de) (np)) := by
  refine Calls.of plX2 (Nat.le_of_ble_eq_true rfl) ?_
  have h100 := hC.2.1
  show WP mX2_sign 0 0 0 0 [some (.inr (some (q)))] [] sh (PL C q l de np) (some (.inl ((gF len tx) l.1))) sh (PL (C) q (l) (de) (np))
  refine zw_aload_n dX2_sign_0 rfl ?_
  refine zw_getIv (j := 6) (kd := 2) (v := (nI ((l).1))) dX2_sign_1 hq.i hq.k (by decide) (by decide) fl_X2_29 rfl PL_po ?_
  refine zw_aload_n dX2_sign_4 rfl ?_
  refine zw_getIv (j := 1) (kd := 2) (v := (nI (len))) dX2_sign_5 hq.i hq.k (by decide) (by decide) fl_X2_38 rfl ((PL_f (by decide)).trans hC.1) ?_
  refine zw_icmp_ge_n (tgt := 23) dX2_sign_8 (by decide) (by omega) (by omega) (fun c8 => ?_) (fun c8 => ?_)
  · refine zw_iconst (v := nI 0) dX2_sign_23 (by decide) ?_
    exact zw_iretE dX2_sign_24 rfl (by simp only [gF]; rw [if_neg (by omega)]) rfl (rfl)
  · refine zw_aload_n dX2_sign_11 rfl ?_
    refine zw_getR (j := 0) (kd := 2) dX2_sign_12 hq.i hq.k (by decide) (by decide) fl_X2_9 rfl hq.r0 ?_
    refine zw_aload_n dX2_sign_15 rfl ?_
    refine zw_getIv (j := 6) (kd := 2) (v := (nI ((l).1))) dX2_sign_16 hq.i hq.k (by decide) (by decide) fl_X2_29 rfl PL_po ?_
    refine zw_iald dX2_sign_19 hq.i0 hq.k0 hq.L0 rfl (by rw [hq.n0]; omega) ?_
    refine zw_goto (tgt := 24) dX2_sign_20 (by decide) ?_
    exact zw_iretE dX2_sign_24 rfl (by simp only [gF]; rw [if_pos c8, ← hC.2.2 _ c8, PL_ne (by omega)]) rfl (rfl)
set_option maxRecDepth 100000 in
set_option maxHeartbeats 1000000 in
theorem c_X2_isDigit {sh : Sh} {C : Mem} (v : Int32) : Calls mX2_isDigit 1 0 0 [.inl (v)] sh C (some (.inl (b01 (isD v)))) sh (C) := by
  refine Calls.of plX2 (Nat.le_of_ble_eq_true rfl) ?_
  show WP mX2_isDigit 1 0 0 0 [some (.inl (v))] [] sh (C) (some (.inl (b01 (isD v)))) sh (C)
  refine zw_iload_n dX2_isDigit_0 rfl ?_
  refine zw_bipush (v := nI 48) dX2_isDigit_1 (by decide) ?_
  refine zw_bipush (v := nI 57) dX2_isDigit_3 (by decide) ?_
  refine zw_cNi dX2_isDigit_5 (c_X4_isWithin _ _ _) rfl okX4_isWithin nl_X2_109 (Nat.le_of_ble_eq_true rfl) (Nat.le_of_ble_eq_true rfl) ?_
  exact zw_zretE dX2_isDigit_8 rfl b01_01 (rfl) rfl (rfl)
set_option maxRecDepth 100000 in
set_option maxHeartbeats 4000000 in
theorem c_X2_failAt {sh : Sh} {C : Mem} {q len : Nat} {tx : Nat → Int32} {l : LxS} {de np : Nat} (hq : IsPl sh q) (hC : PlOk C q len tx) (hl : l.1 ≤ 100) (x : Int32) : Calls mX2_failAt 1 0 0 [.inr (some (q)), .inl (x)] sh (PL C q l de np) (none) sh (PL (C) q (lFA x l) (de) (np)) := by
  refine Calls.of plX2 (Nat.le_of_ble_eq_true rfl) ?_
  have h100 := hC.2.1
  show WP mX2_failAt 1 0 0 0 [some (.inr (some (q))), some (.inl (x))] [] sh (PL C q l de np) (none) sh (PL (C) q (lFA x l) (de) (np))
  refine zw_aload_n dX2_failAt_0 rfl ?_
  refine zw_cVi dX2_failAt_1 (c_X2_hasFailed hq hC hl) rfl okX2_hasFailed ml_X2_41 hq.i hq.k (by decide) rfl (Nat.le_of_ble_eq_true rfl) (Nat.le_of_ble_eq_true rfl) ?_
  refine zw_if_ne_c (tgt := 12) dX2_failAt_4 (by decide) (fun c4 => ?_) (fun c4 => ?_)
  · exact zw_vretE dX2_failAt_12 rfl rfl rfl (by simp only [lFA]; rw [if_neg c4])
  · refine zw_aload_n dX2_failAt_7 rfl ?_
    refine zw_iload_n dX2_failAt_8 rfl ?_
    refine zw_putI (j := 4) (kd := 2) dX2_failAt_9 hq.i hq.k (by decide) (by decide) fl_X2_21 rfl rfl rfl ?_
    exact zw_vretE dX2_failAt_12 rfl rfl rfl (by rw [PL_ufa]; simp only [lFA]; rw [if_pos (Classical.not_not.mp c4)])
set_option maxRecDepth 100000 in
set_option maxHeartbeats 4000000 in
theorem c_X2_skip {sh : Sh} {C : Mem} {q len : Nat} {tx : Nat → Int32} {l : LxS} {de np : Nat} (hq : IsPl sh q) (hC : PlOk C q len tx) (hl : l.1 ≤ 100)  : Calls mX2_skip 1 0 0 [.inr (some (q))] sh (PL C q l de np) (none) sh (PL (C) q (lSK l) (de) (np)) := by
  refine Calls.of plX2 (Nat.le_of_ble_eq_true rfl) ?_
  have h100 := hC.2.1
  show WP mX2_skip 1 0 0 0 [some (.inr (some (q)))] [] sh (PL C q l de np) (none) sh (PL (C) q (lSK l) (de) (np))
  refine zw_aload_n dX2_skip_0 rfl ?_
  refine zw_cVi dX2_skip_1 (c_X2_hasFailed hq hC hl) rfl okX2_hasFailed ml_X2_41 hq.i hq.k (by decide) rfl (Nat.le_of_ble_eq_true rfl) (Nat.le_of_ble_eq_true rfl) ?_
  refine zw_if_ne_c (tgt := 17) dX2_skip_4 (by decide) (fun c4 => ?_) (fun c4 => ?_)
  · exact zw_vretE dX2_skip_17 rfl rfl rfl (by simp only [lSK]; rw [if_neg c4])
  · refine zw_aload_n dX2_skip_7 rfl ?_
    refine zw_dup dX2_skip_8 ?_
    refine zw_getIv (j := 6) (kd := 2) (v := (nI ((l).1))) dX2_skip_9 hq.i hq.k (by decide) (by decide) fl_X2_29 rfl PL_po ?_
    refine zw_iconst (v := nI 1) dX2_skip_12 (by decide) ?_
    refine zw_iaddn dX2_skip_13 ?_
    refine zw_putI (j := 6) (kd := 2) dX2_skip_14 hq.i hq.k (by decide) (by decide) fl_X2_29 rfl rfl rfl ?_
    exact zw_vretE dX2_skip_17 rfl rfl rfl (by rw [PL_upo]; simp only [lSK]; rw [if_pos (Classical.not_not.mp c4)])
set_option maxRecDepth 100000 in
set_option maxHeartbeats 4000000 in
theorem c_X2_takeIf {sh : Sh} {C : Mem} {q len : Nat} {tx : Nat → Int32} {l : LxS} {de np : Nat} (hq : IsPl sh q) (hC : PlOk C q len tx) (hl : l.1 ≤ 100) (c : Int32) : Calls mX2_takeIf 1 0 0 [.inr (some (q)), .inl (c)] sh (PL C q l de np) (some (.inl (b01c (lTI (gF len tx) c l)))) sh (PL (C) q (lTIs (gF len tx) c l) (de) (np)) := by
  refine Calls.of plX2 (Nat.le_of_ble_eq_true rfl) ?_
  have h100 := hC.2.1
  show WP mX2_takeIf 1 0 0 0 [some (.inr (some (q))), some (.inl (c)), none] [] sh (PL C q l de np) (some (.inl (b01c (lTI (gF len tx) c l)))) sh (PL (C) q (lTIs (gF len tx) c l) (de) (np))
  refine zw_aload_n dX2_takeIf_0 rfl ?_
  refine zw_cVi dX2_takeIf_1 (c_X2_hasFailed hq hC hl) rfl okX2_hasFailed ml_X2_41 hq.i hq.k (by decide) rfl (Nat.le_of_ble_eq_true rfl) (Nat.le_of_ble_eq_true rfl) ?_
  refine zw_if_ne_c (tgt := 19) dX2_takeIf_4 (by decide) (fun c4 => ?_) (fun c4 => ?_)
  · refine zw_iconst (v := nI 0) dX2_takeIf_19 (by decide) ?_
    refine zw_istore_n dX2_takeIf_20 (by decide) ?_
    refine zw_iload_n dX2_takeIf_21 rfl ?_
    refine zw_if_eq_n (tgt := 35) dX2_takeIf_22 (by decide) (by omega) (fun c22 => ?_) (fun c22 => by omega)
    refine zw_iload_n dX2_takeIf_35 rfl ?_
    exact zw_zretE dX2_takeIf_36 rfl (Or.inl rfl) (by rw [b01c_f (fun z => c4 z.1)]) rfl (by simp only [lTIs]; rw [if_neg (fun z => c4 z.1)])
  · refine zw_aload_n dX2_takeIf_7 rfl ?_
    refine zw_cVi dX2_takeIf_8 (c_X2_sign hq hC hl) rfl okX2_sign ml_X2_52 hq.i hq.k (by decide) rfl (Nat.le_of_ble_eq_true rfl) (Nat.le_of_ble_eq_true rfl) ?_
    refine zw_iload_n dX2_takeIf_11 rfl ?_
    refine zw_icmp_ne (tgt := 19) dX2_takeIf_12 (by decide) (fun c12 => ?_) (fun c12 => ?_)
    · refine zw_iconst (v := nI 0) dX2_takeIf_19 (by decide) ?_
      refine zw_istore_n dX2_takeIf_20 (by decide) ?_
      refine zw_iload_n dX2_takeIf_21 rfl ?_
      refine zw_if_eq_n (tgt := 35) dX2_takeIf_22 (by decide) (by omega) (fun c22 => ?_) (fun c22 => by omega)
      refine zw_iload_n dX2_takeIf_35 rfl ?_
      exact zw_zretE dX2_takeIf_36 rfl (Or.inl rfl) (by rw [b01c_f (fun z => c12 z.2)]) rfl (by simp only [lTIs]; rw [if_neg (fun z => c12 z.2)])
    · refine zw_iconst (v := nI 1) dX2_takeIf_15 (by decide) ?_
      refine zw_goto (tgt := 20) dX2_takeIf_16 (by decide) ?_
      refine zw_istore_n dX2_takeIf_20 (by decide) ?_
      refine zw_iload_n dX2_takeIf_21 rfl ?_
      refine zw_if_eq_n (tgt := 35) dX2_takeIf_22 (by decide) (by omega) (fun c22 => by omega) (fun c22 => ?_)
      refine zw_aload_n dX2_takeIf_25 rfl ?_
      refine zw_dup dX2_takeIf_26 ?_
      refine zw_getIv (j := 6) (kd := 2) (v := (nI ((l).1))) dX2_takeIf_27 hq.i hq.k (by decide) (by decide) fl_X2_29 rfl PL_po ?_
      refine zw_iconst (v := nI 1) dX2_takeIf_30 (by decide) ?_
      refine zw_iaddn dX2_takeIf_31 ?_
      refine zw_putI (j := 6) (kd := 2) dX2_takeIf_32 hq.i hq.k (by decide) (by decide) fl_X2_29 rfl rfl rfl ?_
      refine zw_iload_n dX2_takeIf_35 rfl ?_
      exact zw_zretE dX2_takeIf_36 rfl (Or.inr rfl) (by rw [b01c_t ⟨Classical.not_not.mp c4, c12⟩]) rfl (by rw [PL_upo]; simp only [lTIs]; rw [if_pos ⟨Classical.not_not.mp c4, c12⟩])
set_option maxRecDepth 100000 in
set_option maxHeartbeats 4000000 in
theorem c_X2_take {sh : Sh} {C : Mem} {q len : Nat} {tx : Nat → Int32} {l : LxS} {de np : Nat} (hq : IsPl sh q) (hC : PlOk C q len tx) (hl : l.1 ≤ 100) (c : Int32) (hc0 : c ≠ nI 0) : Calls mX2_take 2 0 0 [.inr (some (q)), .inl (c)] sh (PL C q l de np) (none) sh (PL (C) q (lTK (gF len tx) c l) (de) (np)) := by
  refine Calls.of plX2 (Nat.le_of_ble_eq_true rfl) ?_
  have h100 := hC.2.1
  show WP mX2_take 2 0 0 0 [some (.inr (some (q))), some (.inl (c))] [] sh (PL C q l de np) (none) sh (PL (C) q (lTK (gF len tx) c l) (de) (np))
  refine zw_aload_n dX2_take_0 rfl ?_
  refine zw_iload_n dX2_take_1 rfl ?_
  refine zw_cVi dX2_take_2 (c_X2_takeIf hq hC hl _) rfl okX2_takeIf ml_X2_77 hq.i hq.k (by decide) rfl (Nat.le_of_ble_eq_true rfl) (Nat.le_of_ble_eq_true rfl) ?_
  refine zw_if_ne_c (tgt := 16) dX2_take_5 (by decide) (fun c5 => ?_) (fun c5 => ?_)
  · exact zw_vretE dX2_take_16 rfl rfl rfl (by simp only [lTK, lTIs, lFA]; rw [if_pos c5, if_pos c5] <;> rfl)
  · refine zw_aload_n dX2_take_8 rfl ?_
    refine zw_aload_n dX2_take_9 rfl ?_
    refine zw_getIv (j := 6) (kd := 2) (v := (nI ((lTIs (gF len tx) ((c)) (l)).1))) dX2_take_10 hq.i hq.k (by decide) (by decide) fl_X2_29 rfl PL_po ?_
    refine zw_cVv dX2_take_13 (c_X2_failAt hq hC (lTIs_le hl h100 hc0) _) rfl okX2_failAt ml_X2_48 hq.i hq.k (by decide) rfl (Nat.le_of_ble_eq_true rfl) (Nat.le_of_ble_eq_true rfl) ?_
    exact zw_vretE dX2_take_16 rfl rfl rfl (by simp only [lTK, lTIs, lFA]; rw [if_neg c5, if_neg c5] <;> rfl)
set_option maxRecDepth 100000 in
set_option maxHeartbeats 4000000 in
theorem c_X2_takeStreet {sh : Sh} {C : Mem} {q len : Nat} {tx : Nat → Int32} {l : LxS} {de np : Nat} (hq : IsPl sh q) (hC : PlOk C q len tx) (hl : l.1 ≤ 100)  : Calls mX2_takeStreet 2 0 0 [.inr (some (q))] sh (PL C q l de np) (some (.inl ((gF len tx) l.1 - nI 48))) sh (PL (C) q (lTS (gF len tx) l) (de) (np)) := by
  refine Calls.of plX2 (Nat.le_of_ble_eq_true rfl) ?_
  have h100 := hC.2.1
  show WP mX2_takeStreet 2 0 0 0 [some (.inr (some (q))), none] [] sh (PL C q l de np) (some (.inl ((gF len tx) l.1 - nI 48))) sh (PL (C) q (lTS (gF len tx) l) (de) (np))
  refine zw_aload_n dX2_takeStreet_0 rfl ?_
  refine zw_cVi dX2_takeStreet_1 (c_X2_sign hq hC hl) rfl okX2_sign ml_X2_52 hq.i hq.k (by decide) rfl (Nat.le_of_ble_eq_true rfl) (Nat.le_of_ble_eq_true rfl) ?_
  refine zw_bipush (v := nI 48) dX2_takeStreet_4 (by decide) ?_
  refine zw_isub dX2_takeStreet_6 ?_
  refine zw_istore_n dX2_takeStreet_7 (by decide) ?_
  refine zw_iload_n dX2_takeStreet_8 rfl ?_
  refine zw_cNi dX2_takeStreet_9 (c_X4_isStreet _) rfl okX4_isStreet nl_X2_103 (Nat.le_of_ble_eq_true rfl) (Nat.le_of_ble_eq_true rfl) ?_
  refine zw_if_ne_b (tgt := 23) dX2_takeStreet_12 (by decide) (fun c12 => ?_) (fun c12 => ?_)
  · refine zw_aload_n dX2_takeStreet_23 rfl ?_
    refine zw_cVv dX2_takeStreet_24 (c_X2_skip hq hC hl) rfl okX2_skip ml_X2_106 hq.i hq.k (by decide) rfl (Nat.le_of_ble_eq_true rfl) (Nat.le_of_ble_eq_true rfl) ?_
    refine zw_iload_n dX2_takeStreet_27 rfl ?_
    exact zw_iretE dX2_takeStreet_28 rfl (rfl) rfl (by simp only [lTS]; rw [if_pos c12])
  · refine zw_aload_n dX2_takeStreet_15 rfl ?_
    refine zw_aload_n dX2_takeStreet_16 rfl ?_
    refine zw_getIv (j := 6) (kd := 2) (v := (nI ((l).1))) dX2_takeStreet_17 hq.i hq.k (by decide) (by decide) fl_X2_29 rfl PL_po ?_
    refine zw_cVv dX2_takeStreet_20 (c_X2_failAt hq hC hl _) rfl okX2_failAt ml_X2_48 hq.i hq.k (by decide) rfl (Nat.le_of_ble_eq_true rfl) (Nat.le_of_ble_eq_true rfl) ?_
    refine zw_aload_n dX2_takeStreet_23 rfl ?_
    refine zw_cVv dX2_takeStreet_24 (c_X2_skip hq hC (show (lFA ((nI ((l).1))) (l)).1 ≤ 100 from hl)) rfl okX2_skip ml_X2_106 hq.i hq.k (by decide) rfl (Nat.le_of_ble_eq_true rfl) (Nat.le_of_ble_eq_true rfl) ?_
    refine zw_iload_n dX2_takeStreet_27 rfl ?_
    exact zw_iretE dX2_takeStreet_28 rfl (rfl) rfl (by simp only [lTS]; rw [if_neg c12])
set_option maxRecDepth 100000 in
set_option maxHeartbeats 4000000 in
theorem c_X2_takeNumber {sh : Sh} {C : Mem} {q len : Nat} {tx : Nat → Int32} {l : LxS} {de np : Nat} (hq : IsPl sh q) (hC : PlOk C q len tx) (hl : l.1 ≤ 100) (lo hi : Int32) : Calls mX2_takeNumber 2 0 0 [.inr (some (q)), .inl (lo), .inl (hi)] sh (PL C q l de np) (some (.inl (tnF (gF len tx) lo hi l).2)) sh (PL (C) q ((tnF (gF len tx) lo hi l).1) (de) (np)) := by
  refine Calls.of plX2 (Nat.le_of_ble_eq_true rfl) ?_
  have h100 := hC.2.1
  show WP mX2_takeNumber 2 0 0 0 [some (.inr (some (q))), some (.inl (lo)), some (.inl (hi)), none, none, none, none, none] [] sh (PL C q l de np) (some (.inl (tnF (gF len tx) lo hi l).2)) sh (PL (C) q ((tnF (gF len tx) lo hi l).1) (de) (np))
  refine zw_aload_n dX2_takeNumber_0 rfl ?_
  refine zw_getIv (j := 6) (kd := 2) (v := (nI ((l).1))) dX2_takeNumber_1 hq.i hq.k (by decide) (by decide) fl_X2_29 rfl PL_po ?_
  refine zw_istore_n dX2_takeNumber_4 (by decide) ?_
  refine zw_iconst (v := nI 0) dX2_takeNumber_5 (by decide) ?_
  refine zw_istore dX2_takeNumber_6 (by decide) ?_
  refine zw_iconst (v := nI 1) dX2_takeNumber_8 (by decide) ?_
  refine zw_istore dX2_takeNumber_9 (by decide) ?_
  refine zw_iconst (v := nI 0) dX2_takeNumber_11 (by decide) ?_
  refine zw_istore dX2_takeNumber_12 (by decide) ?_
  have J72 : ∀ (po : Nat) (num : Int32), po ≤ 100 → (tnL (gF len tx) l.2 3 l.1 (nI 0) true) = (po, num) → WP mX2_takeNumber 2 0 0 72 [some (.inr (some (q))), some (.inl (lo)), some (.inl (hi)), some (.inl (nI (l.1))), some (.inl (num)), none, none, none] [] sh (PL C q (po, l.2) de np) (some (.inl (tnF (gF len tx) lo hi l).2)) sh (PL (C) q ((tnF (gF len tx) lo hi l).1) (de) (np)) := by
    intro po num hp hx
    refine zw_aload_n dX2_takeNumber_72 rfl ?_
    refine zw_getIv (j := 6) (kd := 2) (v := (nI (((po, l.2)).1))) dX2_takeNumber_73 hq.i hq.k (by decide) (by decide) fl_X2_29 rfl PL_po ?_
    refine zw_iload_n dX2_takeNumber_76 rfl ?_
    refine zw_icmp_ne_n (tgt := 84) dX2_takeNumber_77 (by decide) (by omega) (by omega) (fun c77 => ?_) (fun c77 => ?_)
    · refine zw_iconst (v := nI 0) dX2_takeNumber_84 (by decide) ?_
      refine zw_istore dX2_takeNumber_85 (by decide) ?_
      refine zw_aload_n dX2_takeNumber_87 rfl ?_
      refine zw_cVi dX2_takeNumber_88 (c_X2_sign hq hC hp) rfl okX2_sign ml_X2_52 hq.i hq.k (by decide) rfl (Nat.le_of_ble_eq_true rfl) (Nat.le_of_ble_eq_true rfl) ?_
      refine zw_cSi dX2_takeNumber_91 (c_X2_isDigit _) rfl okX2_isDigit ml_X2_62 (Nat.le_of_ble_eq_true rfl) (Nat.le_of_ble_eq_true rfl) ?_
      refine zw_istore dX2_takeNumber_94 (by decide) ?_
      refine zw_iload dX2_takeNumber_96 rfl ?_
      refine zw_if_ne_n (tgt := 106) dX2_takeNumber_98 (by decide) (by omega) (fun c98 => by omega) (fun c98 => ?_)
      refine zw_iload dX2_takeNumber_101 rfl ?_
      refine zw_if_eq_b (tgt := 114) dX2_takeNumber_103 (by decide) (fun c103 => ?_) (fun c103 => ?_)
      · refine zw_iload dX2_takeNumber_114 rfl ?_
        refine zw_iload_n dX2_takeNumber_116 rfl ?_
        refine zw_iload_n dX2_takeNumber_117 rfl ?_
        refine zw_cNi dX2_takeNumber_118 (c_X4_isWithin _ _ _) rfl okX4_isWithin nl_X2_109 (Nat.le_of_ble_eq_true rfl) (Nat.le_of_ble_eq_true rfl) ?_
        refine zw_if_ne_b (tgt := 129) dX2_takeNumber_121 (by decide) (fun c121 => ?_) (fun c121 => ?_)
        · refine zw_iload dX2_takeNumber_129 rfl ?_
          exact zw_iretE dX2_takeNumber_131 rfl (by simp only [tnF, hx]) rfl (by simp only [tnF, hx, lFA]; rw [if_neg (show ¬ (po = l.1 ∨ isD (gF len tx po)) from (fun z => z.elim c77 c103)), if_pos (show (lo ≤ num ∧ num ≤ hi) from c121)] <;> rfl)
        · refine zw_aload_n dX2_takeNumber_124 rfl ?_
          refine zw_iload_n dX2_takeNumber_125 rfl ?_
          refine zw_cVv dX2_takeNumber_126 (c_X2_failAt hq hC hp _) rfl okX2_failAt ml_X2_48 hq.i hq.k (by decide) rfl (Nat.le_of_ble_eq_true rfl) (Nat.le_of_ble_eq_true rfl) ?_
          refine zw_iload dX2_takeNumber_129 rfl ?_
          exact zw_iretE dX2_takeNumber_131 rfl (by simp only [tnF, hx]) rfl (by simp only [tnF, hx, lFA]; rw [if_neg (show ¬ (po = l.1 ∨ isD (gF len tx po)) from (fun z => z.elim c77 c103)), if_neg (show ¬ (lo ≤ num ∧ num ≤ hi) from c121)] <;> rfl)
      · refine zw_aload_n dX2_takeNumber_106 rfl ?_
        refine zw_aload_n dX2_takeNumber_107 rfl ?_
        refine zw_getIv (j := 6) (kd := 2) (v := (nI (((po, l.2)).1))) dX2_takeNumber_108 hq.i hq.k (by decide) (by decide) fl_X2_29 rfl PL_po ?_
        refine zw_cVv dX2_takeNumber_111 (c_X2_failAt hq hC hp _) rfl okX2_failAt ml_X2_48 hq.i hq.k (by decide) rfl (Nat.le_of_ble_eq_true rfl) (Nat.le_of_ble_eq_true rfl) ?_
        refine zw_iload dX2_takeNumber_114 rfl ?_
        refine zw_iload_n dX2_takeNumber_116 rfl ?_
        refine zw_iload_n dX2_takeNumber_117 rfl ?_
        refine zw_cNi dX2_takeNumber_118 (c_X4_isWithin _ _ _) rfl okX4_isWithin nl_X2_109 (Nat.le_of_ble_eq_true rfl) (Nat.le_of_ble_eq_true rfl) ?_
        refine zw_if_ne_b (tgt := 129) dX2_takeNumber_121 (by decide) (fun c121 => ?_) (fun c121 => ?_)
        · refine zw_iload dX2_takeNumber_129 rfl ?_
          exact zw_iretE dX2_takeNumber_131 rfl (by simp only [tnF, hx]) rfl (by simp only [tnF, hx, lFA]; rw [if_pos (show po = l.1 ∨ isD (gF len tx po) from (Or.inr c103)), if_pos (show (lo ≤ num ∧ num ≤ hi) from c121)] <;> rfl)
        · refine zw_aload_n dX2_takeNumber_124 rfl ?_
          refine zw_iload_n dX2_takeNumber_125 rfl ?_
          refine zw_cVv dX2_takeNumber_126 (c_X2_failAt hq hC (show (lFA ((nI (((po, l.2)).1))) ((po, l.2))).1 ≤ 100 from hp) _) rfl okX2_failAt ml_X2_48 hq.i hq.k (by decide) rfl (Nat.le_of_ble_eq_true rfl) (Nat.le_of_ble_eq_true rfl) ?_
          refine zw_iload dX2_takeNumber_129 rfl ?_
          exact zw_iretE dX2_takeNumber_131 rfl (by simp only [tnF, hx]) rfl (by simp only [tnF, hx, lFA]; rw [if_pos (show po = l.1 ∨ isD (gF len tx po) from (Or.inr c103)), if_neg (show ¬ (lo ≤ num ∧ num ≤ hi) from c121)] <;> rfl)
    · refine zw_iconst (v := nI 1) dX2_takeNumber_80 (by decide) ?_
      refine zw_goto (tgt := 85) dX2_takeNumber_81 (by decide) ?_
      refine zw_istore dX2_takeNumber_85 (by decide) ?_
      refine zw_aload_n dX2_takeNumber_87 rfl ?_
      refine zw_cVi dX2_takeNumber_88 (c_X2_sign hq hC hp) rfl okX2_sign ml_X2_52 hq.i hq.k (by decide) rfl (Nat.le_of_ble_eq_true rfl) (Nat.le_of_ble_eq_true rfl) ?_
      refine zw_cSi dX2_takeNumber_91 (c_X2_isDigit _) rfl okX2_isDigit ml_X2_62 (Nat.le_of_ble_eq_true rfl) (Nat.le_of_ble_eq_true rfl) ?_
      refine zw_istore dX2_takeNumber_94 (by decide) ?_
      refine zw_iload dX2_takeNumber_96 rfl ?_
      refine zw_if_ne_n (tgt := 106) dX2_takeNumber_98 (by decide) (by omega) (fun c98 => ?_) (fun c98 => by omega)
      refine zw_aload_n dX2_takeNumber_106 rfl ?_
      refine zw_aload_n dX2_takeNumber_107 rfl ?_
      refine zw_getIv (j := 6) (kd := 2) (v := (nI (((po, l.2)).1))) dX2_takeNumber_108 hq.i hq.k (by decide) (by decide) fl_X2_29 rfl PL_po ?_
      refine zw_cVv dX2_takeNumber_111 (c_X2_failAt hq hC hp _) rfl okX2_failAt ml_X2_48 hq.i hq.k (by decide) rfl (Nat.le_of_ble_eq_true rfl) (Nat.le_of_ble_eq_true rfl) ?_
      refine zw_iload dX2_takeNumber_114 rfl ?_
      refine zw_iload_n dX2_takeNumber_116 rfl ?_
      refine zw_iload_n dX2_takeNumber_117 rfl ?_
      refine zw_cNi dX2_takeNumber_118 (c_X4_isWithin _ _ _) rfl okX4_isWithin nl_X2_109 (Nat.le_of_ble_eq_true rfl) (Nat.le_of_ble_eq_true rfl) ?_
      refine zw_if_ne_b (tgt := 129) dX2_takeNumber_121 (by decide) (fun c121 => ?_) (fun c121 => ?_)
      · refine zw_iload dX2_takeNumber_129 rfl ?_
        exact zw_iretE dX2_takeNumber_131 rfl (by simp only [tnF, hx]) rfl (by simp only [tnF, hx, lFA]; rw [if_pos (show po = l.1 ∨ isD (gF len tx po) from (Or.inl c77)), if_pos (show (lo ≤ num ∧ num ≤ hi) from c121)] <;> rfl)
      · refine zw_aload_n dX2_takeNumber_124 rfl ?_
        refine zw_iload_n dX2_takeNumber_125 rfl ?_
        refine zw_cVv dX2_takeNumber_126 (c_X2_failAt hq hC (show (lFA ((nI (((po, l.2)).1))) ((po, l.2))).1 ≤ 100 from hp) _) rfl okX2_failAt ml_X2_48 hq.i hq.k (by decide) rfl (Nat.le_of_ble_eq_true rfl) (Nat.le_of_ble_eq_true rfl) ?_
        refine zw_iload dX2_takeNumber_129 rfl ?_
        exact zw_iretE dX2_takeNumber_131 rfl (by simp only [tnF, hx]) rfl (by simp only [tnF, hx, lFA]; rw [if_pos (show po = l.1 ∨ isD (gF len tx po) from (Or.inl c77)), if_neg (show ¬ (lo ≤ num ∧ num ≤ hi) from c121)] <;> rfl)
  have L14 : ∀ (n_14 k : Nat), k + n_14 = 3 → ∀ (po : Nat) (num : Int32) (go : Bool), po ≤ 100 → (tnL (gF len tx) l.2 3 l.1 (nI 0) true) = tnL (gF len tx) l.2 n_14 po num go → WP mX2_takeNumber 2 0 0 14 [some (.inr (some (q))), some (.inl (lo)), some (.inl (hi)), some (.inl (nI (l.1))), some (.inl (num)), some (.inl ((bI go))), some (.inl (nI (k))), none] [] sh (PL C q (po, l.2) de np) (some (.inl (tnF (gF len tx) lo hi l).2)) sh (PL (C) q ((tnF (gF len tx) lo hi l).1) (de) (np)) := by
    intro n_14
    induction n_14 with
    | zero =>
      intro k hk14 po num go hp hx
      have ek14 : 3 = k := by omega
      subst ek14
      have J72 : ∀ (po : Nat) (num : Int32), po ≤ 100 → (tnL (gF len tx) l.2 3 l.1 (nI 0) true) = (po, num) → WP mX2_takeNumber 2 0 0 72 [some (.inr (some (q))), some (.inl (lo)), some (.inl (hi)), some (.inl (nI (l.1))), some (.inl (num)), none, none, none] [] sh (PL C q (po, l.2) de np) (some (.inl (tnF (gF len tx) lo hi l).2)) sh (PL (C) q ((tnF (gF len tx) lo hi l).1) (de) (np)) := by
        intro po num hp hx
        refine zw_aload_n dX2_takeNumber_72 rfl ?_
        refine zw_getIv (j := 6) (kd := 2) (v := (nI (((po, l.2)).1))) dX2_takeNumber_73 hq.i hq.k (by decide) (by decide) fl_X2_29 rfl PL_po ?_
        refine zw_iload_n dX2_takeNumber_76 rfl ?_
        refine zw_icmp_ne_n (tgt := 84) dX2_takeNumber_77 (by decide) (by omega) (by omega) (fun c77 => ?_) (fun c77 => ?_)
        · refine zw_iconst (v := nI 0) dX2_takeNumber_84 (by decide) ?_
          refine zw_istore dX2_takeNumber_85 (by decide) ?_
          refine zw_aload_n dX2_takeNumber_87 rfl ?_
          refine zw_cVi dX2_takeNumber_88 (c_X2_sign hq hC hp) rfl okX2_sign ml_X2_52 hq.i hq.k (by decide) rfl (Nat.le_of_ble_eq_true rfl) (Nat.le_of_ble_eq_true rfl) ?_
          refine zw_cSi dX2_takeNumber_91 (c_X2_isDigit _) rfl okX2_isDigit ml_X2_62 (Nat.le_of_ble_eq_true rfl) (Nat.le_of_ble_eq_true rfl) ?_
          refine zw_istore dX2_takeNumber_94 (by decide) ?_
          refine zw_iload dX2_takeNumber_96 rfl ?_
          refine zw_if_ne_n (tgt := 106) dX2_takeNumber_98 (by decide) (by omega) (fun c98 => by omega) (fun c98 => ?_)
          refine zw_iload dX2_takeNumber_101 rfl ?_
          refine zw_if_eq_b (tgt := 114) dX2_takeNumber_103 (by decide) (fun c103 => ?_) (fun c103 => ?_)
          · refine zw_iload dX2_takeNumber_114 rfl ?_
            refine zw_iload_n dX2_takeNumber_116 rfl ?_
            refine zw_iload_n dX2_takeNumber_117 rfl ?_
            refine zw_cNi dX2_takeNumber_118 (c_X4_isWithin _ _ _) rfl okX4_isWithin nl_X2_109 (Nat.le_of_ble_eq_true rfl) (Nat.le_of_ble_eq_true rfl) ?_
            refine zw_if_ne_b (tgt := 129) dX2_takeNumber_121 (by decide) (fun c121 => ?_) (fun c121 => ?_)
            · refine zw_iload dX2_takeNumber_129 rfl ?_
              exact zw_iretE dX2_takeNumber_131 rfl (by simp only [tnF, hx]) rfl (by simp only [tnF, hx, lFA]; rw [if_neg (show ¬ (po = l.1 ∨ isD (gF len tx po)) from (fun z => z.elim c77 c103)), if_pos (show (lo ≤ num ∧ num ≤ hi) from c121)] <;> rfl)
            · refine zw_aload_n dX2_takeNumber_124 rfl ?_
              refine zw_iload_n dX2_takeNumber_125 rfl ?_
              refine zw_cVv dX2_takeNumber_126 (c_X2_failAt hq hC hp _) rfl okX2_failAt ml_X2_48 hq.i hq.k (by decide) rfl (Nat.le_of_ble_eq_true rfl) (Nat.le_of_ble_eq_true rfl) ?_
              refine zw_iload dX2_takeNumber_129 rfl ?_
              exact zw_iretE dX2_takeNumber_131 rfl (by simp only [tnF, hx]) rfl (by simp only [tnF, hx, lFA]; rw [if_neg (show ¬ (po = l.1 ∨ isD (gF len tx po)) from (fun z => z.elim c77 c103)), if_neg (show ¬ (lo ≤ num ∧ num ≤ hi) from c121)] <;> rfl)
          · refine zw_aload_n dX2_takeNumber_106 rfl ?_
            refine zw_aload_n dX2_takeNumber_107 rfl ?_
            refine zw_getIv (j := 6) (kd := 2) (v := (nI (((po, l.2)).1))) dX2_takeNumber_108 hq.i hq.k (by decide) (by decide) fl_X2_29 rfl PL_po ?_
            refine zw_cVv dX2_takeNumber_111 (c_X2_failAt hq hC hp _) rfl okX2_failAt ml_X2_48 hq.i hq.k (by decide) rfl (Nat.le_of_ble_eq_true rfl) (Nat.le_of_ble_eq_true rfl) ?_
            refine zw_iload dX2_takeNumber_114 rfl ?_
            refine zw_iload_n dX2_takeNumber_116 rfl ?_
            refine zw_iload_n dX2_takeNumber_117 rfl ?_
            refine zw_cNi dX2_takeNumber_118 (c_X4_isWithin _ _ _) rfl okX4_isWithin nl_X2_109 (Nat.le_of_ble_eq_true rfl) (Nat.le_of_ble_eq_true rfl) ?_
            refine zw_if_ne_b (tgt := 129) dX2_takeNumber_121 (by decide) (fun c121 => ?_) (fun c121 => ?_)
            · refine zw_iload dX2_takeNumber_129 rfl ?_
              exact zw_iretE dX2_takeNumber_131 rfl (by simp only [tnF, hx]) rfl (by simp only [tnF, hx, lFA]; rw [if_pos (show po = l.1 ∨ isD (gF len tx po) from (Or.inr c103)), if_pos (show (lo ≤ num ∧ num ≤ hi) from c121)] <;> rfl)
            · refine zw_aload_n dX2_takeNumber_124 rfl ?_
              refine zw_iload_n dX2_takeNumber_125 rfl ?_
              refine zw_cVv dX2_takeNumber_126 (c_X2_failAt hq hC (show (lFA ((nI (((po, l.2)).1))) ((po, l.2))).1 ≤ 100 from hp) _) rfl okX2_failAt ml_X2_48 hq.i hq.k (by decide) rfl (Nat.le_of_ble_eq_true rfl) (Nat.le_of_ble_eq_true rfl) ?_
              refine zw_iload dX2_takeNumber_129 rfl ?_
              exact zw_iretE dX2_takeNumber_131 rfl (by simp only [tnF, hx]) rfl (by simp only [tnF, hx, lFA]; rw [if_pos (show po = l.1 ∨ isD (gF len tx po) from (Or.inr c103)), if_neg (show ¬ (lo ≤ num ∧ num ≤ hi) from c121)] <;> rfl)
        · refine zw_iconst (v := nI 1) dX2_takeNumber_80 (by decide) ?_
          refine zw_goto (tgt := 85) dX2_takeNumber_81 (by decide) ?_
          refine zw_istore dX2_takeNumber_85 (by decide) ?_
          refine zw_aload_n dX2_takeNumber_87 rfl ?_
          refine zw_cVi dX2_takeNumber_88 (c_X2_sign hq hC hp) rfl okX2_sign ml_X2_52 hq.i hq.k (by decide) rfl (Nat.le_of_ble_eq_true rfl) (Nat.le_of_ble_eq_true rfl) ?_
          refine zw_cSi dX2_takeNumber_91 (c_X2_isDigit _) rfl okX2_isDigit ml_X2_62 (Nat.le_of_ble_eq_true rfl) (Nat.le_of_ble_eq_true rfl) ?_
          refine zw_istore dX2_takeNumber_94 (by decide) ?_
          refine zw_iload dX2_takeNumber_96 rfl ?_
          refine zw_if_ne_n (tgt := 106) dX2_takeNumber_98 (by decide) (by omega) (fun c98 => ?_) (fun c98 => by omega)
          refine zw_aload_n dX2_takeNumber_106 rfl ?_
          refine zw_aload_n dX2_takeNumber_107 rfl ?_
          refine zw_getIv (j := 6) (kd := 2) (v := (nI (((po, l.2)).1))) dX2_takeNumber_108 hq.i hq.k (by decide) (by decide) fl_X2_29 rfl PL_po ?_
          refine zw_cVv dX2_takeNumber_111 (c_X2_failAt hq hC hp _) rfl okX2_failAt ml_X2_48 hq.i hq.k (by decide) rfl (Nat.le_of_ble_eq_true rfl) (Nat.le_of_ble_eq_true rfl) ?_
          refine zw_iload dX2_takeNumber_114 rfl ?_
          refine zw_iload_n dX2_takeNumber_116 rfl ?_
          refine zw_iload_n dX2_takeNumber_117 rfl ?_
          refine zw_cNi dX2_takeNumber_118 (c_X4_isWithin _ _ _) rfl okX4_isWithin nl_X2_109 (Nat.le_of_ble_eq_true rfl) (Nat.le_of_ble_eq_true rfl) ?_
          refine zw_if_ne_b (tgt := 129) dX2_takeNumber_121 (by decide) (fun c121 => ?_) (fun c121 => ?_)
          · refine zw_iload dX2_takeNumber_129 rfl ?_
            exact zw_iretE dX2_takeNumber_131 rfl (by simp only [tnF, hx]) rfl (by simp only [tnF, hx, lFA]; rw [if_pos (show po = l.1 ∨ isD (gF len tx po) from (Or.inl c77)), if_pos (show (lo ≤ num ∧ num ≤ hi) from c121)] <;> rfl)
          · refine zw_aload_n dX2_takeNumber_124 rfl ?_
            refine zw_iload_n dX2_takeNumber_125 rfl ?_
            refine zw_cVv dX2_takeNumber_126 (c_X2_failAt hq hC (show (lFA ((nI (((po, l.2)).1))) ((po, l.2))).1 ≤ 100 from hp) _) rfl okX2_failAt ml_X2_48 hq.i hq.k (by decide) rfl (Nat.le_of_ble_eq_true rfl) (Nat.le_of_ble_eq_true rfl) ?_
            refine zw_iload dX2_takeNumber_129 rfl ?_
            exact zw_iretE dX2_takeNumber_131 rfl (by simp only [tnF, hx]) rfl (by simp only [tnF, hx, lFA]; rw [if_pos (show po = l.1 ∨ isD (gF len tx po) from (Or.inl c77)), if_neg (show ¬ (lo ≤ num ∧ num ≤ hi) from c121)] <;> rfl)
      refine zw_iload dX2_takeNumber_14 rfl ?_
      refine zw_iconst (v := nI 3) dX2_takeNumber_16 (by decide) ?_
      refine zw_icmp_ge_n (tgt := 72) dX2_takeNumber_17 (by decide) (by omega) (by omega) (fun c17 => ?_) (fun c17 => by omega)
      exact WP.sub (J72 po num hp (hx.trans (by simp [tnL]))) ⟨rfl, rfl, rfl, rfl, rfl, trivial⟩
    | succ n_14 ih14 =>
      intro k hk14 po num go hp hx
      have hlt14 : k < 3 := by omega
      have J72 : ∀ (po : Nat) (num : Int32), po ≤ 100 → (tnL (gF len tx) l.2 3 l.1 (nI 0) true) = (po, num) → WP mX2_takeNumber 2 0 0 72 [some (.inr (some (q))), some (.inl (lo)), some (.inl (hi)), some (.inl (nI (l.1))), some (.inl (num)), none, none, none] [] sh (PL C q (po, l.2) de np) (some (.inl (tnF (gF len tx) lo hi l).2)) sh (PL (C) q ((tnF (gF len tx) lo hi l).1) (de) (np)) := by
        intro po num hp hx
        refine zw_aload_n dX2_takeNumber_72 rfl ?_
        refine zw_getIv (j := 6) (kd := 2) (v := (nI (((po, l.2)).1))) dX2_takeNumber_73 hq.i hq.k (by decide) (by decide) fl_X2_29 rfl PL_po ?_
        refine zw_iload_n dX2_takeNumber_76 rfl ?_
        refine zw_icmp_ne_n (tgt := 84) dX2_takeNumber_77 (by decide) (by omega) (by omega) (fun c77 => ?_) (fun c77 => ?_)
        · refine zw_iconst (v := nI 0) dX2_takeNumber_84 (by decide) ?_
          refine zw_istore dX2_takeNumber_85 (by decide) ?_
          refine zw_aload_n dX2_takeNumber_87 rfl ?_
          refine zw_cVi dX2_takeNumber_88 (c_X2_sign hq hC hp) rfl okX2_sign ml_X2_52 hq.i hq.k (by decide) rfl (Nat.le_of_ble_eq_true rfl) (Nat.le_of_ble_eq_true rfl) ?_
          refine zw_cSi dX2_takeNumber_91 (c_X2_isDigit _) rfl okX2_isDigit ml_X2_62 (Nat.le_of_ble_eq_true rfl) (Nat.le_of_ble_eq_true rfl) ?_
          refine zw_istore dX2_takeNumber_94 (by decide) ?_
          refine zw_iload dX2_takeNumber_96 rfl ?_
          refine zw_if_ne_n (tgt := 106) dX2_takeNumber_98 (by decide) (by omega) (fun c98 => by omega) (fun c98 => ?_)
          refine zw_iload dX2_takeNumber_101 rfl ?_
          refine zw_if_eq_b (tgt := 114) dX2_takeNumber_103 (by decide) (fun c103 => ?_) (fun c103 => ?_)
          · refine zw_iload dX2_takeNumber_114 rfl ?_
            refine zw_iload_n dX2_takeNumber_116 rfl ?_
            refine zw_iload_n dX2_takeNumber_117 rfl ?_
            refine zw_cNi dX2_takeNumber_118 (c_X4_isWithin _ _ _) rfl okX4_isWithin nl_X2_109 (Nat.le_of_ble_eq_true rfl) (Nat.le_of_ble_eq_true rfl) ?_
            refine zw_if_ne_b (tgt := 129) dX2_takeNumber_121 (by decide) (fun c121 => ?_) (fun c121 => ?_)
            · refine zw_iload dX2_takeNumber_129 rfl ?_
              exact zw_iretE dX2_takeNumber_131 rfl (by simp only [tnF, hx]) rfl (by simp only [tnF, hx, lFA]; rw [if_neg (show ¬ (po = l.1 ∨ isD (gF len tx po)) from (fun z => z.elim c77 c103)), if_pos (show (lo ≤ num ∧ num ≤ hi) from c121)] <;> rfl)
            · refine zw_aload_n dX2_takeNumber_124 rfl ?_
              refine zw_iload_n dX2_takeNumber_125 rfl ?_
              refine zw_cVv dX2_takeNumber_126 (c_X2_failAt hq hC hp _) rfl okX2_failAt ml_X2_48 hq.i hq.k (by decide) rfl (Nat.le_of_ble_eq_true rfl) (Nat.le_of_ble_eq_true rfl) ?_
              refine zw_iload dX2_takeNumber_129 rfl ?_
              exact zw_iretE dX2_takeNumber_131 rfl (by simp only [tnF, hx]) rfl (by simp only [tnF, hx, lFA]; rw [if_neg (show ¬ (po = l.1 ∨ isD (gF len tx po)) from (fun z => z.elim c77 c103)), if_neg (show ¬ (lo ≤ num ∧ num ≤ hi) from c121)] <;> rfl)
          · refine zw_aload_n dX2_takeNumber_106 rfl ?_
            refine zw_aload_n dX2_takeNumber_107 rfl ?_
            refine zw_getIv (j := 6) (kd := 2) (v := (nI (((po, l.2)).1))) dX2_takeNumber_108 hq.i hq.k (by decide) (by decide) fl_X2_29 rfl PL_po ?_
            refine zw_cVv dX2_takeNumber_111 (c_X2_failAt hq hC hp _) rfl okX2_failAt ml_X2_48 hq.i hq.k (by decide) rfl (Nat.le_of_ble_eq_true rfl) (Nat.le_of_ble_eq_true rfl) ?_
            refine zw_iload dX2_takeNumber_114 rfl ?_
            refine zw_iload_n dX2_takeNumber_116 rfl ?_
            refine zw_iload_n dX2_takeNumber_117 rfl ?_
            refine zw_cNi dX2_takeNumber_118 (c_X4_isWithin _ _ _) rfl okX4_isWithin nl_X2_109 (Nat.le_of_ble_eq_true rfl) (Nat.le_of_ble_eq_true rfl) ?_
            refine zw_if_ne_b (tgt := 129) dX2_takeNumber_121 (by decide) (fun c121 => ?_) (fun c121 => ?_)
            · refine zw_iload dX2_takeNumber_129 rfl ?_
              exact zw_iretE dX2_takeNumber_131 rfl (by simp only [tnF, hx]) rfl (by simp only [tnF, hx, lFA]; rw [if_pos (show po = l.1 ∨ isD (gF len tx po) from (Or.inr c103)), if_pos (show (lo ≤ num ∧ num ≤ hi) from c121)] <;> rfl)
            · refine zw_aload_n dX2_takeNumber_124 rfl ?_
              refine zw_iload_n dX2_takeNumber_125 rfl ?_
              refine zw_cVv dX2_takeNumber_126 (c_X2_failAt hq hC (show (lFA ((nI (((po, l.2)).1))) ((po, l.2))).1 ≤ 100 from hp) _) rfl okX2_failAt ml_X2_48 hq.i hq.k (by decide) rfl (Nat.le_of_ble_eq_true rfl) (Nat.le_of_ble_eq_true rfl) ?_
              refine zw_iload dX2_takeNumber_129 rfl ?_
              exact zw_iretE dX2_takeNumber_131 rfl (by simp only [tnF, hx]) rfl (by simp only [tnF, hx, lFA]; rw [if_pos (show po = l.1 ∨ isD (gF len tx po) from (Or.inr c103)), if_neg (show ¬ (lo ≤ num ∧ num ≤ hi) from c121)] <;> rfl)
        · refine zw_iconst (v := nI 1) dX2_takeNumber_80 (by decide) ?_
          refine zw_goto (tgt := 85) dX2_takeNumber_81 (by decide) ?_
          refine zw_istore dX2_takeNumber_85 (by decide) ?_
          refine zw_aload_n dX2_takeNumber_87 rfl ?_
          refine zw_cVi dX2_takeNumber_88 (c_X2_sign hq hC hp) rfl okX2_sign ml_X2_52 hq.i hq.k (by decide) rfl (Nat.le_of_ble_eq_true rfl) (Nat.le_of_ble_eq_true rfl) ?_
          refine zw_cSi dX2_takeNumber_91 (c_X2_isDigit _) rfl okX2_isDigit ml_X2_62 (Nat.le_of_ble_eq_true rfl) (Nat.le_of_ble_eq_true rfl) ?_
          refine zw_istore dX2_takeNumber_94 (by decide) ?_
          refine zw_iload dX2_takeNumber_96 rfl ?_
          refine zw_if_ne_n (tgt := 106) dX2_takeNumber_98 (by decide) (by omega) (fun c98 => ?_) (fun c98 => by omega)
          refine zw_aload_n dX2_takeNumber_106 rfl ?_
          refine zw_aload_n dX2_takeNumber_107 rfl ?_
          refine zw_getIv (j := 6) (kd := 2) (v := (nI (((po, l.2)).1))) dX2_takeNumber_108 hq.i hq.k (by decide) (by decide) fl_X2_29 rfl PL_po ?_
          refine zw_cVv dX2_takeNumber_111 (c_X2_failAt hq hC hp _) rfl okX2_failAt ml_X2_48 hq.i hq.k (by decide) rfl (Nat.le_of_ble_eq_true rfl) (Nat.le_of_ble_eq_true rfl) ?_
          refine zw_iload dX2_takeNumber_114 rfl ?_
          refine zw_iload_n dX2_takeNumber_116 rfl ?_
          refine zw_iload_n dX2_takeNumber_117 rfl ?_
          refine zw_cNi dX2_takeNumber_118 (c_X4_isWithin _ _ _) rfl okX4_isWithin nl_X2_109 (Nat.le_of_ble_eq_true rfl) (Nat.le_of_ble_eq_true rfl) ?_
          refine zw_if_ne_b (tgt := 129) dX2_takeNumber_121 (by decide) (fun c121 => ?_) (fun c121 => ?_)
          · refine zw_iload dX2_takeNumber_129 rfl ?_
            exact zw_iretE dX2_takeNumber_131 rfl (by simp only [tnF, hx]) rfl (by simp only [tnF, hx, lFA]; rw [if_pos (show po = l.1 ∨ isD (gF len tx po) from (Or.inl c77)), if_pos (show (lo ≤ num ∧ num ≤ hi) from c121)] <;> rfl)
          · refine zw_aload_n dX2_takeNumber_124 rfl ?_
            refine zw_iload_n dX2_takeNumber_125 rfl ?_
            refine zw_cVv dX2_takeNumber_126 (c_X2_failAt hq hC (show (lFA ((nI (((po, l.2)).1))) ((po, l.2))).1 ≤ 100 from hp) _) rfl okX2_failAt ml_X2_48 hq.i hq.k (by decide) rfl (Nat.le_of_ble_eq_true rfl) (Nat.le_of_ble_eq_true rfl) ?_
            refine zw_iload dX2_takeNumber_129 rfl ?_
            exact zw_iretE dX2_takeNumber_131 rfl (by simp only [tnF, hx]) rfl (by simp only [tnF, hx, lFA]; rw [if_pos (show po = l.1 ∨ isD (gF len tx po) from (Or.inl c77)), if_neg (show ¬ (lo ≤ num ∧ num ≤ hi) from c121)] <;> rfl)
      refine zw_iload dX2_takeNumber_14 rfl ?_
      refine zw_iconst (v := nI 3) dX2_takeNumber_16 (by decide) ?_
      refine zw_icmp_ge_n (tgt := 72) dX2_takeNumber_17 (by decide) (by omega) (by omega) (fun c17 => by omega) (fun c17 => ?_)
      refine zw_iload dX2_takeNumber_20 rfl ?_
      refine zw_if_eq (tgt := 72) dX2_takeNumber_22 (by decide) (fun c22 => ?_) (fun c22 => ?_)
      · exact WP.sub (J72 po num hp (hx.trans (by simp only [tnL] <;> rw [if_neg (fun z => bI_0.mp c22 z.1)]))) ⟨rfl, rfl, rfl, rfl, rfl, trivial⟩
      · refine zw_aload_n dX2_takeNumber_25 rfl ?_
        refine zw_cVi dX2_takeNumber_26 (c_X2_sign hq hC hp) rfl okX2_sign ml_X2_52 hq.i hq.k (by decide) rfl (Nat.le_of_ble_eq_true rfl) (Nat.le_of_ble_eq_true rfl) ?_
        refine zw_cSi dX2_takeNumber_29 (c_X2_isDigit _) rfl okX2_isDigit ml_X2_62 (Nat.le_of_ble_eq_true rfl) (Nat.le_of_ble_eq_true rfl) ?_
        refine zw_if_eq_b (tgt := 72) dX2_takeNumber_32 (by decide) (fun c32 => ?_) (fun c32 => ?_)
        · exact WP.sub (J72 po num hp (hx.trans (by simp only [tnL] <;> rw [if_neg (fun z => c32 z.2)]))) ⟨rfl, rfl, rfl, rfl, rfl, trivial⟩
        · refine zw_iload dX2_takeNumber_35 rfl ?_
          refine zw_bipush (v := nI 10) dX2_takeNumber_37 (by decide) ?_
          refine zw_imul dX2_takeNumber_39 ?_
          refine zw_aload_n dX2_takeNumber_40 rfl ?_
          refine zw_cVi dX2_takeNumber_41 (c_X2_sign hq hC hp) rfl okX2_sign ml_X2_52 hq.i hq.k (by decide) rfl (Nat.le_of_ble_eq_true rfl) (Nat.le_of_ble_eq_true rfl) ?_
          refine zw_iadd dX2_takeNumber_44 ?_
          refine zw_bipush (v := nI 48) dX2_takeNumber_45 (by decide) ?_
          refine zw_isub dX2_takeNumber_47 ?_
          refine zw_istore dX2_takeNumber_48 (by decide) ?_
          refine zw_aload_n dX2_takeNumber_50 rfl ?_
          refine zw_cVv dX2_takeNumber_51 (c_X2_skip hq hC hp) rfl okX2_skip ml_X2_106 hq.i hq.k (by decide) rfl (Nat.le_of_ble_eq_true rfl) (Nat.le_of_ble_eq_true rfl) ?_
          refine zw_iload dX2_takeNumber_54 rfl ?_
          refine zw_if_le (tgt := 63) dX2_takeNumber_56 (by decide) (fun c56 => ?_) (fun c56 => ?_)
          · refine zw_iconst (v := nI 0) dX2_takeNumber_63 (by decide) ?_
            refine zw_istore dX2_takeNumber_64 (by decide) ?_
            refine zw_iincn dX2_takeNumber_66 rfl (by decide) ?_
            refine zw_goto (tgt := 14) dX2_takeNumber_69 (by decide) ?_
            exact WP.sub (ih14 (k + 1) (by omega) (lSK (po, l.2)).1 (num * nI 10 + (gF len tx) po - nI 48) (decide (0 < num * nI 10 + (gF len tx) po - nI 48)) (by have := gF_isD c32; show (if l.2 = (-1) then po + 1 else po) ≤ 100; split <;> omega) (hx.trans (by simp only [tnL]; rw [if_pos ⟨Classical.not_not.mp (fun z => c22 (bI_0.mpr z)), c32⟩]; rfl))) ⟨rfl, rfl, rfl, rfl, rfl, (hd_eq (by simp [bI, c56])), rfl, trivial⟩
          · refine zw_iconst (v := nI 1) dX2_takeNumber_59 (by decide) ?_
            refine zw_goto (tgt := 64) dX2_takeNumber_60 (by decide) ?_
            refine zw_istore dX2_takeNumber_64 (by decide) ?_
            refine zw_iincn dX2_takeNumber_66 rfl (by decide) ?_
            refine zw_goto (tgt := 14) dX2_takeNumber_69 (by decide) ?_
            exact WP.sub (ih14 (k + 1) (by omega) (lSK (po, l.2)).1 (num * nI 10 + (gF len tx) po - nI 48) (decide (0 < num * nI 10 + (gF len tx) po - nI 48)) (by have := gF_isD c32; show (if l.2 = (-1) then po + 1 else po) ≤ 100; split <;> omega) (hx.trans (by simp only [tnL]; rw [if_pos ⟨Classical.not_not.mp (fun z => c22 (bI_0.mpr z)), c32⟩]; rfl))) ⟨rfl, rfl, rfl, rfl, rfl, (hd_eq (by simp [bI, c56])), rfl, trivial⟩
  exact WP.sub (L14 (3) 0 (by omega) l.1 (nI 0) true hl rfl) ⟨rfl, rfl, rfl, rfl, rfl, rfl, rfl, trivial⟩
theorem lTK_bad {g : Nat → Int32} {w : Int32} {l : LxS} (h : l.2 ≠ (-1)) : (lTK g w l).2 ≠ (-1) := by
  show (if lTI g w l then l.2 else if l.2 = (-1) then nI l.1 else l.2) ≠ _
  rw [if_neg (fun z => h z.1), if_neg h]
  exact h
def ogl (g : Nat → Int32) (l : LxS) (de : Nat) : LxS := lTK g (nI 40) (if de < 4 then l else lFA (nI l.1) l)
def ogM (C : Mem) (q : Nat) (g : Nat → Int32) (l : LxS) (de : Nat) (f : Int32) : Mem := if (ogl g l de).2 = (-1) then up C (q + 3) (de + 1) (C (q + 3) de * f) else C
def ogD (g : Nat → Int32) (l : LxS) (de : Nat) : Nat := if (ogl g l de).2 = (-1) then de + 1 else de
set_option maxRecDepth 100000 in
set_option maxHeartbeats 4000000 in
theorem c_X2_openGroup {sh : Sh} {C : Mem} {q len : Nat} {tx : Nat → Int32} {l : LxS} {de np : Nat} (hq : IsPl sh q) (hC : PlOk C q len tx) (hl : l.1 ≤ 100) (hde : de ≤ 4) (f : Int32) : Calls mX2_openGroup 3 0 0 [.inr (some (q)), .inl (f)] sh (PL C q l de np) (none) sh (PL (ogM C q (gF len tx) l de f) q (ogl (gF len tx) l de) (ogD (gF len tx) l de) (np)) := by
  refine Calls.of plX2 (Nat.le_of_ble_eq_true rfl) ?_
  have h100 := hC.2.1
  show WP mX2_openGroup 3 0 0 0 [some (.inr (some (q))), some (.inl (f))] [] sh (PL C q l de np) (none) sh (PL (ogM C q (gF len tx) l de f) q (ogl (gF len tx) l de) (ogD (gF len tx) l de) (np))
  refine zw_aload_n dX2_openGroup_0 rfl ?_
  refine zw_getIv (j := 5) (kd := 2) (v := (nI (de))) dX2_openGroup_1 hq.i hq.k (by decide) (by decide) fl_X2_32 rfl PL_de ?_
  refine zw_iconst (v := nI 4) dX2_openGroup_4 (by decide) ?_
  refine zw_icmp_lt_n (tgt := 16) dX2_openGroup_5 (by decide) (by omega) (by omega) (fun c5 => ?_) (fun c5 => ?_)
  · refine zw_aload_n dX2_openGroup_16 rfl ?_
    refine zw_bipush (v := nI 40) dX2_openGroup_17 (by decide) ?_
    refine zw_cVv dX2_openGroup_19 (c_X2_take hq hC hl _ (chn rfl)) rfl okX2_take ml_X2_70 hq.i hq.k (by decide) rfl (Nat.le_of_ble_eq_true rfl) (Nat.le_of_ble_eq_true rfl) ?_
    refine zw_aload_n dX2_openGroup_22 rfl ?_
    refine zw_cVi dX2_openGroup_23 (c_X2_hasFailed hq hC (lTK_le hl h100 (chn rfl))) rfl okX2_hasFailed ml_X2_41 hq.i hq.k (by decide) rfl (Nat.le_of_ble_eq_true rfl) (Nat.le_of_ble_eq_true rfl) ?_
    refine zw_if_ne_c (tgt := 61) dX2_openGroup_26 (by decide) (fun c26 => ?_) (fun c26 => ?_)
    · exact zw_vretE dX2_openGroup_61 rfl rfl rfl (by unfold ogM ogD; rw [show ogl (gF len tx) l de = lTK (gF len tx) (nI 40) l by unfold ogl; rw [if_pos c5]]; rw [if_neg c26, if_neg c26])
    · refine zw_aload_n dX2_openGroup_29 rfl ?_
      refine zw_getR (j := 7) (kd := 2) dX2_openGroup_30 hq.i hq.k (by decide) (by decide) fl_X2_25 rfl hq.r7 ?_
      refine zw_aload_n dX2_openGroup_33 rfl ?_
      refine zw_getIv (j := 5) (kd := 2) (v := (nI (de))) dX2_openGroup_34 hq.i hq.k (by decide) (by decide) fl_X2_32 rfl PL_de ?_
      refine zw_iconst (v := nI 1) dX2_openGroup_37 (by decide) ?_
      refine zw_iaddn dX2_openGroup_38 ?_
      refine zw_aload_n dX2_openGroup_39 rfl ?_
      refine zw_getR (j := 7) (kd := 2) dX2_openGroup_40 hq.i hq.k (by decide) (by decide) fl_X2_25 rfl hq.r7 ?_
      refine zw_aload_n dX2_openGroup_43 rfl ?_
      refine zw_getIv (j := 5) (kd := 2) (v := (nI (de))) dX2_openGroup_44 hq.i hq.k (by decide) (by decide) fl_X2_32 rfl PL_de ?_
      refine zw_iald dX2_openGroup_47 hq.i7 hq.k7 hq.L7 rfl (by rw [hq.n7]; omega) ?_
      refine zw_iload_n dX2_openGroup_48 rfl ?_
      refine zw_imul dX2_openGroup_49 ?_
      refine zw_iast dX2_openGroup_50 hq.i7 hq.k7 hq.L7 rfl (by rw [hq.n7]; omega) ?_
      refine zw_aload_n dX2_openGroup_51 rfl ?_
      refine zw_dup dX2_openGroup_52 ?_
      refine zw_mem (PL_up (by omega)) ?_
      refine zw_getIv (j := 5) (kd := 2) (v := (nI (de))) dX2_openGroup_53 hq.i hq.k (by decide) (by decide) fl_X2_32 rfl PL_de ?_
      refine zw_iconst (v := nI 1) dX2_openGroup_56 (by decide) ?_
      refine zw_iaddn dX2_openGroup_57 ?_
      refine zw_putI (j := 5) (kd := 2) dX2_openGroup_58 hq.i hq.k (by decide) (by decide) fl_X2_32 rfl rfl rfl ?_
      exact zw_vretE dX2_openGroup_61 rfl rfl rfl (by unfold ogM ogD; rw [show ogl (gF len tx) l de = lTK (gF len tx) (nI 40) l by unfold ogl; rw [if_pos c5]]; rw [if_pos (Classical.not_not.mp c26), if_pos (Classical.not_not.mp c26), PL_ude, PL_ne (by omega)])
  · refine zw_aload_n dX2_openGroup_8 rfl ?_
    refine zw_aload_n dX2_openGroup_9 rfl ?_
    refine zw_getIv (j := 6) (kd := 2) (v := (nI ((l).1))) dX2_openGroup_10 hq.i hq.k (by decide) (by decide) fl_X2_29 rfl PL_po ?_
    refine zw_cVv dX2_openGroup_13 (c_X2_failAt hq hC hl _) rfl okX2_failAt ml_X2_48 hq.i hq.k (by decide) rfl (Nat.le_of_ble_eq_true rfl) (Nat.le_of_ble_eq_true rfl) ?_
    refine zw_aload_n dX2_openGroup_16 rfl ?_
    refine zw_bipush (v := nI 40) dX2_openGroup_17 (by decide) ?_
    refine zw_cVv dX2_openGroup_19 (c_X2_take hq hC (show (lFA ((nI ((l).1))) (l)).1 ≤ 100 from hl) _ (chn rfl)) rfl okX2_take ml_X2_70 hq.i hq.k (by decide) rfl (Nat.le_of_ble_eq_true rfl) (Nat.le_of_ble_eq_true rfl) ?_
    refine zw_aload_n dX2_openGroup_22 rfl ?_
    refine zw_cVi dX2_openGroup_23 (c_X2_hasFailed hq hC (lTK_le (show (lFA ((nI ((l).1))) (l)).1 ≤ 100 from hl) h100 (chn rfl))) rfl okX2_hasFailed ml_X2_41 hq.i hq.k (by decide) rfl (Nat.le_of_ble_eq_true rfl) (Nat.le_of_ble_eq_true rfl) ?_
    refine zw_if_ne_c (tgt := 61) dX2_openGroup_26 (by decide) (fun c26 => ?_) (fun c26 => ?_)
    · exact zw_vretE dX2_openGroup_61 rfl rfl rfl (by unfold ogM ogD; rw [show ogl (gF len tx) l de = lTK (gF len tx) (nI 40) (lFA (nI l.1) l) by unfold ogl; rw [if_neg (by omega)]]; rw [if_neg c26, if_neg c26])
    · exact absurd (Classical.not_not.mp c26) (lTK_bad (lFA_ok (by omega)))
def cgl (g : Nat → Int32) (l : LxS) (de : Nat) : LxS := if 0 < de then lTK g (nI 41) l else lFA (nI l.1) l
set_option maxRecDepth 100000 in
set_option maxHeartbeats 4000000 in
theorem c_X2_closeGroup {sh : Sh} {C : Mem} {q len : Nat} {tx : Nat → Int32} {l : LxS} {de np : Nat} (hq : IsPl sh q) (hC : PlOk C q len tx) (hl : l.1 ≤ 100) (hde : de ≤ 4) : Calls mX2_closeGroup 3 0 0 [.inr (some (q))] sh (PL C q l de np) (none) sh (PL (C) q (cgl (gF len tx) l de) (de - 1) (np)) := by
  refine Calls.of plX2 (Nat.le_of_ble_eq_true rfl) ?_
  have h100 := hC.2.1
  show WP mX2_closeGroup 3 0 0 0 [some (.inr (some (q)))] [] sh (PL C q l de np) (none) sh (PL (C) q (cgl (gF len tx) l de) (de - 1) (np))
  refine zw_aload_n dX2_closeGroup_0 rfl ?_
  refine zw_getIv (j := 5) (kd := 2) (v := (nI (de))) dX2_closeGroup_1 hq.i hq.k (by decide) (by decide) fl_X2_32 rfl PL_de ?_
  refine zw_if_le_n (tgt := 26) dX2_closeGroup_4 (by decide) (by omega) (fun c4 => ?_) (fun c4 => ?_)
  · refine zw_aload_n dX2_closeGroup_26 rfl ?_
    refine zw_aload_n dX2_closeGroup_27 rfl ?_
    refine zw_getIv (j := 6) (kd := 2) (v := (nI ((l).1))) dX2_closeGroup_28 hq.i hq.k (by decide) (by decide) fl_X2_29 rfl PL_po ?_
    refine zw_cVv dX2_closeGroup_31 (c_X2_failAt hq hC hl _) rfl okX2_failAt ml_X2_48 hq.i hq.k (by decide) rfl (Nat.le_of_ble_eq_true rfl) (Nat.le_of_ble_eq_true rfl) ?_
    exact zw_vretE dX2_closeGroup_34 rfl rfl rfl (by simp only [cgl]; rw [if_neg (by omega), show de - 1 = de by omega])
  · refine zw_aload_n dX2_closeGroup_7 rfl ?_
    refine zw_bipush (v := nI 41) dX2_closeGroup_8 (by decide) ?_
    refine zw_cVv dX2_closeGroup_10 (c_X2_take hq hC hl _ (chn rfl)) rfl okX2_take ml_X2_70 hq.i hq.k (by decide) rfl (Nat.le_of_ble_eq_true rfl) (Nat.le_of_ble_eq_true rfl) ?_
    refine zw_aload_n dX2_closeGroup_13 rfl ?_
    refine zw_dup dX2_closeGroup_14 ?_
    refine zw_getIv (j := 5) (kd := 2) (v := (nI (de))) dX2_closeGroup_15 hq.i hq.k (by decide) (by decide) fl_X2_32 rfl PL_de ?_
    refine zw_iconst (v := nI 1) dX2_closeGroup_18 (by decide) ?_
    refine zw_isubn dX2_closeGroup_19 (by omega) ?_
    refine zw_putI (j := 5) (kd := 2) dX2_closeGroup_20 hq.i hq.k (by decide) (by decide) fl_X2_32 rfl rfl rfl ?_
    refine zw_goto (tgt := 34) dX2_closeGroup_23 (by decide) ?_
    exact zw_vretE dX2_closeGroup_34 rfl rfl rfl (by rw [PL_ude]; simp only [cgl]; rw [if_pos (by omega)])
