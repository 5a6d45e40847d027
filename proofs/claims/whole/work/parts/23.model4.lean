/-! ===== the reference: its reading of the text ===== -/
def QL (D : Mem) (m : Nat) (l : LxS) (de mn : Nat) : Mem := fun a =>
  if a = m then (fun j => if j = 6 then nI l.1 else if j = 7 then nI de else if j = 13 then nI mn else if j = 9 then (if l.2 = (-1) then nI 0 else nI 1) else if j = 10 then (if l.2 = (-1) then D m 10 else nI 1) else D m j)
  else if a = m + 6 then (fun j => if l.2 = (-1) then D (m + 6) j else if j = 0 then nI 1 else if j = 1 then l.2 else if j = 2 then nI de else if j = 3 then nI 0 else if j = 4 then (-9) else D (m + 6) j)
  else D a
theorem QL_at {D : Mem} {m : Nat} {l : LxS} {de mn : Nat} : QL D m l de mn m 6 = nI l.1 := by simp [QL]
theorem QL_de {D : Mem} {m : Nat} {l : LxS} {de mn : Nat} : QL D m l de mn m 7 = nI de := by simp [QL]
theorem QL_mn {D : Mem} {m : Nat} {l : LxS} {de mn : Nat} : QL D m l de mn m 13 = nI mn := by simp [QL]
theorem QL_f {D : Mem} {m : Nat} {l : LxS} {de mn : Nat} : QL D m l de mn m 9 = b01c (¬ l.2 = (-1)) := by
  by_cases h : l.2 = (-1)
  · rw [b01c_f (fun z => z h)]
    simp [QL, h]
  · rw [b01c_t h]
    simp [QL, h]
theorem QL_o {D : Mem} {m : Nat} {l : LxS} {de mn j : Nat} (h : j < 6 ∨ j = 8 ∨ 13 < j ∨ j = 11 ∨ j = 12) : QL D m l de mn m j = D m j := by
  have h1 : j ≠ 6 := by omega
  have h2 : j ≠ 7 := by omega
  have h3 : j ≠ 13 := by omega
  have h4 : j ≠ 9 := by omega
  have h5 : j ≠ 10 := by omega
  simp [QL, h1, h2, h3, h4, h5]
theorem QL_ne {D : Mem} {m : Nat} {l : LxS} {de mn a : Nat} (h : a ≠ m) (h2 : a ≠ m + 6) : QL D m l de mn a = D a := by simp [QL, h, h2]
theorem QL_uat {D : Mem} {m : Nat} {l : LxS} {de mn x : Nat} : up (QL D m l de mn) m 6 (nI x) = QL D m (x, l.2) de mn := by
  funext a j
  by_cases h : a = m
  · subst h
    by_cases hj : j = 6
    · simp [up, upd, QL, hj]
    · simp [up, upd, QL, hj]
  · simp [up, QL, h]
theorem QL_umn {D : Mem} {m : Nat} {l : LxS} {de mn x : Nat} : up (QL D m l de mn) m 13 (nI x) = QL D m l de x := by
  funext a j
  by_cases h : a = m
  · subst h
    by_cases hj : j = 13
    · simp [up, upd, QL, hj]
    · simp [up, upd, QL, hj]
  · simp [up, QL, h]
theorem QL_ude {D : Mem} {m : Nat} {l : LxS} {de mn x : Nat} (hl : l.2 = (-1)) : up (QL D m l de mn) m 7 (nI x) = QL D m l x mn := by
  funext a j
  by_cases h : a = m
  · subst h
    by_cases hj : j = 7
    · simp [up, upd, QL, hj]
    · simp [up, upd, QL, hj]
  · simp [up, QL, h, hl]
theorem QL_up {D : Mem} {m : Nat} {l : LxS} {de mn a j : Nat} {x : Int32} (h : a ≠ m) (h2 : a ≠ m + 6) : up (QL D m l de mn) a j x = QL (up D a j x) m l de mn := by
  funext b i
  by_cases hb : b = a
  · subst hb
    simp [up, upd, QL, h, h2]
  · by_cases hq : b = m
    · subst hq
      simp [up, QL, hb, Ne.symm h]
    · by_cases hq2 : b = m + 6
      · subst hq2
        simp [up, QL, hb, Ne.symm h2]
      · simp [up, QL, hb, hq, hq2]
/-- a first failure -/
theorem QL_fail {D : Mem} {m : Nat} {l : LxS} {de mn : Nat} {x : Int32} (hl : l.2 = (-1)) (hx : x ≠ (-1)) : fbD (up (QL D m l de mn) m 9 (nI 1)) m (nI 1) x (nI de) (nI 0) (-9) = QL D m (l.1, x) de mn := by
  funext a j
  by_cases h : a = m
  · subst h
    by_cases h10 : j = 10
    · subst h10
      simp [fbD, up, upd, QL, hx]
    · by_cases h9 : j = 9
      · subst h9
        simp [fbD, up, upd, QL, hx]
      · simp [fbD, up, upd, QL, h10, h9]
  · by_cases h6 : a = m + 6
    · subst h6
      by_cases j0 : j = 0
      · subst j0; simp [fbD, up, upd, QL, hx]
      · by_cases j1 : j = 1
        · subst j1; simp [fbD, up, upd, QL, hx]
        · by_cases j2 : j = 2
          · subst j2; simp [fbD, up, upd, QL, hx]
          · by_cases j3 : j = 3
            · subst j3; simp [fbD, up, upd, QL, hx]
            · by_cases j4 : j = 4
              · subst j4; simp [fbD, up, upd, QL, hx]
              · simp [fbD, up, upd, QL, hl, hx, j0, j1, j2, j3, j4]
    · simp [fbD, up, QL, h, h6]
def MlOk (D : Mem) (m len : Nat) (tx : Nat → Int32) : Prop := D m 5 = nI len ∧ len ≤ 100 ∧ ∀ p, p < len → D (m + 4) p = tx p
theorem MlOk.wr {D : Mem} {m len a j : Nat} {tx : Nat → Int32} {x : Int32} (h : MlOk D m len tx) (h1 : m ≠ a) (h2 : m + 4 ≠ a) : MlOk (up D a j x) m len tx := ⟨by rw [up_ne h1]; exact h.1, h.2.1, by rw [up_ne h2]; exact h.2.2⟩
/-- 'here' must be c: on by one in any case -/
def sgF (g : Nat → Int32) (c : Int32) (l : LxS) : LxS := (l.1 + 1, if g l.1 = c then l.2 else if l.2 = (-1) then nI l.1 else l.2)
def nmL (g : Nat → Int32) (bg : Nat) : Nat → Nat → Int32 → Nat × Int32
  | 0, at', v => (at', v)
  | n + 1, at', v => if 0 < v ∧ at' - bg < 3 ∧ isD (g at') then nmL g bg n (at' + 1) (nI 10 * v + g at' - nI 48) else (at', v)
def nmF (g : Nat → Int32) (lo hi : Int32) (l : LxS) : LxS × Int32 :=
  if ¬ l.2 = (-1) then (l, lo)
  else if ¬ isD (g l.1) then ((l.1, nI l.1), lo)
  else
    let r := nmL g l.1 3 (l.1 + 1) (g l.1 - nI 48)
    let f1 := if isD (g r.1) then nI r.1 else (-1)
    ((r.1, if lo ≤ r.2 ∧ r.2 ≤ hi then f1 else if f1 = (-1) then nI l.1 else f1), r.2)
theorem nmL_le {g : Nat → Int32} {bg : Nat} : ∀ (n at' : Nat) (v : Int32), at' ≤ (nmL g bg n at' v).1 ∧ (nmL g bg n at' v).1 ≤ at' + n
  | 0, at', v => ⟨Nat.le_refl _, Nat.le_refl _⟩
  | n + 1, at', v => by
    unfold nmL
    split
    · have := nmL_le (g := g) (bg := bg) n (at' + 1) (nI 10 * v + g at' - nI 48)
      omega
    · exact ⟨Nat.le_refl _, by show at' ≤ at' + (n + 1); omega⟩
theorem nmF_le {g : Nat → Int32} {lo hi : Int32} {l : LxS} : l.1 ≤ (nmF g lo hi l).1.1 ∧ (nmF g lo hi l).1.1 ≤ l.1 + 4 := by
  unfold nmF
  split
  · show l.1 ≤ l.1 ∧ l.1 ≤ l.1 + 4; omega
  · split
    · show l.1 ≤ l.1 ∧ l.1 ≤ l.1 + 4; omega
    · have := nmL_le (g := g) (bg := l.1) 3 (l.1 + 1) (g l.1 - nI 48)
      show l.1 ≤ (nmL g l.1 3 (l.1 + 1) (g l.1 - nI 48)).1 ∧ (nmL g l.1 3 (l.1 + 1) (g l.1 - nI 48)).1 ≤ l.1 + 4
      omega
set_option maxRecDepth 100000 in
set_option maxHeartbeats 1000000 in
theorem c_X5_here {sh : Sh} {D : Mem} {m len : Nat} {tx : Nat → Int32} {l : LxS} {de mn : Nat} (hm : IsMo sh m) (hC : MlOk D m len tx) (hl : l.1 ≤ 6000)  : Calls mX5_here 0 0 0 [.inr (some (m))] sh (QL D m l de mn) (some (.inl ((gF len tx) l.1))) sh (QL (D) m (l) (de) (mn)) := by
  refine Calls.of plX5 (Nat.le_of_ble_eq_true rfl) ?_
  have h100 := hC.2.1
  show WP mX5_here 0 0 0 0 [some (.inr (some (m)))] [] sh (QL D m l de mn) (some (.inl ((gF len tx) l.1))) sh (QL (D) m (l) (de) (mn))
  refine zw_aload_n dX5_here_0 rfl ?_
  refine zw_getIv (j := 6) (kd := 5) (v := (nI ((l).1))) dX5_here_1 hm.i hm.k (by decide) (by decide) fl_X5_132 rfl QL_at ?_
  refine zw_aload_n dX5_here_4 rfl ?_
  refine zw_getIv (j := 5) (kd := 5) (v := (nI (len))) dX5_here_5 hm.i hm.k (by decide) (by decide) fl_X5_135 rfl ((QL_o (by decide)).trans hC.1) ?_
  refine zw_icmp_ge_n (tgt := 23) dX5_here_8 (by decide) (by omega) (by omega) (fun c8 => ?_) (fun c8 => ?_)
  · refine zw_iconst (v := nI 0) dX5_here_23 (by decide) ?_
    exact zw_iretE dX5_here_24 rfl (by simp only [gF]; rw [if_neg (by omega)]) rfl (rfl)
  · refine zw_aload_n dX5_here_11 rfl ?_
    refine zw_getR (j := 4) (kd := 5) dX5_here_12 hm.i hm.k (by decide) (by decide) fl_X5_19 rfl hm.r4 ?_
    refine zw_aload_n dX5_here_15 rfl ?_
    refine zw_getIv (j := 6) (kd := 5) (v := (nI ((l).1))) dX5_here_16 hm.i hm.k (by decide) (by decide) fl_X5_132 rfl QL_at ?_
    refine zw_iald dX5_here_19 hm.i4 hm.k4 hm.L4 rfl (by rw [hm.n4]; omega) ?_
    refine zw_goto (tgt := 24) dX5_here_20 (by decide) ?_
    exact zw_iretE dX5_here_24 rfl (by simp only [gF]; rw [if_pos c8, ← hC.2.2 _ c8, QL_ne (by omega) (by omega)]) rfl (rfl)
set_option maxRecDepth 100000 in
set_option maxHeartbeats 1000000 in
theorem c_X5_fails {sh : Sh} {D : Mem} {m len : Nat} {tx : Nat → Int32} {l : LxS} {de mn : Nat} (hm : IsMo sh m) (hC : MlOk D m len tx) (hl : l.1 ≤ 6000) (x : Int32) (hx : x ≠ (-1)) : Calls mX5_fails 1 0 0 [.inr (some (m)), .inl (x)] sh (QL D m l de mn) (none) sh (QL (D) m (lFA x l) (de) (mn)) := by
  refine Calls.of plX5 (Nat.le_of_ble_eq_true rfl) ?_
  have h100 := hC.2.1
  show WP mX5_fails 1 0 0 0 [some (.inr (some (m))), some (.inl (x))] [] sh (QL D m l de mn) (none) sh (QL (D) m (lFA x l) (de) (mn))
  refine zw_aload_n dX5_fails_0 rfl ?_
  refine zw_getIv (j := 9) (kd := 5) (v := (b01c (¬ (l).2 = (-1)))) dX5_fails_1 hm.i hm.k (by decide) (by decide) fl_X5_118 rfl QL_f ?_
  refine zw_if_ne_c (tgt := 25) dX5_fails_4 (by decide) (fun c4 => ?_) (fun c4 => ?_)
  · exact zw_vretE dX5_fails_25 rfl rfl rfl (by simp only [lFA]; rw [if_neg c4])
  · refine zw_aload_n dX5_fails_7 rfl ?_
    refine zw_iconst (v := nI 1) dX5_fails_8 (by decide) ?_
    refine zw_putZ (j := 9) (kd := 5) dX5_fails_9 hm.i hm.k (by decide) (by decide) fl_X5_118 rfl rfl rfl (Or.inr rfl) ?_
    refine zw_aload_n dX5_fails_12 rfl ?_
    refine zw_iconst (v := nI 1) dX5_fails_13 (by decide) ?_
    refine zw_iload_n dX5_fails_14 rfl ?_
    refine zw_aload_n dX5_fails_15 rfl ?_
    refine zw_getIv (j := 7) (kd := 5) (v := (nI (de))) dX5_fails_16 hm.i hm.k (by decide) (by decide) fl_X5_122 rfl (by rw [up_ne2 (by decide)]; exact QL_de) ?_
    refine zw_iconst (v := nI 0) dX5_fails_19 (by decide) ?_
    refine zw_bipush (v := (-9)) dX5_fails_20 (by decide) ?_
    refine zw_cVv dX5_fails_22 (c_X5_failedBy hm _ _ _ _ _) rfl okX5_failedBy ml_X5_125 hm.i hm.k (by decide) rfl (Nat.le_of_ble_eq_true rfl) (Nat.le_of_ble_eq_true rfl) ?_
    exact zw_vretE dX5_fails_25 rfl rfl rfl (by rw [QL_fail (Classical.not_not.mp c4) hx]; simp only [lFA]; rw [if_pos (Classical.not_not.mp c4)])
set_option maxRecDepth 100000 in
set_option maxHeartbeats 1000000 in
theorem c_X5_sign {sh : Sh} {D : Mem} {m len : Nat} {tx : Nat → Int32} {l : LxS} {de mn : Nat} (hm : IsMo sh m) (hC : MlOk D m len tx) (hl : l.1 ≤ 6000) (c : Int32) : Calls mX5_sign 2 0 0 [.inr (some (m)), .inl (c)] sh (QL D m l de mn) (none) sh (QL (D) m (sgF (gF len tx) c l) (de) (mn)) := by
  refine Calls.of plX5 (Nat.le_of_ble_eq_true rfl) ?_
  have h100 := hC.2.1
  show WP mX5_sign 2 0 0 0 [some (.inr (some (m))), some (.inl (c))] [] sh (QL D m l de mn) (none) sh (QL (D) m (sgF (gF len tx) c l) (de) (mn))
  refine zw_aload_n dX5_sign_0 rfl ?_
  refine zw_cVi dX5_sign_1 (c_X5_here hm hC (by omega)) rfl okX5_here ml_X5_138 hm.i hm.k (by decide) rfl (Nat.le_of_ble_eq_true rfl) (Nat.le_of_ble_eq_true rfl) ?_
  refine zw_iload_n dX5_sign_4 rfl ?_
  refine zw_icmp_eq (tgt := 16) dX5_sign_5 (by decide) (fun c5 => ?_) (fun c5 => ?_)
  · refine zw_aload_n dX5_sign_16 rfl ?_
    refine zw_dup dX5_sign_17 ?_
    refine zw_getIv (j := 6) (kd := 5) (v := (nI ((l).1))) dX5_sign_18 hm.i hm.k (by decide) (by decide) fl_X5_132 rfl QL_at ?_
    refine zw_iconst (v := nI 1) dX5_sign_21 (by decide) ?_
    refine zw_iaddn dX5_sign_22 ?_
    refine zw_putI (j := 6) (kd := 5) dX5_sign_23 hm.i hm.k (by decide) (by decide) fl_X5_132 rfl rfl rfl ?_
    refine zw_mem QL_uat ?_
    exact zw_vretE dX5_sign_26 rfl rfl rfl (by unfold sgF; rw [if_pos c5])
  · refine zw_aload_n dX5_sign_8 rfl ?_
    refine zw_aload_n dX5_sign_9 rfl ?_
    refine zw_getIv (j := 6) (kd := 5) (v := (nI ((l).1))) dX5_sign_10 hm.i hm.k (by decide) (by decide) fl_X5_132 rfl QL_at ?_
    refine zw_cVv dX5_sign_13 (c_X5_fails hm hC (by omega) _ (nI_ne_m1 (by omega))) rfl okX5_fails ml_X5_141 hm.i hm.k (by decide) rfl (Nat.le_of_ble_eq_true rfl) (Nat.le_of_ble_eq_true rfl) ?_
    obtain ⟨l13, e13, b13⟩ : ∃ z : LxS, lFA (nI ((l).1)) (l) = z ∧ z.1 ≤ l.1 + 0 := ⟨_, rfl, (show (l).1 ≤ _ by omega)⟩
    rw [e13]
    refine zw_aload_n dX5_sign_16 rfl ?_
    refine zw_dup dX5_sign_17 ?_
    refine zw_getIv (j := 6) (kd := 5) (v := (nI ((l13).1))) dX5_sign_18 hm.i hm.k (by decide) (by decide) fl_X5_132 rfl QL_at ?_
    refine zw_iconst (v := nI 1) dX5_sign_21 (by decide) ?_
    refine zw_iaddn dX5_sign_22 ?_
    refine zw_putI (j := 6) (kd := 5) dX5_sign_23 hm.i hm.k (by decide) (by decide) fl_X5_132 rfl rfl rfl ?_
    refine zw_mem QL_uat ?_
    exact zw_vretE dX5_sign_26 rfl rfl rfl (by unfold sgF; rw [if_neg c5, ← e13] <;> rfl)
theorem nmF_1 {g : Nat → Int32} {lo hi : Int32} {l : LxS} (h : ¬ l.2 = (-1)) : nmF g lo hi l = (l, lo) := if_pos h
theorem nmF_2 {g : Nat → Int32} {lo hi : Int32} {l : LxS} (h : l.2 = (-1)) (h2 : ¬ isD (g l.1)) : nmF g lo hi l = ((l.1, nI l.1), lo) := by
  unfold nmF
  rw [if_neg (fun z => z h), if_pos h2]
theorem nmF_3 {g : Nat → Int32} {lo hi : Int32} {l : LxS} {at' : Nat} {v : Int32} (h : l.2 = (-1)) (h2 : isD (g l.1)) (hx : nmL g l.1 3 (l.1 + 1) (g l.1 - nI 48) = (at', v)) : nmF g lo hi l = ((at', if lo ≤ v ∧ v ≤ hi then (if isD (g at') then nI at' else (-1)) else if (if isD (g at') then nI at' else (-1)) = (-1) then nI l.1 else (if isD (g at') then nI at' else (-1))), v) := by
  unfold nmF
  rw [if_neg (fun z => z h), if_neg (fun z => z h2), hx]
theorem nmL_go {g : Nat → Int32} {bg n at' : Nat} {v : Int32} (h : 0 < v ∧ at' - bg < 3 ∧ isD (g at')) : nmL g bg (n + 1) at' v = nmL g bg n (at' + 1) (nI 10 * v + g at' - nI 48) := if_pos h
theorem nmL_no {g : Nat → Int32} {bg n at' : Nat} {v : Int32} (h : ¬ (0 < v ∧ at' - bg < 3 ∧ isD (g at'))) : nmL g bg n at' v = (at', v) := by
  cases n with
  | zero => rfl
  | succ n => exact if_neg h
set_option maxRecDepth 100000 in
set_option maxHeartbeats 1000000 in
theorem c_X5_number {sh : Sh} {D : Mem} {m len : Nat} {tx : Nat → Int32} {l : LxS} {de mn : Nat} (hm : IsMo sh m) (hC : MlOk D m len tx) (hl : l.1 ≤ 5900) (lo hi : Int32) : Calls mX5_number 2 0 0 [.inr (some (m)), .inl (lo), .inl (hi)] sh (QL D m l de mn) (some (.inl (nmF (gF len tx) lo hi l).2)) sh (QL (D) m ((nmF (gF len tx) lo hi l).1) (de) (mn)) := by
  refine Calls.of plX5 (Nat.le_of_ble_eq_true rfl) ?_
  have h100 := hC.2.1
  show WP mX5_number 2 0 0 0 [some (.inr (some (m))), some (.inl (lo)), some (.inl (hi)), none, none] [] sh (QL D m l de mn) (some (.inl (nmF (gF len tx) lo hi l).2)) sh (QL (D) m ((nmF (gF len tx) lo hi l).1) (de) (mn))
  refine zw_aload_n dX5_number_0 rfl ?_
  refine zw_getIv (j := 9) (kd := 5) (v := (b01c (¬ (l).2 = (-1)))) dX5_number_1 hm.i hm.k (by decide) (by decide) fl_X5_118 rfl QL_f ?_
  refine zw_if_eq_c (tgt := 9) dX5_number_4 (by decide) (fun c4 => ?_) (fun c4 => ?_)
  · have hok : l.2 = (-1) := Classical.not_not.mp c4
    refine zw_aload_n dX5_number_9 rfl ?_
    refine zw_cVi dX5_number_10 (c_X5_here hm hC (by omega)) rfl okX5_here ml_X5_138 hm.i hm.k (by decide) rfl (Nat.le_of_ble_eq_true rfl) (Nat.le_of_ble_eq_true rfl) ?_
    refine zw_bipush (v := nI 48) dX5_number_13 (by decide) ?_
    refine zw_bipush (v := nI 57) dX5_number_15 (by decide) ?_
    refine zw_cSi dX5_number_17 (c_X5_in _ _ _) rfl okX5_in ml_X5_31 (Nat.le_of_ble_eq_true rfl) (Nat.le_of_ble_eq_true rfl) ?_
    refine zw_if_ne_b (tgt := 33) dX5_number_20 (by decide) (fun c20 => ?_) (fun c20 => ?_)
    · refine zw_aload_n dX5_number_33 rfl ?_
      refine zw_getIv (j := 6) (kd := 5) (v := (nI ((l).1))) dX5_number_34 hm.i hm.k (by decide) (by decide) fl_X5_132 rfl QL_at ?_
      refine zw_istore_n dX5_number_37 (by decide) ?_
      refine zw_aload_n dX5_number_38 rfl ?_
      refine zw_cVi dX5_number_39 (c_X5_here hm hC (by omega)) rfl okX5_here ml_X5_138 hm.i hm.k (by decide) rfl (Nat.le_of_ble_eq_true rfl) (Nat.le_of_ble_eq_true rfl) ?_
      refine zw_bipush (v := nI 48) dX5_number_42 (by decide) ?_
      refine zw_isub dX5_number_44 ?_
      refine zw_istore dX5_number_45 (by decide) ?_
      refine zw_aload_n dX5_number_47 rfl ?_
      refine zw_dup dX5_number_48 ?_
      refine zw_getIv (j := 6) (kd := 5) (v := (nI (l.1))) dX5_number_49 hm.i hm.k (by decide) (by decide) fl_X5_132 rfl QL_at ?_
      refine zw_iconst (v := nI 1) dX5_number_52 (by decide) ?_
      refine zw_iaddn dX5_number_53 ?_
      refine zw_putI (j := 6) (kd := 5) dX5_number_54 hm.i hm.k (by decide) (by decide) fl_X5_132 rfl rfl rfl ?_
      refine zw_mem QL_uat ?_
      have J114 : ∀ (at' : Nat) (v : Int32), at' ≤ l.1 + 4 → nmL (gF len tx) l.1 3 (l.1 + 1) ((gF len tx) l.1 - nI 48) = (at', v) → WP mX5_number 2 0 0 114 [some (.inr (some (m))), some (.inl (lo)), some (.inl (hi)), some (.inl (nI (l.1))), some (.inl (v))] [] sh (QL D m (at', l.2) de mn) (some (.inl (nmF (gF len tx) lo hi l).2)) sh (QL (D) m ((nmF (gF len tx) lo hi l).1) (de) (mn)) := by
        intro at' v hat hx
        refine zw_aload_n dX5_number_114 rfl ?_
        refine zw_cVi dX5_number_115 (c_X5_here hm hC (show at' ≤ _ by omega)) rfl okX5_here ml_X5_138 hm.i hm.k (by decide) rfl (Nat.le_of_ble_eq_true rfl) (Nat.le_of_ble_eq_true rfl) ?_
        refine zw_bipush (v := nI 48) dX5_number_118 (by decide) ?_
        refine zw_bipush (v := nI 57) dX5_number_120 (by decide) ?_
        refine zw_cSi dX5_number_122 (c_X5_in _ _ _) rfl okX5_in ml_X5_31 (Nat.le_of_ble_eq_true rfl) (Nat.le_of_ble_eq_true rfl) ?_
        refine zw_if_eq_b (tgt := 136) dX5_number_125 (by decide) (fun c125 => ?_) (fun c125 => ?_)
        · refine zw_iload dX5_number_136 rfl ?_
          refine zw_iload_n dX5_number_138 rfl ?_
          refine zw_iload_n dX5_number_139 rfl ?_
          refine zw_cSi dX5_number_140 (c_X5_in _ _ _) rfl okX5_in ml_X5_31 (Nat.le_of_ble_eq_true rfl) (Nat.le_of_ble_eq_true rfl) ?_
          refine zw_if_ne_b (tgt := 151) dX5_number_143 (by decide) (fun c143 => ?_) (fun c143 => ?_)
          · refine zw_iload dX5_number_151 rfl ?_
            exact zw_iretE dX5_number_153 rfl (by rw [nmF_3 hok c20 hx]) rfl (by rw [nmF_3 hok c20 hx]; simp only [if_neg c125, if_pos c143] <;> simp only [hok])
          · refine zw_aload_n dX5_number_146 rfl ?_
            refine zw_iload_n dX5_number_147 rfl ?_
            refine zw_cVv dX5_number_148 (c_X5_fails hm hC (show at' ≤ _ by omega) _ (nI_ne_m1 (by omega))) rfl okX5_fails ml_X5_141 hm.i hm.k (by decide) rfl (Nat.le_of_ble_eq_true rfl) (Nat.le_of_ble_eq_true rfl) ?_
            obtain ⟨l148, e148, b148⟩ : ∃ z : LxS, lFA (nI (l.1)) ((at', l.2)) = z ∧ z.1 ≤ l.1 + 4 := ⟨_, rfl, (show ((at', l.2)).1 ≤ _ by omega)⟩
            rw [e148]
            refine zw_iload dX5_number_151 rfl ?_
            exact zw_iretE dX5_number_153 rfl (by rw [nmF_3 hok c20 hx]) rfl (by rw [nmF_3 hok c20 hx, ← e148]; unfold lFA; simp only [if_neg c125, if_neg c143, hok, if_true])
        · refine zw_aload_n dX5_number_128 rfl ?_
          refine zw_aload_n dX5_number_129 rfl ?_
          refine zw_getIv (j := 6) (kd := 5) (v := (nI (((at', l.2)).1))) dX5_number_130 hm.i hm.k (by decide) (by decide) fl_X5_132 rfl QL_at ?_
          refine zw_cVv dX5_number_133 (c_X5_fails hm hC (show at' ≤ _ by omega) _ (nI_ne_m1 (by omega))) rfl okX5_fails ml_X5_141 hm.i hm.k (by decide) rfl (Nat.le_of_ble_eq_true rfl) (Nat.le_of_ble_eq_true rfl) ?_
          obtain ⟨l133, e133, b133⟩ : ∃ z : LxS, lFA (nI (((at', l.2)).1)) ((at', l.2)) = z ∧ z.1 ≤ l.1 + 4 := ⟨_, rfl, (show ((at', l.2)).1 ≤ _ by omega)⟩
          rw [e133]
          refine zw_iload dX5_number_136 rfl ?_
          refine zw_iload_n dX5_number_138 rfl ?_
          refine zw_iload_n dX5_number_139 rfl ?_
          refine zw_cSi dX5_number_140 (c_X5_in _ _ _) rfl okX5_in ml_X5_31 (Nat.le_of_ble_eq_true rfl) (Nat.le_of_ble_eq_true rfl) ?_
          refine zw_if_ne_b (tgt := 151) dX5_number_143 (by decide) (fun c143 => ?_) (fun c143 => ?_)
          · refine zw_iload dX5_number_151 rfl ?_
            exact zw_iretE dX5_number_153 rfl (by rw [nmF_3 hok c20 hx]) rfl (by rw [nmF_3 hok c20 hx, ← e133]; unfold lFA; simp only [if_pos c125, if_pos c143, hok, if_true])
          · refine zw_aload_n dX5_number_146 rfl ?_
            refine zw_iload_n dX5_number_147 rfl ?_
            refine zw_cVv dX5_number_148 (c_X5_fails hm hC (by omega) _ (nI_ne_m1 (by omega))) rfl okX5_fails ml_X5_141 hm.i hm.k (by decide) rfl (Nat.le_of_ble_eq_true rfl) (Nat.le_of_ble_eq_true rfl) ?_
            obtain ⟨l148, e148, b148⟩ : ∃ z : LxS, lFA (nI (l.1)) (l133) = z ∧ z.1 ≤ l.1 + 4 := ⟨_, rfl, (show (l133).1 ≤ _ by omega)⟩
            rw [e148]
            refine zw_iload dX5_number_151 rfl ?_
            exact zw_iretE dX5_number_153 rfl (by rw [nmF_3 hok c20 hx]) rfl (by rw [nmF_3 hok c20 hx, ← e148, ← e133]; unfold lFA; simp only [if_pos c125, if_neg c143, hok, if_true])
      have L57 : ∀ (n_57 k : Nat), k + n_57 = 2 → ∀ (v : Int32), nmL (gF len tx) l.1 3 (l.1 + 1) ((gF len tx) l.1 - nI 48) = nmL (gF len tx) l.1 (n_57 + 1) (l.1 + 1 + k) v → WP mX5_number 2 0 0 57 [some (.inr (some (m))), some (.inl (lo)), some (.inl (hi)), some (.inl (nI (l.1))), some (.inl (v))] [] sh (QL D m (l.1 + 1 + (k), l.2) de mn) (some (.inl (nmF (gF len tx) lo hi l).2)) sh (QL (D) m ((nmF (gF len tx) lo hi l).1) (de) (mn)) := by
        intro n_57
        induction n_57 with
        | zero =>
          intro k hk57 v hx
          have ek57 : 2 = k := by omega
          subst ek57
          have J114 : ∀ (at' : Nat) (v : Int32), at' ≤ l.1 + 4 → nmL (gF len tx) l.1 3 (l.1 + 1) ((gF len tx) l.1 - nI 48) = (at', v) → WP mX5_number 2 0 0 114 [some (.inr (some (m))), some (.inl (lo)), some (.inl (hi)), some (.inl (nI (l.1))), some (.inl (v))] [] sh (QL D m (at', l.2) de mn) (some (.inl (nmF (gF len tx) lo hi l).2)) sh (QL (D) m ((nmF (gF len tx) lo hi l).1) (de) (mn)) := by
            intro at' v hat hx
            refine zw_aload_n dX5_number_114 rfl ?_
            refine zw_cVi dX5_number_115 (c_X5_here hm hC (show at' ≤ _ by omega)) rfl okX5_here ml_X5_138 hm.i hm.k (by decide) rfl (Nat.le_of_ble_eq_true rfl) (Nat.le_of_ble_eq_true rfl) ?_
            refine zw_bipush (v := nI 48) dX5_number_118 (by decide) ?_
            refine zw_bipush (v := nI 57) dX5_number_120 (by decide) ?_
            refine zw_cSi dX5_number_122 (c_X5_in _ _ _) rfl okX5_in ml_X5_31 (Nat.le_of_ble_eq_true rfl) (Nat.le_of_ble_eq_true rfl) ?_
            refine zw_if_eq_b (tgt := 136) dX5_number_125 (by decide) (fun c125 => ?_) (fun c125 => ?_)
            · refine zw_iload dX5_number_136 rfl ?_
              refine zw_iload_n dX5_number_138 rfl ?_
              refine zw_iload_n dX5_number_139 rfl ?_
              refine zw_cSi dX5_number_140 (c_X5_in _ _ _) rfl okX5_in ml_X5_31 (Nat.le_of_ble_eq_true rfl) (Nat.le_of_ble_eq_true rfl) ?_
              refine zw_if_ne_b (tgt := 151) dX5_number_143 (by decide) (fun c143 => ?_) (fun c143 => ?_)
              · refine zw_iload dX5_number_151 rfl ?_
                exact zw_iretE dX5_number_153 rfl (by rw [nmF_3 hok c20 hx]) rfl (by rw [nmF_3 hok c20 hx]; simp only [if_neg c125, if_pos c143] <;> simp only [hok])
              · refine zw_aload_n dX5_number_146 rfl ?_
                refine zw_iload_n dX5_number_147 rfl ?_
                refine zw_cVv dX5_number_148 (c_X5_fails hm hC (show at' ≤ _ by omega) _ (nI_ne_m1 (by omega))) rfl okX5_fails ml_X5_141 hm.i hm.k (by decide) rfl (Nat.le_of_ble_eq_true rfl) (Nat.le_of_ble_eq_true rfl) ?_
                obtain ⟨l148, e148, b148⟩ : ∃ z : LxS, lFA (nI (l.1)) ((at', l.2)) = z ∧ z.1 ≤ l.1 + 4 := ⟨_, rfl, (show ((at', l.2)).1 ≤ _ by omega)⟩
                rw [e148]
                refine zw_iload dX5_number_151 rfl ?_
                exact zw_iretE dX5_number_153 rfl (by rw [nmF_3 hok c20 hx]) rfl (by rw [nmF_3 hok c20 hx, ← e148]; unfold lFA; simp only [if_neg c125, if_neg c143, hok, if_true])
            · refine zw_aload_n dX5_number_128 rfl ?_
              refine zw_aload_n dX5_number_129 rfl ?_
              refine zw_getIv (j := 6) (kd := 5) (v := (nI (((at', l.2)).1))) dX5_number_130 hm.i hm.k (by decide) (by decide) fl_X5_132 rfl QL_at ?_
              refine zw_cVv dX5_number_133 (c_X5_fails hm hC (show at' ≤ _ by omega) _ (nI_ne_m1 (by omega))) rfl okX5_fails ml_X5_141 hm.i hm.k (by decide) rfl (Nat.le_of_ble_eq_true rfl) (Nat.le_of_ble_eq_true rfl) ?_
              obtain ⟨l133, e133, b133⟩ : ∃ z : LxS, lFA (nI (((at', l.2)).1)) ((at', l.2)) = z ∧ z.1 ≤ l.1 + 4 := ⟨_, rfl, (show ((at', l.2)).1 ≤ _ by omega)⟩
              rw [e133]
              refine zw_iload dX5_number_136 rfl ?_
              refine zw_iload_n dX5_number_138 rfl ?_
              refine zw_iload_n dX5_number_139 rfl ?_
              refine zw_cSi dX5_number_140 (c_X5_in _ _ _) rfl okX5_in ml_X5_31 (Nat.le_of_ble_eq_true rfl) (Nat.le_of_ble_eq_true rfl) ?_
              refine zw_if_ne_b (tgt := 151) dX5_number_143 (by decide) (fun c143 => ?_) (fun c143 => ?_)
              · refine zw_iload dX5_number_151 rfl ?_
                exact zw_iretE dX5_number_153 rfl (by rw [nmF_3 hok c20 hx]) rfl (by rw [nmF_3 hok c20 hx, ← e133]; unfold lFA; simp only [if_pos c125, if_pos c143, hok, if_true])
              · refine zw_aload_n dX5_number_146 rfl ?_
                refine zw_iload_n dX5_number_147 rfl ?_
                refine zw_cVv dX5_number_148 (c_X5_fails hm hC (by omega) _ (nI_ne_m1 (by omega))) rfl okX5_fails ml_X5_141 hm.i hm.k (by decide) rfl (Nat.le_of_ble_eq_true rfl) (Nat.le_of_ble_eq_true rfl) ?_
                obtain ⟨l148, e148, b148⟩ : ∃ z : LxS, lFA (nI (l.1)) (l133) = z ∧ z.1 ≤ l.1 + 4 := ⟨_, rfl, (show (l133).1 ≤ _ by omega)⟩
                rw [e148]
                refine zw_iload dX5_number_151 rfl ?_
                exact zw_iretE dX5_number_153 rfl (by rw [nmF_3 hok c20 hx]) rfl (by rw [nmF_3 hok c20 hx, ← e148, ← e133]; unfold lFA; simp only [if_pos c125, if_neg c143, hok, if_true])
          refine zw_iload dX5_number_57 rfl ?_
          refine zw_if_le (tgt := 114) dX5_number_59 (by decide) (fun c59 => ?_) (fun c59 => ?_)
          · exact WP.sub (J114 _ v (by omega) (hx.trans (nmL_no (fun z => c59 z.1)))) ⟨rfl, rfl, rfl, rfl, rfl, trivial⟩
          · refine zw_aload_n dX5_number_62 rfl ?_
            refine zw_getIv (j := 6) (kd := 5) (v := (nI (((l.1 + 1 + (2), l.2)).1))) dX5_number_63 hm.i hm.k (by decide) (by decide) fl_X5_132 rfl QL_at ?_
            refine zw_iload_n dX5_number_66 rfl ?_
            refine zw_isubn dX5_number_67 (by omega) ?_
            refine zw_iconst (v := nI 3) dX5_number_68 (by decide) ?_
            refine zw_icmp_ge_n (tgt := 114) dX5_number_69 (by decide) (by omega) (by omega) (fun c69 => ?_) (fun c69 => by omega)
            exact WP.sub (J114 _ v (by omega) (hx.trans (nmL_no (fun z => by have := z.2.1; omega)))) ⟨rfl, rfl, rfl, rfl, rfl, trivial⟩
        | succ n_57 ih57 =>
          intro k hk57 v hx
          have hlt57 : k < 2 := by omega
          have J114 : ∀ (at' : Nat) (v : Int32), at' ≤ l.1 + 4 → nmL (gF len tx) l.1 3 (l.1 + 1) ((gF len tx) l.1 - nI 48) = (at', v) → WP mX5_number 2 0 0 114 [some (.inr (some (m))), some (.inl (lo)), some (.inl (hi)), some (.inl (nI (l.1))), some (.inl (v))] [] sh (QL D m (at', l.2) de mn) (some (.inl (nmF (gF len tx) lo hi l).2)) sh (QL (D) m ((nmF (gF len tx) lo hi l).1) (de) (mn)) := by
            intro at' v hat hx
            refine zw_aload_n dX5_number_114 rfl ?_
            refine zw_cVi dX5_number_115 (c_X5_here hm hC (show at' ≤ _ by omega)) rfl okX5_here ml_X5_138 hm.i hm.k (by decide) rfl (Nat.le_of_ble_eq_true rfl) (Nat.le_of_ble_eq_true rfl) ?_
            refine zw_bipush (v := nI 48) dX5_number_118 (by decide) ?_
            refine zw_bipush (v := nI 57) dX5_number_120 (by decide) ?_
            refine zw_cSi dX5_number_122 (c_X5_in _ _ _) rfl okX5_in ml_X5_31 (Nat.le_of_ble_eq_true rfl) (Nat.le_of_ble_eq_true rfl) ?_
            refine zw_if_eq_b (tgt := 136) dX5_number_125 (by decide) (fun c125 => ?_) (fun c125 => ?_)
            · refine zw_iload dX5_number_136 rfl ?_
              refine zw_iload_n dX5_number_138 rfl ?_
              refine zw_iload_n dX5_number_139 rfl ?_
              refine zw_cSi dX5_number_140 (c_X5_in _ _ _) rfl okX5_in ml_X5_31 (Nat.le_of_ble_eq_true rfl) (Nat.le_of_ble_eq_true rfl) ?_
              refine zw_if_ne_b (tgt := 151) dX5_number_143 (by decide) (fun c143 => ?_) (fun c143 => ?_)
              · refine zw_iload dX5_number_151 rfl ?_
                exact zw_iretE dX5_number_153 rfl (by rw [nmF_3 hok c20 hx]) rfl (by rw [nmF_3 hok c20 hx]; simp only [if_neg c125, if_pos c143] <;> simp only [hok])
              · refine zw_aload_n dX5_number_146 rfl ?_
                refine zw_iload_n dX5_number_147 rfl ?_
                refine zw_cVv dX5_number_148 (c_X5_fails hm hC (show at' ≤ _ by omega) _ (nI_ne_m1 (by omega))) rfl okX5_fails ml_X5_141 hm.i hm.k (by decide) rfl (Nat.le_of_ble_eq_true rfl) (Nat.le_of_ble_eq_true rfl) ?_
                obtain ⟨l148, e148, b148⟩ : ∃ z : LxS, lFA (nI (l.1)) ((at', l.2)) = z ∧ z.1 ≤ l.1 + 4 := ⟨_, rfl, (show ((at', l.2)).1 ≤ _ by omega)⟩
                rw [e148]
                refine zw_iload dX5_number_151 rfl ?_
                exact zw_iretE dX5_number_153 rfl (by rw [nmF_3 hok c20 hx]) rfl (by rw [nmF_3 hok c20 hx, ← e148]; unfold lFA; simp only [if_neg c125, if_neg c143, hok, if_true])
            · refine zw_aload_n dX5_number_128 rfl ?_
              refine zw_aload_n dX5_number_129 rfl ?_
              refine zw_getIv (j := 6) (kd := 5) (v := (nI (((at', l.2)).1))) dX5_number_130 hm.i hm.k (by decide) (by decide) fl_X5_132 rfl QL_at ?_
              refine zw_cVv dX5_number_133 (c_X5_fails hm hC (show at' ≤ _ by omega) _ (nI_ne_m1 (by omega))) rfl okX5_fails ml_X5_141 hm.i hm.k (by decide) rfl (Nat.le_of_ble_eq_true rfl) (Nat.le_of_ble_eq_true rfl) ?_
              obtain ⟨l133, e133, b133⟩ : ∃ z : LxS, lFA (nI (((at', l.2)).1)) ((at', l.2)) = z ∧ z.1 ≤ l.1 + 4 := ⟨_, rfl, (show ((at', l.2)).1 ≤ _ by omega)⟩
              rw [e133]
              refine zw_iload dX5_number_136 rfl ?_
              refine zw_iload_n dX5_number_138 rfl ?_
              refine zw_iload_n dX5_number_139 rfl ?_
              refine zw_cSi dX5_number_140 (c_X5_in _ _ _) rfl okX5_in ml_X5_31 (Nat.le_of_ble_eq_true rfl) (Nat.le_of_ble_eq_true rfl) ?_
              refine zw_if_ne_b (tgt := 151) dX5_number_143 (by decide) (fun c143 => ?_) (fun c143 => ?_)
              · refine zw_iload dX5_number_151 rfl ?_
                exact zw_iretE dX5_number_153 rfl (by rw [nmF_3 hok c20 hx]) rfl (by rw [nmF_3 hok c20 hx, ← e133]; unfold lFA; simp only [if_pos c125, if_pos c143, hok, if_true])
              · refine zw_aload_n dX5_number_146 rfl ?_
                refine zw_iload_n dX5_number_147 rfl ?_
                refine zw_cVv dX5_number_148 (c_X5_fails hm hC (by omega) _ (nI_ne_m1 (by omega))) rfl okX5_fails ml_X5_141 hm.i hm.k (by decide) rfl (Nat.le_of_ble_eq_true rfl) (Nat.le_of_ble_eq_true rfl) ?_
                obtain ⟨l148, e148, b148⟩ : ∃ z : LxS, lFA (nI (l.1)) (l133) = z ∧ z.1 ≤ l.1 + 4 := ⟨_, rfl, (show (l133).1 ≤ _ by omega)⟩
                rw [e148]
                refine zw_iload dX5_number_151 rfl ?_
                exact zw_iretE dX5_number_153 rfl (by rw [nmF_3 hok c20 hx]) rfl (by rw [nmF_3 hok c20 hx, ← e148, ← e133]; unfold lFA; simp only [if_pos c125, if_neg c143, hok, if_true])
          refine zw_iload dX5_number_57 rfl ?_
          refine zw_if_le (tgt := 114) dX5_number_59 (by decide) (fun c59 => ?_) (fun c59 => ?_)
          · exact WP.sub (J114 _ v (by omega) (hx.trans (nmL_no (fun z => c59 z.1)))) ⟨rfl, rfl, rfl, rfl, rfl, trivial⟩
          · refine zw_aload_n dX5_number_62 rfl ?_
            refine zw_getIv (j := 6) (kd := 5) (v := (nI (((l.1 + 1 + (k), l.2)).1))) dX5_number_63 hm.i hm.k (by decide) (by decide) fl_X5_132 rfl QL_at ?_
            refine zw_iload_n dX5_number_66 rfl ?_
            refine zw_isubn dX5_number_67 (by omega) ?_
            refine zw_iconst (v := nI 3) dX5_number_68 (by decide) ?_
            refine zw_icmp_ge_n (tgt := 114) dX5_number_69 (by decide) (by omega) (by omega) (fun c69 => by omega) (fun c69 => ?_)
            refine zw_aload_n dX5_number_72 rfl ?_
            refine zw_cVi dX5_number_73 (c_X5_here hm hC (show l.1 + 1 + (k) ≤ _ by omega)) rfl okX5_here ml_X5_138 hm.i hm.k (by decide) rfl (Nat.le_of_ble_eq_true rfl) (Nat.le_of_ble_eq_true rfl) ?_
            refine zw_bipush (v := nI 48) dX5_number_76 (by decide) ?_
            refine zw_bipush (v := nI 57) dX5_number_78 (by decide) ?_
            refine zw_cSi dX5_number_80 (c_X5_in _ _ _) rfl okX5_in ml_X5_31 (Nat.le_of_ble_eq_true rfl) (Nat.le_of_ble_eq_true rfl) ?_
            refine zw_if_eq_b (tgt := 114) dX5_number_83 (by decide) (fun c83 => ?_) (fun c83 => ?_)
            · exact WP.sub (J114 _ v (by omega) (hx.trans (nmL_no (fun z => c83 z.2.2)))) ⟨rfl, rfl, rfl, rfl, rfl, trivial⟩
            · refine zw_bipush (v := nI 10) dX5_number_86 (by decide) ?_
              refine zw_iload dX5_number_88 rfl ?_
              refine zw_imul dX5_number_90 ?_
              refine zw_aload_n dX5_number_91 rfl ?_
              refine zw_cVi dX5_number_92 (c_X5_here hm hC (show l.1 + 1 + (k) ≤ _ by omega)) rfl okX5_here ml_X5_138 hm.i hm.k (by decide) rfl (Nat.le_of_ble_eq_true rfl) (Nat.le_of_ble_eq_true rfl) ?_
              refine zw_iadd dX5_number_95 ?_
              refine zw_bipush (v := nI 48) dX5_number_96 (by decide) ?_
              refine zw_isub dX5_number_98 ?_
              refine zw_istore dX5_number_99 (by decide) ?_
              refine zw_aload_n dX5_number_101 rfl ?_
              refine zw_dup dX5_number_102 ?_
              refine zw_getIv (j := 6) (kd := 5) (v := (nI (((l.1 + 1 + (k), l.2)).1))) dX5_number_103 hm.i hm.k (by decide) (by decide) fl_X5_132 rfl QL_at ?_
              refine zw_iconst (v := nI 1) dX5_number_106 (by decide) ?_
              refine zw_iaddn dX5_number_107 ?_
              refine zw_putI (j := 6) (kd := 5) dX5_number_108 hm.i hm.k (by decide) (by decide) fl_X5_132 rfl rfl rfl ?_
              refine zw_mem QL_uat ?_
              refine zw_goto (tgt := 57) dX5_number_111 (by decide) ?_
              exact WP.sub (ih57 (k + 1) (by omega) _ (hx.trans (nmL_go ⟨c59, by omega, c83⟩))) ⟨rfl, rfl, rfl, rfl, rfl, trivial⟩
      exact WP.sub (L57 (2) 0 (by omega) ((gF len tx) l.1 - nI 48) rfl) ⟨rfl, rfl, rfl, rfl, rfl, trivial⟩
    · refine zw_aload_n dX5_number_23 rfl ?_
      refine zw_aload_n dX5_number_24 rfl ?_
      refine zw_getIv (j := 6) (kd := 5) (v := (nI ((l).1))) dX5_number_25 hm.i hm.k (by decide) (by decide) fl_X5_132 rfl QL_at ?_
      refine zw_cVv dX5_number_28 (c_X5_fails hm hC (by omega) _ (nI_ne_m1 (by omega))) rfl okX5_fails ml_X5_141 hm.i hm.k (by decide) rfl (Nat.le_of_ble_eq_true rfl) (Nat.le_of_ble_eq_true rfl) ?_
      obtain ⟨l28, e28, b28⟩ : ∃ z : LxS, lFA (nI ((l).1)) (l) = z ∧ z.1 ≤ l.1 + 0 := ⟨_, rfl, (show (l).1 ≤ _ by omega)⟩
      rw [e28]
      refine zw_iload_n dX5_number_31 rfl ?_
      exact zw_iretE dX5_number_32 rfl (by rw [nmF_2 hok c20]) rfl (by rw [nmF_2 hok c20, ← e28]; unfold lFA; rw [if_pos hok])
  · refine zw_iload_n dX5_number_7 rfl ?_
    exact zw_iretE dX5_number_8 rfl (by rw [nmF_1 c4]) rfl (by rw [nmF_1 c4])
def opC (g : Nat → Int32) (l : LxS) (de : Nat) : Prop := l.2 = (-1) ∧ g l.1 = nI 40 ∧ de < 4
noncomputable def opQ (D : Mem) (m : Nat) (g : Nat → Int32) (l : LxS) (de : Nat) (f : Int32) : Mem × LxS × Nat := @ite _ (opC g l de) (Classical.propDecidable _) (up D (m + 5) (de + 1) (D (m + 5) de * f), (l.1 + 1, l.2), de + 1) (D, lFA (nI l.1) l, de)
theorem opQ_y {D : Mem} {m : Nat} {g : Nat → Int32} {l : LxS} {de : Nat} {f : Int32} (h : opC g l de) : opQ D m g l de f = (up D (m + 5) (de + 1) (D (m + 5) de * f), (l.1 + 1, l.2), de + 1) := if_pos h
theorem opQ_n {D : Mem} {m : Nat} {g : Nat → Int32} {l : LxS} {de : Nat} {f : Int32} (h : ¬ opC g l de) : opQ D m g l de f = (D, lFA (nI l.1) l, de) := if_neg h
set_option maxRecDepth 100000 in
set_option maxHeartbeats 1000000 in
theorem c_X5_opens {sh : Sh} {D : Mem} {m len : Nat} {tx : Nat → Int32} {l : LxS} {de mn : Nat} (hm : IsMo sh m) (hC : MlOk D m len tx) (hl : l.1 ≤ 5900) (hde : de ≤ 4) (f : Int32) : Calls mX5_opens 2 0 0 [.inr (some (m)), .inl (f)] sh (QL D m l de mn) (none) sh (QL ((opQ D m (gF len tx) l de f).1) m ((opQ D m (gF len tx) l de f).2.1) ((opQ D m (gF len tx) l de f).2.2) (mn)) := by
  refine Calls.of plX5 (Nat.le_of_ble_eq_true rfl) ?_
  have h100 := hC.2.1
  show WP mX5_opens 2 0 0 0 [some (.inr (some (m))), some (.inl (f))] [] sh (QL D m l de mn) (none) sh (QL ((opQ D m (gF len tx) l de f).1) m ((opQ D m (gF len tx) l de f).2.1) ((opQ D m (gF len tx) l de f).2.2) (mn))
  refine zw_aload_n dX5_opens_0 rfl ?_
  refine zw_getIv (j := 9) (kd := 5) (v := (b01c (¬ (l).2 = (-1)))) dX5_opens_1 hm.i hm.k (by decide) (by decide) fl_X5_118 rfl QL_f ?_
  refine zw_if_ne_c (tgt := 69) dX5_opens_4 (by decide) (fun c4 => ?_) (fun c4 => ?_)
  · refine zw_aload_n dX5_opens_69 rfl ?_
    refine zw_aload_n dX5_opens_70 rfl ?_
    refine zw_getIv (j := 6) (kd := 5) (v := (nI ((l).1))) dX5_opens_71 hm.i hm.k (by decide) (by decide) fl_X5_132 rfl QL_at ?_
    refine zw_cVv dX5_opens_74 (c_X5_fails hm hC (by omega) _ (nI_ne_m1 (by omega))) rfl okX5_fails ml_X5_141 hm.i hm.k (by decide) rfl (Nat.le_of_ble_eq_true rfl) (Nat.le_of_ble_eq_true rfl) ?_
    obtain ⟨l74, e74, b74⟩ : ∃ z : LxS, lFA (nI ((l).1)) (l) = z ∧ z.1 ≤ l.1 + 0 := ⟨_, rfl, (show (l).1 ≤ _ by omega)⟩
    rw [e74]
    exact zw_vretE dX5_opens_77 rfl rfl rfl (by rw [opQ_n (fun z => c4 z.1), ← e74])
  · refine zw_aload_n dX5_opens_7 rfl ?_
    refine zw_cVi dX5_opens_8 (c_X5_here hm hC (by omega)) rfl okX5_here ml_X5_138 hm.i hm.k (by decide) rfl (Nat.le_of_ble_eq_true rfl) (Nat.le_of_ble_eq_true rfl) ?_
    refine zw_bipush (v := nI 40) dX5_opens_11 (by decide) ?_
    refine zw_icmp_ne (tgt := 69) dX5_opens_13 (by decide) (fun c13 => ?_) (fun c13 => ?_)
    · refine zw_aload_n dX5_opens_69 rfl ?_
      refine zw_aload_n dX5_opens_70 rfl ?_
      refine zw_getIv (j := 6) (kd := 5) (v := (nI ((l).1))) dX5_opens_71 hm.i hm.k (by decide) (by decide) fl_X5_132 rfl QL_at ?_
      refine zw_cVv dX5_opens_74 (c_X5_fails hm hC (by omega) _ (nI_ne_m1 (by omega))) rfl okX5_fails ml_X5_141 hm.i hm.k (by decide) rfl (Nat.le_of_ble_eq_true rfl) (Nat.le_of_ble_eq_true rfl) ?_
      obtain ⟨l74, e74, b74⟩ : ∃ z : LxS, lFA (nI ((l).1)) (l) = z ∧ z.1 ≤ l.1 + 0 := ⟨_, rfl, (show (l).1 ≤ _ by omega)⟩
      rw [e74]
      exact zw_vretE dX5_opens_77 rfl rfl rfl (by rw [opQ_n (fun z => c13 z.2.1), ← e74])
    · refine zw_aload_n dX5_opens_16 rfl ?_
      refine zw_getIv (j := 7) (kd := 5) (v := (nI (de))) dX5_opens_17 hm.i hm.k (by decide) (by decide) fl_X5_122 rfl QL_de ?_
      refine zw_iconst (v := nI 4) dX5_opens_20 (by decide) ?_
      refine zw_icmp_ge_n (tgt := 69) dX5_opens_21 (by decide) (by omega) (by omega) (fun c21 => ?_) (fun c21 => ?_)
      · refine zw_aload_n dX5_opens_69 rfl ?_
        refine zw_aload_n dX5_opens_70 rfl ?_
        refine zw_getIv (j := 6) (kd := 5) (v := (nI ((l).1))) dX5_opens_71 hm.i hm.k (by decide) (by decide) fl_X5_132 rfl QL_at ?_
        refine zw_cVv dX5_opens_74 (c_X5_fails hm hC (by omega) _ (nI_ne_m1 (by omega))) rfl okX5_fails ml_X5_141 hm.i hm.k (by decide) rfl (Nat.le_of_ble_eq_true rfl) (Nat.le_of_ble_eq_true rfl) ?_
        obtain ⟨l74, e74, b74⟩ : ∃ z : LxS, lFA (nI ((l).1)) (l) = z ∧ z.1 ≤ l.1 + 0 := ⟨_, rfl, (show (l).1 ≤ _ by omega)⟩
        rw [e74]
        exact zw_vretE dX5_opens_77 rfl rfl rfl (by rw [opQ_n (fun z => by have := z.2.2; omega), ← e74])
      · refine zw_aload_n dX5_opens_24 rfl ?_
        refine zw_dup dX5_opens_25 ?_
        refine zw_getIv (j := 7) (kd := 5) (v := (nI (de))) dX5_opens_26 hm.i hm.k (by decide) (by decide) fl_X5_122 rfl QL_de ?_
        refine zw_iconst (v := nI 1) dX5_opens_29 (by decide) ?_
        refine zw_iaddn dX5_opens_30 ?_
        refine zw_putI (j := 7) (kd := 5) dX5_opens_31 hm.i hm.k (by decide) (by decide) fl_X5_122 rfl rfl rfl ?_
        refine zw_mem (QL_ude (Classical.not_not.mp c4)) ?_
        refine zw_aload_n dX5_opens_34 rfl ?_
        refine zw_getR (j := 8) (kd := 5) dX5_opens_35 hm.i hm.k (by decide) (by decide) fl_X5_22 rfl hm.r8 ?_
        refine zw_aload_n dX5_opens_38 rfl ?_
        refine zw_getIv (j := 7) (kd := 5) (v := (nI (de + 1))) dX5_opens_39 hm.i hm.k (by decide) (by decide) fl_X5_122 rfl QL_de ?_
        refine zw_aload_n dX5_opens_42 rfl ?_
        refine zw_getR (j := 8) (kd := 5) dX5_opens_43 hm.i hm.k (by decide) (by decide) fl_X5_22 rfl hm.r8 ?_
        refine zw_aload_n dX5_opens_46 rfl ?_
        refine zw_getIv (j := 7) (kd := 5) (v := (nI (de + 1))) dX5_opens_47 hm.i hm.k (by decide) (by decide) fl_X5_122 rfl QL_de ?_
        refine zw_iconst (v := nI 1) dX5_opens_50 (by decide) ?_
        refine zw_isubn dX5_opens_51 (by omega) ?_
        refine zw_ialdv (v := (D (m + 5) de)) dX5_opens_52 hm.i8 hm.k8 hm.L8 rfl (by rw [hm.n8]; omega) (by rw [QL_ne (by omega) (by omega), Nat.add_sub_cancel]) ?_
        refine zw_iload_n dX5_opens_53 rfl ?_
        refine zw_imul dX5_opens_54 ?_
        refine zw_iast dX5_opens_55 hm.i8 hm.k8 hm.L8 rfl (by rw [hm.n8]; omega) ?_
        refine zw_mem (QL_up (by omega) (by omega)) ?_
        refine zw_aload_n dX5_opens_56 rfl ?_
        refine zw_dup dX5_opens_57 ?_
        refine zw_getIv (j := 6) (kd := 5) (v := (nI ((l).1))) dX5_opens_58 hm.i hm.k (by decide) (by decide) fl_X5_132 rfl QL_at ?_
        refine zw_iconst (v := nI 1) dX5_opens_61 (by decide) ?_
        refine zw_iaddn dX5_opens_62 ?_
        refine zw_putI (j := 6) (kd := 5) dX5_opens_63 hm.i hm.k (by decide) (by decide) fl_X5_132 rfl rfl rfl ?_
        refine zw_mem QL_uat ?_
        refine zw_goto (tgt := 77) dX5_opens_66 (by decide) ?_
        exact zw_vretE dX5_opens_77 rfl rfl rfl (by rw [opQ_y ⟨Classical.not_not.mp c4, c13, c21⟩])
theorem QL_init {D : Mem} {m : Nat} : up (up (up (up (up D m 6 (nI 0)) m 7 (nI 0)) (m + 5) 0 (nI 1)) m 13 (nI 0)) m 9 (nI 0) = QL (up D (m + 5) 0 (nI 1)) m (0, -1) 0 0 := by
  funext a j
  by_cases h : a = m
  · subst h
    by_cases h6 : j = 6
    · subst h6; simp [up, upd, QL]
    · by_cases h7 : j = 7
      · subst h7; simp [up, upd, QL]
      · by_cases h13 : j = 13
        · subst h13; simp [up, upd, QL]
        · by_cases h9 : j = 9
          · subst h9; simp [up, upd, QL]
          · by_cases h10 : j = 10
            · subst h10; simp [up, upd, QL]
            · simp [up, upd, QL, h6, h7, h13, h9, h10]
  · by_cases h5 : a = m + 5
    · subst h5
      simp [up, upd, QL]
    · by_cases h8 : a = m + 6
      · subst h8
        simp [up, QL]
      · simp [up, QL, h, h5, h8]
def p2 (g : Nat → Int32) (l : LxS) : LxS := if isSt (g (l.1 + 1) - nI 48) then (l.1 + 1, l.2) else lFA (nI (l.1 + 1)) (l.1 + 1, l.2)
def p3 (g : Nat → Int32) (l : LxS) : LxS := if (p2 g l).2 = (-1) then sgF g (nI 58) ((p2 g l).1 + 1, (p2 g l).2) else ((p2 g l).1 + 1, (p2 g l).2)
def p4 (g : Nat → Int32) (l : LxS) : LxS × Int32 := nmF g (nI 0) (nI 23) (p3 g l)
def p5c (g : Nat → Int32) (l : LxS) : Prop := (p4 g l).1.2 = (-1) ∧ g (p4 g l).1.1 = nI 45
noncomputable def p5 (g : Nat → Int32) (l : LxS) : LxS × Int32 := @ite _ (p5c g l) (Classical.propDecidable _) (nmF g (p4 g l).2 (nI 23) ((p4 g l).1.1 + 1, (p4 g l).1.2)) (p4 g l)
noncomputable def p6 (g : Nat → Int32) (l : LxS) : LxS := if (p5 g l).1.2 = (-1) then sgF g (nI 61) (p5 g l).1 else (p5 g l).1
noncomputable def p7 (g : Nat → Int32) (l : LxS) : LxS × Int32 := nmF g (nI 1) (nI 999) (p6 g l)
noncomputable def p8 (g : Nat → Int32) (l : LxS) : LxS := if (p7 g l).1.2 = (-1) then sgF g (nI 59) (p7 g l).1 else (p7 g l).1
def pw1 (D : Mem) (m mn : Nat) (g : Nat → Int32) (l : LxS) (de : Nat) : Mem := up (up (up D (m + 7) (7 * mn) (if g l.1 = nI 113 then nI 0 else nI 1)) (m + 7) (7 * mn + 5) (nI l.1)) (m + 7) (7 * mn + 6) (nI de)
def pw2 (D : Mem) (m mn : Nat) (g : Nat → Int32) (l : LxS) (de : Nat) : Mem := up (up (up (pw1 D m mn g l de) (m + 7) (7 * mn + 1) (g (l.1 + 1) - nI 48)) (m + 7) (7 * mn + 2) (p4 g l).2) (m + 7) (7 * mn + 3) (p4 g l).2
noncomputable def pw3 (D : Mem) (m mn : Nat) (g : Nat → Int32) (l : LxS) (de : Nat) : Mem := @ite _ (p5c g l) (Classical.propDecidable _) (up (pw2 D m mn g l de) (m + 7) (7 * mn + 3) (p5 g l).2) (pw2 D m mn g l de)
noncomputable def pw4 (D : Mem) (m mn : Nat) (g : Nat → Int32) (l : LxS) (de : Nat) : Mem := up (pw3 D m mn g l de) (m + 7) (7 * mn + 4) ((p7 g l).2 * D (m + 5) de)
theorem p5_y {g : Nat → Int32} {l : LxS} (h : p5c g l) : p5 g l = nmF g (p4 g l).2 (nI 23) ((p4 g l).1.1 + 1, (p4 g l).1.2) := if_pos h
theorem p5_n {g : Nat → Int32} {l : LxS} (h : ¬ p5c g l) : p5 g l = p4 g l := if_neg h
theorem pw3_y {D : Mem} {m mn de : Nat} {g : Nat → Int32} {l : LxS} (h : p5c g l) : pw3 D m mn g l de = up (pw2 D m mn g l de) (m + 7) (7 * mn + 3) (p5 g l).2 := if_pos h
theorem pw3_n {D : Mem} {m mn de : Nat} {g : Nat → Int32} {l : LxS} (h : ¬ p5c g l) : pw3 D m mn g l de = pw2 D m mn g l de := if_neg h
theorem pw3_a {D : Mem} {m mn de a : Nat} {g : Nat → Int32} {l : LxS} (h : a ≠ m + 7) : pw3 D m mn g l de a = D a := by
  by_cases hc : p5c g l
  · rw [pw3_y hc, up_ne h]
    unfold pw2 pw1
    rw [up_ne h, up_ne h, up_ne h, up_ne h, up_ne h, up_ne h]
  · rw [pw3_n hc]
    unfold pw2 pw1
    rw [up_ne h, up_ne h, up_ne h, up_ne h, up_ne h, up_ne h]
set_option maxRecDepth 100000 in
set_option maxHeartbeats 1000000 in
theorem c_X5_readPart {sh : Sh} {D : Mem} {m len : Nat} {tx : Nat → Int32} {l : LxS} {de mn : Nat} (hm : IsMo sh m) (hC : MlOk D m len tx) (hl : l.1 ≤ 5000) (hok : l.2 = (-1)) (hde : de ≤ 4) (hmn : mn ≤ 14) : Calls mX5_readPart 3 0 0 [.inr (some (m))] sh (QL D m l de mn) (none) sh (QL (pw4 D m mn (gF len tx) l de) m (p8 (gF len tx) l) de (mn + 1)) := by
  refine Calls.of plX5 (Nat.le_of_ble_eq_true rfl) ?_
  have h100 := hC.2.1
  show WP mX5_readPart 3 0 0 0 [some (.inr (some (m))), none, none, none] [] sh (QL D m l de mn) (none) sh (QL (pw4 D m mn (gF len tx) l de) m (p8 (gF len tx) l) de (mn + 1))
  refine zw_bipush (v := nI 7) dX5_readPart_0 (by decide) ?_
  refine zw_aload_n dX5_readPart_2 rfl ?_
  refine zw_getIv (j := 13) (kd := 5) (v := (nI (mn))) dX5_readPart_3 hm.i hm.k (by decide) (by decide) fl_X5_144 rfl QL_mn ?_
  refine zw_imuln dX5_readPart_6 ?_
  refine zw_istore_n dX5_readPart_7 (by decide) ?_
  refine zw_aload_n dX5_readPart_8 rfl ?_
  refine zw_getR (j := 12) (kd := 5) dX5_readPart_9 hm.i hm.k (by decide) (by decide) fl_X5_28 rfl hm.r12 ?_
  refine zw_iload_n dX5_readPart_12 rfl ?_
  refine zw_aload_n dX5_readPart_13 rfl ?_
  refine zw_cVi dX5_readPart_14 (c_X5_here hm hC (by omega)) rfl okX5_here ml_X5_138 hm.i hm.k (by decide) rfl (Nat.le_of_ble_eq_true rfl) (Nat.le_of_ble_eq_true rfl) ?_
  refine zw_bipush (v := nI 113) dX5_readPart_17 (by decide) ?_
  have J27 : ∀ (sd : Int32), (if (gF len tx) l.1 = nI 113 then nI 0 else nI 1) = sd → WP mX5_readPart 3 0 0 27 [some (.inr (some (m))), some (.inl (nI (7 * mn))), none, none] [.inl (sd), .inl (nI (7 * mn)), .inr (some (m + 7))] sh (QL D m l de mn) (none) sh (QL (pw4 D m mn (gF len tx) l de) m (p8 (gF len tx) l) de (mn + 1)) := by
    intro sd hsd
    refine zw_iast dX5_readPart_27 hm.i12 hm.k12 hm.L12 rfl (by rw [hm.n12]; omega) ?_
    refine zw_mem (QL_up (by omega) (by omega)) ?_
    refine zw_aload_n dX5_readPart_28 rfl ?_
    refine zw_getR (j := 12) (kd := 5) dX5_readPart_29 hm.i hm.k (by decide) (by decide) fl_X5_28 rfl hm.r12 ?_
    refine zw_iload_n dX5_readPart_32 rfl ?_
    refine zw_iconst (v := nI 5) dX5_readPart_33 (by decide) ?_
    refine zw_iaddn dX5_readPart_34 ?_
    refine zw_aload_n dX5_readPart_35 rfl ?_
    refine zw_getIv (j := 6) (kd := 5) (v := (nI ((l).1))) dX5_readPart_36 hm.i hm.k (by decide) (by decide) fl_X5_132 rfl QL_at ?_
    refine zw_iast dX5_readPart_39 hm.i12 hm.k12 hm.L12 rfl (by rw [hm.n12]; omega) ?_
    refine zw_mem (QL_up (by omega) (by omega)) ?_
    refine zw_aload_n dX5_readPart_40 rfl ?_
    refine zw_getR (j := 12) (kd := 5) dX5_readPart_41 hm.i hm.k (by decide) (by decide) fl_X5_28 rfl hm.r12 ?_
    refine zw_iload_n dX5_readPart_44 rfl ?_
    refine zw_bipush (v := nI 6) dX5_readPart_45 (by decide) ?_
    refine zw_iaddn dX5_readPart_47 ?_
    refine zw_aload_n dX5_readPart_48 rfl ?_
    refine zw_getIv (j := 7) (kd := 5) (v := (nI (de))) dX5_readPart_49 hm.i hm.k (by decide) (by decide) fl_X5_122 rfl QL_de ?_
    refine zw_iast dX5_readPart_52 hm.i12 hm.k12 hm.L12 rfl (by rw [hm.n12]; omega) ?_
    refine zw_mem (QL_up (by omega) (by omega)) ?_
    rw [← hsd]
    refine zw_aload_n dX5_readPart_53 rfl ?_
    refine zw_dup dX5_readPart_54 ?_
    refine zw_getIv (j := 6) (kd := 5) (v := (nI ((l).1))) dX5_readPart_55 hm.i hm.k (by decide) (by decide) fl_X5_132 rfl QL_at ?_
    refine zw_iconst (v := nI 1) dX5_readPart_58 (by decide) ?_
    refine zw_iaddn dX5_readPart_59 ?_
    refine zw_putI (j := 6) (kd := 5) dX5_readPart_60 hm.i hm.k (by decide) (by decide) fl_X5_132 rfl rfl rfl ?_
    refine zw_mem QL_uat ?_
    have hCw : ∀ E : Mem, (∀ a, a ≠ m + 7 → E a = D a) → MlOk E m len tx := fun E h => ⟨by rw [h _ (by omega)]; exact hC.1, hC.2.1, by rw [h _ (by omega)]; exact hC.2.2⟩
    have hC1 : MlOk (pw1 D m mn (gF len tx) l de) m len tx := hCw _ (fun a h => by unfold pw1; rw [up_ne h, up_ne h, up_ne h])
    have hC2 : MlOk (up (pw1 D m mn (gF len tx) l de) (m + 7) (7 * mn + 1) ((gF len tx) (l.1 + 1) - nI 48)) m len tx := hC1.wr (by omega) (by omega)
    have hC4 : MlOk (pw2 D m mn (gF len tx) l de) m len tx := (hC2.wr (by omega) (by omega)).wr (by omega) (by omega)
    have hC3 : MlOk (pw3 D m mn (gF len tx) l de) m len tx := hCw _ (fun a h => pw3_a h)
    show WP mX5_readPart 3 0 0 63 _ _ sh (QL (pw1 D m mn (gF len tx) l de) m (l.1 + 1, l.2) de mn) _ sh _
    refine zw_aload_n dX5_readPart_63 rfl ?_
    refine zw_cVi dX5_readPart_64 (c_X5_here hm hC1 (show l.1 + 1 ≤ _ by omega)) rfl okX5_here ml_X5_138 hm.i hm.k (by decide) rfl (Nat.le_of_ble_eq_true rfl) (Nat.le_of_ble_eq_true rfl) ?_
    refine zw_bipush (v := nI 48) dX5_readPart_67 (by decide) ?_
    refine zw_isub dX5_readPart_69 ?_
    refine zw_istore_n dX5_readPart_70 (by decide) ?_
    refine zw_iload_n dX5_readPart_71 rfl ?_
    refine zw_iconst (v := nI 0) dX5_readPart_72 (by decide) ?_
    refine zw_iconst (v := nI 3) dX5_readPart_73 (by decide) ?_
    refine zw_cSi dX5_readPart_74 (c_X5_in _ _ _) rfl okX5_in ml_X5_31 (Nat.le_of_ble_eq_true rfl) (Nat.le_of_ble_eq_true rfl) ?_
    have J88 : ∀ (l2 : LxS), p2 (gF len tx) l = l2 → l2.1 = l.1 + 1 → WP mX5_readPart 3 0 0 88 [some (.inr (some (m))), some (.inl (nI (7 * mn))), some (.inl (((gF len tx) (l.1 + 1) - nI 48))), none] [] sh (QL (pw1 D m mn (gF len tx) l de) m l2 de mn) (none) sh (QL (pw4 D m mn (gF len tx) l de) m (p8 (gF len tx) l) de (mn + 1)) := by
      intro l2 h2 b2
      refine zw_aload_n dX5_readPart_88 rfl ?_
      refine zw_dup dX5_readPart_89 ?_
      refine zw_getIv (j := 6) (kd := 5) (v := (nI ((l2).1))) dX5_readPart_90 hm.i hm.k (by decide) (by decide) fl_X5_132 rfl QL_at ?_
      refine zw_iconst (v := nI 1) dX5_readPart_93 (by decide) ?_
      refine zw_iaddn dX5_readPart_94 ?_
      refine zw_putI (j := 6) (kd := 5) dX5_readPart_95 hm.i hm.k (by decide) (by decide) fl_X5_132 rfl rfl rfl ?_
      refine zw_mem QL_uat ?_
      refine zw_aload_n dX5_readPart_98 rfl ?_
      refine zw_getR (j := 12) (kd := 5) dX5_readPart_99 hm.i hm.k (by decide) (by decide) fl_X5_28 rfl hm.r12 ?_
      refine zw_iload_n dX5_readPart_102 rfl ?_
      refine zw_iconst (v := nI 1) dX5_readPart_103 (by decide) ?_
      refine zw_iaddn dX5_readPart_104 ?_
      refine zw_iload_n dX5_readPart_105 rfl ?_
      refine zw_iast dX5_readPart_106 hm.i12 hm.k12 hm.L12 rfl (by rw [hm.n12]; omega) ?_
      refine zw_mem (QL_up (by omega) (by omega)) ?_
      refine zw_aload_n dX5_readPart_107 rfl ?_
      refine zw_getIv (j := 9) (kd := 5) (v := (b01c (¬ ((l2.1 + 1, l2.2)).2 = (-1)))) dX5_readPart_108 hm.i hm.k (by decide) (by decide) fl_X5_118 rfl QL_f ?_
      have J120 : ∀ (l3 : LxS), p3 (gF len tx) l = l3 → l3.1 ≤ l.1 + 3 → WP mX5_readPart 3 0 0 120 [some (.inr (some (m))), some (.inl (nI (7 * mn))), none, none] [] sh (QL (up (pw1 D m mn (gF len tx) l de) (m + 7) (7 * mn + 1) ((gF len tx) (l.1 + 1) - nI 48)) m l3 de mn) (none) sh (QL (pw4 D m mn (gF len tx) l de) m (p8 (gF len tx) l) de (mn + 1)) := by
        intro l3 h3 b3
        refine zw_aload_n dX5_readPart_120 rfl ?_
        refine zw_iconst (v := nI 0) dX5_readPart_121 (by decide) ?_
        refine zw_bipush (v := nI 23) dX5_readPart_122 (by decide) ?_
        refine zw_cVi dX5_readPart_124 (c_X5_number hm hC2 (by omega) _ _) rfl okX5_number ml_X5_150 hm.i hm.k (by decide) rfl (Nat.le_of_ble_eq_true rfl) (Nat.le_of_ble_eq_true rfl) ?_
        obtain ⟨l124, e124, b124⟩ : ∃ z : LxS, (nmF (gF len tx) (nI (0)) (nI (23)) (l3)).1 = z ∧ z.1 ≤ l.1 + 7 := ⟨_, rfl, (by have := nmF_le (g := (gF len tx)) (lo := (nI (0))) (hi := (nI (23))) (l := l3); omega)⟩
        rw [e124]
        have e124b : (p4 (gF len tx) l).1 = l124 := by unfold p4; rw [h3]; exact e124
        rw [show (nmF (gF len tx) (nI 0) (nI 23) l3).2 = (p4 (gF len tx) l).2 by unfold p4; rw [h3]]
        refine zw_istore_n dX5_readPart_127 (by decide) ?_
        refine zw_aload_n dX5_readPart_128 rfl ?_
        refine zw_getR (j := 12) (kd := 5) dX5_readPart_129 hm.i hm.k (by decide) (by decide) fl_X5_28 rfl hm.r12 ?_
        refine zw_iload_n dX5_readPart_132 rfl ?_
        refine zw_iconst (v := nI 2) dX5_readPart_133 (by decide) ?_
        refine zw_iaddn dX5_readPart_134 ?_
        refine zw_iload_n dX5_readPart_135 rfl ?_
        refine zw_iast dX5_readPart_136 hm.i12 hm.k12 hm.L12 rfl (by rw [hm.n12]; omega) ?_
        refine zw_mem (QL_up (by omega) (by omega)) ?_
        refine zw_aload_n dX5_readPart_137 rfl ?_
        refine zw_getR (j := 12) (kd := 5) dX5_readPart_138 hm.i hm.k (by decide) (by decide) fl_X5_28 rfl hm.r12 ?_
        refine zw_iload_n dX5_readPart_141 rfl ?_
        refine zw_iconst (v := nI 3) dX5_readPart_142 (by decide) ?_
        refine zw_iaddn dX5_readPart_143 ?_
        refine zw_iload_n dX5_readPart_144 rfl ?_
        refine zw_iast dX5_readPart_145 hm.i12 hm.k12 hm.L12 rfl (by rw [hm.n12]; omega) ?_
        refine zw_mem (QL_up (by omega) (by omega)) ?_
        refine zw_aload_n dX5_readPart_146 rfl ?_
        refine zw_getIv (j := 9) (kd := 5) (v := (b01c (¬ (l124).2 = (-1)))) dX5_readPart_147 hm.i hm.k (by decide) (by decide) fl_X5_118 rfl QL_f ?_
        have J187 : ∀ (l5 : LxS), (p5 (gF len tx) l).1 = l5 → l5.1 ≤ l.1 + 12 → WP mX5_readPart 3 0 0 187 [some (.inr (some (m))), some (.inl (nI (7 * mn))), none, none] [] sh (QL (pw3 D m mn (gF len tx) l de) m l5 de mn) (none) sh (QL (pw4 D m mn (gF len tx) l de) m (p8 (gF len tx) l) de (mn + 1)) := by
          intro l5 h5 b5
          refine zw_aload_n dX5_readPart_187 rfl ?_
          refine zw_getIv (j := 9) (kd := 5) (v := (b01c (¬ (l5).2 = (-1)))) dX5_readPart_188 hm.i hm.k (by decide) (by decide) fl_X5_118 rfl QL_f ?_
          have J200 : ∀ (l6 : LxS), p6 (gF len tx) l = l6 → l6.1 ≤ l.1 + 13 → WP mX5_readPart 3 0 0 200 [some (.inr (some (m))), some (.inl (nI (7 * mn))), none, none] [] sh (QL (pw3 D m mn (gF len tx) l de) m l6 de mn) (none) sh (QL (pw4 D m mn (gF len tx) l de) m (p8 (gF len tx) l) de (mn + 1)) := by
            intro l6 h6 b6
            refine zw_aload_n dX5_readPart_200 rfl ?_
            refine zw_getR (j := 12) (kd := 5) dX5_readPart_201 hm.i hm.k (by decide) (by decide) fl_X5_28 rfl hm.r12 ?_
            refine zw_iload_n dX5_readPart_204 rfl ?_
            refine zw_iconst (v := nI 4) dX5_readPart_205 (by decide) ?_
            refine zw_iaddn dX5_readPart_206 ?_
            refine zw_aload_n dX5_readPart_207 rfl ?_
            refine zw_iconst (v := nI 1) dX5_readPart_208 (by decide) ?_
            refine zw_sipush (v := nI 999) dX5_readPart_209 (by decide) ?_
            refine zw_cVi dX5_readPart_212 (c_X5_number hm hC3 (by omega) _ _) rfl okX5_number ml_X5_150 hm.i hm.k (by decide) rfl (Nat.le_of_ble_eq_true rfl) (Nat.le_of_ble_eq_true rfl) ?_
            obtain ⟨l212, e212, b212⟩ : ∃ z : LxS, (nmF (gF len tx) (nI (1)) (nI (999)) (l6)).1 = z ∧ z.1 ≤ l.1 + 17 := ⟨_, rfl, (by have := nmF_le (g := (gF len tx)) (lo := (nI (1))) (hi := (nI (999))) (l := l6); omega)⟩
            rw [e212]
            refine zw_aload_n dX5_readPart_215 rfl ?_
            refine zw_getR (j := 8) (kd := 5) dX5_readPart_216 hm.i hm.k (by decide) (by decide) fl_X5_22 rfl hm.r8 ?_
            refine zw_aload_n dX5_readPart_219 rfl ?_
            refine zw_getIv (j := 7) (kd := 5) (v := (nI (de))) dX5_readPart_220 hm.i hm.k (by decide) (by decide) fl_X5_122 rfl QL_de ?_
            refine zw_ialdv (v := (D (m + 5) de)) dX5_readPart_223 hm.i8 hm.k8 hm.L8 rfl (by rw [hm.n8]; omega) (by rw [QL_ne (by omega) (by omega), pw3_a (by omega)]) ?_
            refine zw_imul dX5_readPart_224 ?_
            refine zw_iast dX5_readPart_225 hm.i12 hm.k12 hm.L12 rfl (by rw [hm.n12]; omega) ?_
            refine zw_mem (QL_up (by omega) (by omega)) ?_
            rw [show (nmF (gF len tx) (nI 1) (nI 999) l6).2 = (p7 (gF len tx) l).2 by unfold p7; rw [h6]]
            have hC6 : MlOk (pw4 D m mn (gF len tx) l de) m len tx := hC3.wr (by omega) (by omega)
            show WP mX5_readPart 3 0 0 226 _ _ sh (QL (pw4 D m mn (gF len tx) l de) m l212 de mn) _ sh _
            refine zw_aload_n dX5_readPart_226 rfl ?_
            refine zw_getIv (j := 9) (kd := 5) (v := (b01c (¬ (l212).2 = (-1)))) dX5_readPart_227 hm.i hm.k (by decide) (by decide) fl_X5_118 rfl QL_f ?_
            have J239 : ∀ (l8 : LxS), p8 (gF len tx) l = l8 → WP mX5_readPart 3 0 0 239 [some (.inr (some (m))), some (.inl (nI (7 * mn))), none, none] [] sh (QL (pw4 D m mn (gF len tx) l de) m l8 de mn) (none) sh (QL (pw4 D m mn (gF len tx) l de) m (p8 (gF len tx) l) de (mn + 1)) := by
              intro l8 h8
              refine zw_aload_n dX5_readPart_239 rfl ?_
              refine zw_dup dX5_readPart_240 ?_
              refine zw_getIv (j := 13) (kd := 5) (v := (nI (mn))) dX5_readPart_241 hm.i hm.k (by decide) (by decide) fl_X5_144 rfl QL_mn ?_
              refine zw_iconst (v := nI 1) dX5_readPart_244 (by decide) ?_
              refine zw_iaddn dX5_readPart_245 ?_
              refine zw_putI (j := 13) (kd := 5) dX5_readPart_246 hm.i hm.k (by decide) (by decide) fl_X5_144 rfl rfl rfl ?_
              refine zw_mem QL_umn ?_
              exact zw_vretE dX5_readPart_249 rfl rfl rfl (by rw [h8])
            refine zw_if_ne_c (tgt := 239) dX5_readPart_230 (by decide) (fun c230 => ?_) (fun c230 => ?_)
            · exact WP.sub (J239 _ (by unfold p8 p7; rw [h6, e212, if_neg c230])) ⟨rfl, rfl, trivial⟩
            · refine zw_aload_n dX5_readPart_233 rfl ?_
              refine zw_bipush (v := nI 59) dX5_readPart_234 (by decide) ?_
              refine zw_cVv dX5_readPart_236 (c_X5_sign hm hC6 (by omega) _) rfl okX5_sign ml_X5_147 hm.i hm.k (by decide) rfl (Nat.le_of_ble_eq_true rfl) (Nat.le_of_ble_eq_true rfl) ?_
              obtain ⟨l236, e236, b236⟩ : ∃ z : LxS, sgF (gF len tx) (nI (59)) (l212) = z ∧ z.1 ≤ l.1 + 18 := ⟨_, rfl, (show (l212).1 + 1 ≤ _ by omega)⟩
              rw [e236]
              exact WP.sub (J239 _ (by unfold p8 p7; rw [h6, e212, if_pos (Classical.not_not.mp c230), ← e236])) ⟨rfl, rfl, trivial⟩
          refine zw_if_ne_c (tgt := 200) dX5_readPart_191 (by decide) (fun c191 => ?_) (fun c191 => ?_)
          · exact WP.sub (J200 _ (by unfold p6; rw [h5, if_neg c191]) (by omega)) ⟨rfl, rfl, trivial⟩
          · refine zw_aload_n dX5_readPart_194 rfl ?_
            refine zw_bipush (v := nI 61) dX5_readPart_195 (by decide) ?_
            refine zw_cVv dX5_readPart_197 (c_X5_sign hm hC3 (by omega) _) rfl okX5_sign ml_X5_147 hm.i hm.k (by decide) rfl (Nat.le_of_ble_eq_true rfl) (Nat.le_of_ble_eq_true rfl) ?_
            obtain ⟨l197, e197, b197⟩ : ∃ z : LxS, sgF (gF len tx) (nI (61)) (l5) = z ∧ z.1 ≤ l.1 + 13 := ⟨_, rfl, (show (l5).1 + 1 ≤ _ by omega)⟩
            rw [e197]
            exact WP.sub (J200 _ (by unfold p6; rw [h5, if_pos (Classical.not_not.mp c191), ← e197]) (by omega)) ⟨rfl, rfl, trivial⟩
        refine zw_if_ne_c (tgt := 187) dX5_readPart_150 (by decide) (fun c150 => ?_) (fun c150 => ?_)
        · have h45 : ¬ p5c (gF len tx) l := by unfold p5c; rw [e124b]; exact fun z => c150 z.1
          refine zw_mem (C2 := QL (pw3 D m mn (gF len tx) l de) m l124 de mn) (by rw [pw3_n h45] <;> rfl) ?_
          exact WP.sub (J187 _ (by rw [p5_n h45]; exact e124b) (by omega)) ⟨rfl, rfl, trivial⟩
        · refine zw_aload_n dX5_readPart_153 rfl ?_
          refine zw_cVi dX5_readPart_154 (c_X5_here hm hC4 (by omega)) rfl okX5_here ml_X5_138 hm.i hm.k (by decide) rfl (Nat.le_of_ble_eq_true rfl) (Nat.le_of_ble_eq_true rfl) ?_
          refine zw_bipush (v := nI 45) dX5_readPart_157 (by decide) ?_
          refine zw_icmp_ne (tgt := 187) dX5_readPart_159 (by decide) (fun c159 => ?_) (fun c159 => ?_)
          · have h45 : ¬ p5c (gF len tx) l := by unfold p5c; rw [e124b]; exact fun z => c159 z.2
            refine zw_mem (C2 := QL (pw3 D m mn (gF len tx) l de) m l124 de mn) (by rw [pw3_n h45] <;> rfl) ?_
            exact WP.sub (J187 _ (by rw [p5_n h45]; exact e124b) (by omega)) ⟨rfl, rfl, trivial⟩
          · refine zw_aload_n dX5_readPart_162 rfl ?_
            refine zw_dup dX5_readPart_163 ?_
            refine zw_getIv (j := 6) (kd := 5) (v := (nI ((l124).1))) dX5_readPart_164 hm.i hm.k (by decide) (by decide) fl_X5_132 rfl QL_at ?_
            refine zw_iconst (v := nI 1) dX5_readPart_167 (by decide) ?_
            refine zw_iaddn dX5_readPart_168 ?_
            refine zw_putI (j := 6) (kd := 5) dX5_readPart_169 hm.i hm.k (by decide) (by decide) fl_X5_132 rfl rfl rfl ?_
            refine zw_mem QL_uat ?_
            refine zw_aload_n dX5_readPart_172 rfl ?_
            refine zw_getR (j := 12) (kd := 5) dX5_readPart_173 hm.i hm.k (by decide) (by decide) fl_X5_28 rfl hm.r12 ?_
            refine zw_iload_n dX5_readPart_176 rfl ?_
            refine zw_iconst (v := nI 3) dX5_readPart_177 (by decide) ?_
            refine zw_iaddn dX5_readPart_178 ?_
            refine zw_aload_n dX5_readPart_179 rfl ?_
            refine zw_iload_n dX5_readPart_180 rfl ?_
            refine zw_bipush (v := nI 23) dX5_readPart_181 (by decide) ?_
            refine zw_cVi dX5_readPart_183 (c_X5_number hm hC4 (show l124.1 + 1 ≤ _ by omega) _ _) rfl okX5_number ml_X5_150 hm.i hm.k (by decide) rfl (Nat.le_of_ble_eq_true rfl) (Nat.le_of_ble_eq_true rfl) ?_
            obtain ⟨l183, e183, b183⟩ : ∃ z : LxS, (nmF (gF len tx) ((p4 (gF len tx) l).2) (nI (23)) ((l124.1 + 1, l124.2))).1 = z ∧ z.1 ≤ l.1 + 12 := ⟨_, rfl, (by have := nmF_le (g := (gF len tx)) (lo := ((p4 (gF len tx) l).2)) (hi := (nI (23))) (l := (l124.1 + 1, l124.2)); omega)⟩
            rw [e183]
            refine zw_iast dX5_readPart_186 hm.i12 hm.k12 hm.L12 rfl (by rw [hm.n12]; omega) ?_
            refine zw_mem (QL_up (by omega) (by omega)) ?_
            have h45 : p5c (gF len tx) l := by unfold p5c; rw [e124b]; exact ⟨Classical.not_not.mp c150, c159⟩
            have e5 : p5 (gF len tx) l = nmF (gF len tx) (p4 (gF len tx) l).2 (nI 23) (l124.1 + 1, l124.2) := by rw [p5_y h45, e124b]
            rw [← e5]
            refine zw_mem (C2 := QL (pw3 D m mn (gF len tx) l de) m l183 de mn) (by rw [pw3_y h45]) ?_
            exact WP.sub (J187 _ (by rw [e5]; exact e183) (by omega)) ⟨rfl, rfl, trivial⟩
      refine zw_if_ne_c (tgt := 120) dX5_readPart_111 (by decide) (fun c111 => ?_) (fun c111 => ?_)
      · exact WP.sub (J120 _ (by unfold p3; rw [h2, if_neg c111]) (by show l2.1 + 1 ≤ _; omega)) ⟨rfl, rfl, trivial⟩
      · refine zw_aload_n dX5_readPart_114 rfl ?_
        refine zw_bipush (v := nI 58) dX5_readPart_115 (by decide) ?_
        refine zw_cVv dX5_readPart_117 (c_X5_sign hm hC2 (show l2.1 + 1 ≤ _ by omega) _) rfl okX5_sign ml_X5_147 hm.i hm.k (by decide) rfl (Nat.le_of_ble_eq_true rfl) (Nat.le_of_ble_eq_true rfl) ?_
        obtain ⟨l117, e117, b117⟩ : ∃ z : LxS, sgF (gF len tx) (nI (58)) ((l2.1 + 1, l2.2)) = z ∧ z.1 ≤ l.1 + 3 := ⟨_, rfl, (show ((l2.1 + 1, l2.2)).1 + 1 ≤ _ by omega)⟩
        rw [e117]
        exact WP.sub (J120 _ (by unfold p3; rw [h2, if_pos (Classical.not_not.mp c111), ← e117]) (by omega)) ⟨rfl, rfl, trivial⟩
    refine zw_if_ne_b (tgt := 88) dX5_readPart_77 (by decide) (fun c77 => ?_) (fun c77 => ?_)
    · exact WP.sub (J88 _ (by unfold p2; rw [if_pos c77]) rfl) ⟨rfl, rfl, rfl, trivial⟩
    · refine zw_aload_n dX5_readPart_80 rfl ?_
      refine zw_aload_n dX5_readPart_81 rfl ?_
      refine zw_getIv (j := 6) (kd := 5) (v := (nI (((l.1 + 1, l.2)).1))) dX5_readPart_82 hm.i hm.k (by decide) (by decide) fl_X5_132 rfl QL_at ?_
      refine zw_cVv dX5_readPart_85 (c_X5_fails hm hC1 (show l.1 + 1 ≤ _ by omega) _ (nI_ne_m1 (by omega))) rfl okX5_fails ml_X5_141 hm.i hm.k (by decide) rfl (Nat.le_of_ble_eq_true rfl) (Nat.le_of_ble_eq_true rfl) ?_
      obtain ⟨l85, e85, b85⟩ : ∃ z : LxS, lFA (nI (((l.1 + 1, l.2)).1)) ((l.1 + 1, l.2)) = z ∧ z.1 ≤ l.1 + 1 := ⟨_, rfl, (show ((l.1 + 1, l.2)).1 ≤ _ by omega)⟩
      rw [e85]
      exact WP.sub (J88 _ (by unfold p2; rw [if_neg c77, ← e85]) (by rw [← e85]; rfl)) ⟨rfl, rfl, rfl, trivial⟩
  refine zw_icmp_ne (tgt := 26) dX5_readPart_19 (by decide) (fun c19 => ?_) (fun c19 => ?_)
  · refine zw_iconst (v := nI 1) dX5_readPart_26 (by decide) ?_
    exact WP.sub (J27 _ (by rw [if_neg c19])) ⟨rfl, rfl, trivial⟩
  · refine zw_iconst (v := nI 0) dX5_readPart_22 (by decide) ?_
    refine zw_goto (tgt := 27) dX5_readPart_23 (by decide) ?_
    exact WP.sub (J27 _ (by rw [if_pos c19])) ⟨rfl, rfl, trivial⟩
abbrev QSt : Type := Mem × LxS × Nat × Nat
def q42 (g : Nat → Int32) (l : LxS) : LxS := if (nmF g (nI 2) (nI 9) l).1.2 = (-1) then sgF g (nI 42) (nmF g (nI 2) (nI 9) l).1 else (nmF g (nI 2) (nI 9) l).1
noncomputable def qpF (m : Nat) (g : Nat → Int32) (t : QSt) : QSt :=
  if g t.2.1.1 = nI 41 ∧ 0 < t.2.2.1 then (t.1, (t.2.1.1 + 1, t.2.1.2), t.2.2.1 - 1, t.2.2.2)
  else if g t.2.1.1 = nI 40 then ((opQ t.1 m g t.2.1 t.2.2.1 (nI 1)).1, (opQ t.1 m g t.2.1 t.2.2.1 (nI 1)).2.1, (opQ t.1 m g t.2.1 t.2.2.1 (nI 1)).2.2, t.2.2.2)
  else if isD (g t.2.1.1) then ((opQ t.1 m g (q42 g t.2.1) t.2.2.1 (nmF g (nI 2) (nI 9) t.2.1).2).1, (opQ t.1 m g (q42 g t.2.1) t.2.2.1 (nmF g (nI 2) (nI 9) t.2.1).2).2.1, (opQ t.1 m g (q42 g t.2.1) t.2.2.1 (nmF g (nI 2) (nI 9) t.2.1).2).2.2, t.2.2.2)
  else if g t.2.1.1 = nI 113 ∨ g t.2.1.1 = nI 110 then (pw4 t.1 m t.2.2.2 g t.2.1 t.2.2.1, p8 g t.2.1, t.2.2.1, t.2.2.2 + 1)
  else (t.1, lFA (nI t.2.1.1) t.2.1, t.2.2.1, t.2.2.2)
theorem sgF_lo {g : Nat → Int32} {c : Int32} {l : LxS} (h1 : l.1 < 2 ^ 31) (h : (sgF g c l).2 = (-1)) : l.2 = (-1) := by
  unfold sgF at h
  simp only [] at h
  by_cases hc : g l.1 = c
  · rw [if_pos hc] at h; exact h
  · rw [if_neg hc] at h
    by_cases h2 : l.2 = (-1)
    · exact h2
    · rw [if_neg h2] at h; exact h
theorem nmF_lo {g : Nat → Int32} {lo hi : Int32} {l : LxS} (h1 : l.1 < 2 ^ 31) (h : (nmF g lo hi l).1.2 = (-1)) : l.2 = (-1) ∧ l.1 + 1 ≤ (nmF g lo hi l).1.1 := by
  by_cases h2 : l.2 = (-1)
  · refine ⟨h2, ?_⟩
    by_cases h3 : isD (g l.1)
    · have h4 := nmL_le (g := g) (bg := l.1) 3 (l.1 + 1) (g l.1 - nI 48)
      unfold nmF
      rw [if_neg (fun z => z h2), if_neg (fun z => z h3)]
      exact h4.1
    · rw [nmF_2 h2 h3] at h
      exact absurd h (nI_ne_m1 h1)
  · rw [nmF_1 h2] at h
    exact absurd h h2
theorem lFA_bad {n : Nat} {l : LxS} (h : n < 2 ^ 31) : ¬ (lFA (nI n) l).2 = (-1) := lFA_ok h
theorem p2_b (g : Nat → Int32) (l : LxS) : (p2 g l).1 = l.1 + 1 := by
  unfold p2
  split <;> rfl
theorem p3_b (g : Nat → Int32) (l : LxS) : (p3 g l).1 ≤ l.1 + 3 ∧ l.1 + 2 ≤ (p3 g l).1 := by
  have h := p2_b g l
  unfold p3
  split
  · show (p2 g l).1 + 1 + 1 ≤ _ ∧ _ ≤ (p2 g l).1 + 1 + 1
    omega
  · show (p2 g l).1 + 1 ≤ _ ∧ _ ≤ (p2 g l).1 + 1
    omega
theorem p3_lo {g : Nat → Int32} {l : LxS} (h : (p3 g l).2 = (-1)) : l.1 + 3 ≤ (p3 g l).1 := by
  have h2 := p2_b g l
  by_cases hc : (p2 g l).2 = (-1)
  · unfold p3
    rw [if_pos hc]
    show _ ≤ (p2 g l).1 + 1 + 1
    omega
  · unfold p3 at h
    rw [if_neg hc] at h
    exact absurd h hc
theorem p5_b (g : Nat → Int32) (l : LxS) : (p4 g l).1.1 ≤ (p5 g l).1.1 ∧ (p5 g l).1.1 ≤ (p4 g l).1.1 + 5 := by
  by_cases h : p5c g l
  · rw [p5_y h]
    have := nmF_le (g := g) (lo := (p4 g l).2) (hi := nI 23) (l := ((p4 g l).1.1 + 1, (p4 g l).1.2))
    simp only [] at this
    omega
  · rw [p5_n h]
    omega
theorem p5_lo {g : Nat → Int32} {l : LxS} (hl : l.1 ≤ 5000) (h : (p5 g l).1.2 = (-1)) : (p4 g l).1.2 = (-1) := by
  by_cases hc : p5c g l
  · exact hc.1
  · rw [p5_n hc] at h
    exact h
theorem p8_b {g : Nat → Int32} {l : LxS} : (p8 g l).1 ≤ l.1 + 18 := by
  have h3 := (p3_b g l).1
  have h4 := nmF_le (g := g) (lo := nI 0) (hi := nI 23) (l := p3 g l)
  have h5 := p5_b g l
  have h6 : (p6 g l).1 ≤ (p5 g l).1.1 + 1 := by
    unfold p6
    split
    · exact Nat.le_refl _
    · omega
  have h7 := nmF_le (g := g) (lo := nI 1) (hi := nI 999) (l := p6 g l)
  have h8 : (p8 g l).1 ≤ (p7 g l).1.1 + 1 := by
    unfold p8
    split
    · exact Nat.le_refl _
    · omega
  unfold p4 at h5
  unfold p7 at h8
  omega
theorem p8_lo {g : Nat → Int32} {l : LxS} (hl : l.1 ≤ 5000) (h : (p8 g l).2 = (-1)) : l.1 + 7 ≤ (p8 g l).1 := by
  have b3 := p3_b g l
  have b4 := nmF_le (g := g) (lo := nI 0) (hi := nI 23) (l := p3 g l)
  have b5 := p5_b g l
  have b6 : (p6 g l).1 ≤ (p5 g l).1.1 + 1 := by
    unfold p6
    split
    · exact Nat.le_refl _
    · omega
  have b7 := nmF_le (g := g) (lo := nI 1) (hi := nI 999) (l := p6 g l)
  have b5' : (p5 g l).1.1 ≤ l.1 + 12 := by unfold p4 at b5; omega
  have h7 : (p7 g l).1.2 = (-1) ∧ (p8 g l).1 = (p7 g l).1.1 + 1 := by
    by_cases hc : (p7 g l).1.2 = (-1)
    · refine ⟨hc, ?_⟩
      unfold p8
      rw [if_pos hc]
      rfl
    · unfold p8 at h
      rw [if_neg hc] at h
      exact absurd h hc
  have h7b : (p7 g l).1.2 = (-1) → (p6 g l).2 = (-1) ∧ (p6 g l).1 + 1 ≤ (p7 g l).1.1 := fun z => nmF_lo (by omega) z
  have h6 := h7b h7.1
  have h5 : (p5 g l).1.2 = (-1) ∧ (p6 g l).1 = (p5 g l).1.1 + 1 := by
    by_cases hc : (p5 g l).1.2 = (-1)
    · refine ⟨hc, ?_⟩
      unfold p6
      rw [if_pos hc]
      rfl
    · have h9 := h6.1
      unfold p6 at h9
      rw [if_neg hc] at h9
      exact absurd h9 hc
  have h4 : (p4 g l).1.2 = (-1) := p5_lo hl h5.1
  have h4b : (p3 g l).2 = (-1) ∧ (p3 g l).1 + 1 ≤ (p4 g l).1.1 := nmF_lo (by omega) h4
  have h3 := p3_lo h4b.1
  omega
theorem opQ_b {D : Mem} {m : Nat} {g : Nat → Int32} {l : LxS} {de : Nat} {f : Int32} (hd : de ≤ 4) : (opQ D m g l de f).2.1.1 ≤ l.1 + 1 ∧ (opQ D m g l de f).2.2 ≤ 4 := by
  by_cases h : opC g l de
  · rw [opQ_y h]
    have := h.2.2
    exact ⟨Nat.le_refl _, by show de + 1 ≤ 4; omega⟩
  · rw [opQ_n h]
    exact ⟨by show l.1 ≤ l.1 + 1; omega, hd⟩
theorem opQ_lo {D : Mem} {m : Nat} {g : Nat → Int32} {l : LxS} {de : Nat} {f : Int32} (hl : l.1 < 2 ^ 31) (h : (opQ D m g l de f).2.1.2 = (-1)) : opC g l de ∧ (opQ D m g l de f).2.1.1 = l.1 + 1 := by
  by_cases hc : opC g l de
  · rw [opQ_y hc]
    exact ⟨hc, rfl⟩
  · rw [opQ_n hc] at h
    exact absurd h (lFA_bad hl)
theorem MlOk.op {D : Mem} {m len : Nat} {tx : Nat → Int32} {g : Nat → Int32} {l : LxS} {de : Nat} {f : Int32} (h : MlOk D m len tx) : MlOk (opQ D m g l de f).1 m len tx := by
  by_cases hc : opC g l de
  · rw [opQ_y hc]
    exact h.wr (by omega) (by omega)
  · rw [opQ_n hc]
    exact h
theorem pw4_a {D : Mem} {m mn de a : Nat} {g : Nat → Int32} {l : LxS} (h : a ≠ m + 7) : pw4 D m mn g l de a = D a := by
  unfold pw4
  rw [up_ne h, pw3_a h]
theorem MlOk.pw {D : Mem} {m len mn de : Nat} {tx : Nat → Int32} {g : Nat → Int32} {l : LxS} (h : MlOk D m len tx) : MlOk (pw4 D m mn g l de) m len tx := ⟨by rw [pw4_a (by omega)]; exact h.1, h.2.1, by rw [pw4_a (by omega)]; exact h.2.2⟩
def QOk (m len : Nat) (tx : Nat → Int32) (t : QSt) : Prop := MlOk t.1 m len tx ∧ t.2.1.1 ≤ 200 ∧ t.2.2.1 ≤ 4
theorem qpF_ok {m len : Nat} {tx : Nat → Int32} {g : Nat → Int32} {t : QSt} (h : QOk m len tx t) (h2 : t.2.1.2 = (-1)) (h3 : t.2.1.1 < len) (h4 : 7 * t.2.2.2 ≤ t.2.1.1) :
    QOk m len tx (qpF m g t) ∧ ((qpF m g t).2.1.2 = (-1) → t.2.1.1 + 1 ≤ (qpF m g t).2.1.1 ∧ 7 * (qpF m g t).2.2.2 ≤ (qpF m g t).2.1.1) := by
  obtain ⟨hC, hl, hd⟩ := h
  have h100 := hC.2.1
  unfold qpF
  split
  · refine ⟨⟨hC, ?_, ?_⟩, fun _ => ⟨Nat.le_refl _, ?_⟩⟩
    · show t.2.1.1 + 1 ≤ 200; omega
    · show t.2.2.1 - 1 ≤ 4; omega
    · show 7 * t.2.2.2 ≤ t.2.1.1 + 1; omega
  · split
    · have hb := opQ_b (D := t.1) (m := m) (g := g) (l := t.2.1) (f := nI 1) hd
      refine ⟨⟨hC.op, ?_, hb.2⟩, fun z => ?_⟩
      · show (opQ t.1 m g t.2.1 t.2.2.1 (nI 1)).2.1.1 ≤ 200; omega
      · have := (opQ_lo (by omega) z).2
        show _ ≤ (opQ t.1 m g t.2.1 t.2.2.1 (nI 1)).2.1.1 ∧ 7 * t.2.2.2 ≤ (opQ t.1 m g t.2.1 t.2.2.1 (nI 1)).2.1.1
        omega
    · split
      · have hn := nmF_le (g := g) (lo := nI 2) (hi := nI 9) (l := t.2.1)
        have hq : (q42 g t.2.1).1 ≤ t.2.1.1 + 5 ∧ t.2.1.1 ≤ (q42 g t.2.1).1 := by
          unfold q42
          split
          · show (nmF g (nI 2) (nI 9) t.2.1).1.1 + 1 ≤ _ ∧ _ ≤ (nmF g (nI 2) (nI 9) t.2.1).1.1 + 1; omega
          · omega
        have hb := opQ_b (D := t.1) (m := m) (g := g) (l := q42 g t.2.1) (f := (nmF g (nI 2) (nI 9) t.2.1).2) hd
        refine ⟨⟨hC.op, ?_, hb.2⟩, fun z => ?_⟩
        · show (opQ t.1 m g (q42 g t.2.1) t.2.2.1 _).2.1.1 ≤ 200; omega
        · have := (opQ_lo (by omega) z).2
          show _ ≤ (opQ t.1 m g (q42 g t.2.1) t.2.2.1 _).2.1.1 ∧ 7 * t.2.2.2 ≤ (opQ t.1 m g (q42 g t.2.1) t.2.2.1 _).2.1.1
          omega
      · split
        · have hb := p8_b (g := g) (l := t.2.1)
          refine ⟨⟨hC.pw, by show (p8 g t.2.1).1 ≤ 200; omega, hd⟩, fun z => ?_⟩
          have := p8_lo (g := g) (l := t.2.1) (by omega) z
          show _ ≤ (p8 g t.2.1).1 ∧ 7 * (t.2.2.2 + 1) ≤ (p8 g t.2.1).1
          omega
        · refine ⟨⟨hC, hl, hd⟩, fun z => absurd z (lFA_bad (by omega))⟩
noncomputable def qrL (m len : Nat) (g : Nat → Int32) : Nat → QSt → QSt
  | 0, t => t
  | n + 1, t => if t.2.1.2 = (-1) ∧ t.2.1.1 < len then qrL m len g n (qpF m g t) else t
theorem qrL_go {m len n : Nat} {g : Nat → Int32} {t : QSt} (h1 : t.2.1.2 = (-1)) (h2 : t.2.1.1 < len) : qrL m len g (n + 1) t = qrL m len g n (qpF m g t) := if_pos ⟨h1, h2⟩
theorem qrL_no {m len n : Nat} {g : Nat → Int32} {t : QSt} (h : ¬ (t.2.1.2 = (-1) ∧ t.2.1.1 < len)) : qrL m len g n t = t := by
  cases n with
  | zero => rfl
  | succ n => exact if_neg h
def qr0 (D : Mem) (m : Nat) : QSt := (up D (m + 5) 0 (nI 1), (0, -1), 0, 0)
noncomputable def qrR (m len : Nat) (tx : Nat → Int32) (D : Mem) : QSt := qrL m len (gF len tx) 101 (qr0 D m)
def qrE (len : Nat) (t : QSt) : LxS := if t.2.1.2 = (-1) ∧ 0 < t.2.2.1 then lFA (nI len) t.2.1 else t.2.1
set_option maxRecDepth 100000 in
set_option maxHeartbeats 1000000 in
theorem c_X5_reads {sh : Sh} {D : Mem} {m len : Nat} {tx : Nat → Int32} (hm : IsMo sh m) (hC : MlOk D m len tx) : Calls mX5_reads 4 0 0 [.inr (some (m))] sh D (none) sh (QL (qrR m len tx D).1 m (qrE len (qrR m len tx D)) (qrR m len tx D).2.2.1 (qrR m len tx D).2.2.2) := by
  refine Calls.of plX5 (Nat.le_of_ble_eq_true rfl) ?_
  have h100 := hC.2.1
  show WP mX5_reads 4 0 0 0 [some (.inr (some (m))), none, none] [] sh (D) (none) sh (QL (qrR m len tx D).1 m (qrE len (qrR m len tx D)) (qrR m len tx D).2.2.1 (qrR m len tx D).2.2.2)
  refine zw_aload_n dX5_reads_0 rfl ?_
  refine zw_iconst (v := nI 0) dX5_reads_1 (by decide) ?_
  refine zw_putI (j := 6) (kd := 5) dX5_reads_2 hm.i hm.k (by decide) (by decide) fl_X5_132 rfl rfl rfl ?_
  refine zw_aload_n dX5_reads_5 rfl ?_
  refine zw_iconst (v := nI 0) dX5_reads_6 (by decide) ?_
  refine zw_putI (j := 7) (kd := 5) dX5_reads_7 hm.i hm.k (by decide) (by decide) fl_X5_122 rfl rfl rfl ?_
  refine zw_aload_n dX5_reads_10 rfl ?_
  refine zw_getR (j := 8) (kd := 5) dX5_reads_11 hm.i hm.k (by decide) (by decide) fl_X5_22 rfl hm.r8 ?_
  refine zw_iconst (v := nI 0) dX5_reads_14 (by decide) ?_
  refine zw_iconst (v := nI 1) dX5_reads_15 (by decide) ?_
  refine zw_iast dX5_reads_16 hm.i8 hm.k8 hm.L8 rfl (by rw [hm.n8]; omega) ?_
  refine zw_aload_n dX5_reads_17 rfl ?_
  refine zw_iconst (v := nI 0) dX5_reads_18 (by decide) ?_
  refine zw_putI (j := 13) (kd := 5) dX5_reads_19 hm.i hm.k (by decide) (by decide) fl_X5_144 rfl rfl rfl ?_
  refine zw_aload_n dX5_reads_22 rfl ?_
  refine zw_iconst (v := nI 0) dX5_reads_23 (by decide) ?_
  refine zw_putZ (j := 9) (kd := 5) dX5_reads_24 hm.i hm.k (by decide) (by decide) fl_X5_118 rfl rfl rfl (Or.inl rfl) ?_
  refine zw_mem QL_init ?_
  have J170 : ∀ (D1 : Mem) (l : LxS) (de mn : Nat), MlOk D1 m len tx → l.1 ≤ 200 → de ≤ 4 → (qrR m len tx D) = (D1, l, de, mn) → WP mX5_reads 4 0 0 170 [some (.inr (some (m))), none, none] [] sh (QL D1 m l de mn) (none) sh (QL (qrR m len tx D).1 m (qrE len (qrR m len tx D)) (qrR m len tx D).2.2.1 (qrR m len tx D).2.2.2) := by
    intro D1 l de mn hC1 hl2 hde hx
    refine zw_aload_n dX5_reads_170 rfl ?_
    refine zw_getIv (j := 9) (kd := 5) (v := (b01c (¬ (l).2 = (-1)))) dX5_reads_171 hm.i hm.k (by decide) (by decide) fl_X5_118 rfl QL_f ?_
    refine zw_if_ne_c (tgt := 192) dX5_reads_174 (by decide) (fun c174 => ?_) (fun c174 => ?_)
    · exact zw_vretE dX5_reads_192 rfl rfl rfl (by rw [hx, show qrE len (D1, l, de, mn) = l by unfold qrE; rw [if_neg (fun z => c174 z.1)]])
    · refine zw_aload_n dX5_reads_177 rfl ?_
      refine zw_getIv (j := 7) (kd := 5) (v := (nI (de))) dX5_reads_178 hm.i hm.k (by decide) (by decide) fl_X5_122 rfl QL_de ?_
      refine zw_if_le_n (tgt := 192) dX5_reads_181 (by decide) (by omega) (fun c181 => ?_) (fun c181 => ?_)
      · exact zw_vretE dX5_reads_192 rfl rfl rfl (by rw [hx, show qrE len (D1, l, de, mn) = l by unfold qrE; rw [if_neg (fun z => by have := z.2; simp only [] at this; omega)]])
      · refine zw_aload_n dX5_reads_184 rfl ?_
        refine zw_aload_n dX5_reads_185 rfl ?_
        refine zw_getIv (j := 5) (kd := 5) (v := (nI (len))) dX5_reads_186 hm.i hm.k (by decide) (by decide) fl_X5_135 rfl ((QL_o (by decide)).trans hC1.1) ?_
        refine zw_cVv dX5_reads_189 (c_X5_fails hm hC1 (by omega) _ (nI_ne_m1 (by omega))) rfl okX5_fails ml_X5_141 hm.i hm.k (by decide) rfl (Nat.le_of_ble_eq_true rfl) (Nat.le_of_ble_eq_true rfl) ?_
        obtain ⟨l189, e189, b189⟩ : ∃ z : LxS, lFA (nI (len)) (l) = z ∧ z.1 ≤ l.1 + 0 := ⟨_, rfl, (show (l).1 ≤ _ by omega)⟩
        rw [e189]
        exact zw_vretE dX5_reads_192 rfl rfl rfl (by rw [hx, show qrE len (D1, l, de, mn) = l189 by unfold qrE; rw [if_pos ⟨Classical.not_not.mp c174, by show 0 < de; omega⟩]; exact e189])
  have L27 : ∀ (n_27 k : Nat), k + n_27 = 101 → ∀ (D1 : Mem) (l : LxS) (de mn : Nat), MlOk D1 m len tx → l.1 ≤ 200 → de ≤ 4 → (l.2 = (-1) → k ≤ l.1 ∧ 7 * mn ≤ l.1) → (qrR m len tx D) = qrL m len (gF len tx) n_27 (D1, l, de, mn) → WP mX5_reads 4 0 0 27 [some (.inr (some (m))), none, none] [] sh (QL D1 m l de mn) (none) sh (QL (qrR m len tx D).1 m (qrE len (qrR m len tx D)) (qrR m len tx D).2.2.1 (qrR m len tx D).2.2.2) := by
    intro n_27
    induction n_27 with
    | zero =>
      intro k hk27 D1 l de mn hC1 hl2 hde hinv hx
      have ek27 : 101 = k := by omega
      subst ek27
      have J170 : ∀ (D1 : Mem) (l : LxS) (de mn : Nat), MlOk D1 m len tx → l.1 ≤ 200 → de ≤ 4 → (qrR m len tx D) = (D1, l, de, mn) → WP mX5_reads 4 0 0 170 [some (.inr (some (m))), none, none] [] sh (QL D1 m l de mn) (none) sh (QL (qrR m len tx D).1 m (qrE len (qrR m len tx D)) (qrR m len tx D).2.2.1 (qrR m len tx D).2.2.2) := by
        intro D1 l de mn hC1 hl2 hde hx
        refine zw_aload_n dX5_reads_170 rfl ?_
        refine zw_getIv (j := 9) (kd := 5) (v := (b01c (¬ (l).2 = (-1)))) dX5_reads_171 hm.i hm.k (by decide) (by decide) fl_X5_118 rfl QL_f ?_
        refine zw_if_ne_c (tgt := 192) dX5_reads_174 (by decide) (fun c174 => ?_) (fun c174 => ?_)
        · exact zw_vretE dX5_reads_192 rfl rfl rfl (by rw [hx, show qrE len (D1, l, de, mn) = l by unfold qrE; rw [if_neg (fun z => c174 z.1)]])
        · refine zw_aload_n dX5_reads_177 rfl ?_
          refine zw_getIv (j := 7) (kd := 5) (v := (nI (de))) dX5_reads_178 hm.i hm.k (by decide) (by decide) fl_X5_122 rfl QL_de ?_
          refine zw_if_le_n (tgt := 192) dX5_reads_181 (by decide) (by omega) (fun c181 => ?_) (fun c181 => ?_)
          · exact zw_vretE dX5_reads_192 rfl rfl rfl (by rw [hx, show qrE len (D1, l, de, mn) = l by unfold qrE; rw [if_neg (fun z => by have := z.2; simp only [] at this; omega)]])
          · refine zw_aload_n dX5_reads_184 rfl ?_
            refine zw_aload_n dX5_reads_185 rfl ?_
            refine zw_getIv (j := 5) (kd := 5) (v := (nI (len))) dX5_reads_186 hm.i hm.k (by decide) (by decide) fl_X5_135 rfl ((QL_o (by decide)).trans hC1.1) ?_
            refine zw_cVv dX5_reads_189 (c_X5_fails hm hC1 (by omega) _ (nI_ne_m1 (by omega))) rfl okX5_fails ml_X5_141 hm.i hm.k (by decide) rfl (Nat.le_of_ble_eq_true rfl) (Nat.le_of_ble_eq_true rfl) ?_
            obtain ⟨l189, e189, b189⟩ : ∃ z : LxS, lFA (nI (len)) (l) = z ∧ z.1 ≤ l.1 + 0 := ⟨_, rfl, (show (l).1 ≤ _ by omega)⟩
            rw [e189]
            exact zw_vretE dX5_reads_192 rfl rfl rfl (by rw [hx, show qrE len (D1, l, de, mn) = l189 by unfold qrE; rw [if_pos ⟨Classical.not_not.mp c174, by show 0 < de; omega⟩]; exact e189])
      refine zw_aload_n dX5_reads_27 rfl ?_
      refine zw_getIv (j := 9) (kd := 5) (v := (b01c (¬ (l).2 = (-1)))) dX5_reads_28 hm.i hm.k (by decide) (by decide) fl_X5_118 rfl QL_f ?_
      refine zw_if_ne_c (tgt := 170) dX5_reads_31 (by decide) (fun c31 => ?_) (fun c31 => ?_)
      · exact WP.sub (J170 _ _ _ _ hC1 hl2 hde (hx.trans (qrL_no (fun z => c31 z.1)))) ⟨rfl, trivial⟩
      · have hok : l.2 = (-1) := Classical.not_not.mp c31
        have hik := (hinv hok).1
        have hmk := (hinv hok).2
        refine zw_aload_n dX5_reads_34 rfl ?_
        refine zw_getIv (j := 6) (kd := 5) (v := (nI ((l).1))) dX5_reads_35 hm.i hm.k (by decide) (by decide) fl_X5_132 rfl QL_at ?_
        refine zw_aload_n dX5_reads_38 rfl ?_
        refine zw_getIv (j := 5) (kd := 5) (v := (nI (len))) dX5_reads_39 hm.i hm.k (by decide) (by decide) fl_X5_135 rfl ((QL_o (by decide)).trans hC1.1) ?_
        refine zw_icmp_ge_n (tgt := 170) dX5_reads_42 (by decide) (by omega) (by omega) (fun c42 => ?_) (fun c42 => by omega)
        exact WP.sub (J170 _ _ _ _ hC1 hl2 hde (hx.trans (qrL_no (fun z => by have := z.2; simp only [] at this; omega)))) ⟨rfl, trivial⟩
    | succ n_27 ih27 =>
      intro k hk27 D1 l de mn hC1 hl2 hde hinv hx
      have hlt27 : k < 101 := by omega
      have J170 : ∀ (D1 : Mem) (l : LxS) (de mn : Nat), MlOk D1 m len tx → l.1 ≤ 200 → de ≤ 4 → (qrR m len tx D) = (D1, l, de, mn) → WP mX5_reads 4 0 0 170 [some (.inr (some (m))), none, none] [] sh (QL D1 m l de mn) (none) sh (QL (qrR m len tx D).1 m (qrE len (qrR m len tx D)) (qrR m len tx D).2.2.1 (qrR m len tx D).2.2.2) := by
        intro D1 l de mn hC1 hl2 hde hx
        refine zw_aload_n dX5_reads_170 rfl ?_
        refine zw_getIv (j := 9) (kd := 5) (v := (b01c (¬ (l).2 = (-1)))) dX5_reads_171 hm.i hm.k (by decide) (by decide) fl_X5_118 rfl QL_f ?_
        refine zw_if_ne_c (tgt := 192) dX5_reads_174 (by decide) (fun c174 => ?_) (fun c174 => ?_)
        · exact zw_vretE dX5_reads_192 rfl rfl rfl (by rw [hx, show qrE len (D1, l, de, mn) = l by unfold qrE; rw [if_neg (fun z => c174 z.1)]])
        · refine zw_aload_n dX5_reads_177 rfl ?_
          refine zw_getIv (j := 7) (kd := 5) (v := (nI (de))) dX5_reads_178 hm.i hm.k (by decide) (by decide) fl_X5_122 rfl QL_de ?_
          refine zw_if_le_n (tgt := 192) dX5_reads_181 (by decide) (by omega) (fun c181 => ?_) (fun c181 => ?_)
          · exact zw_vretE dX5_reads_192 rfl rfl rfl (by rw [hx, show qrE len (D1, l, de, mn) = l by unfold qrE; rw [if_neg (fun z => by have := z.2; simp only [] at this; omega)]])
          · refine zw_aload_n dX5_reads_184 rfl ?_
            refine zw_aload_n dX5_reads_185 rfl ?_
            refine zw_getIv (j := 5) (kd := 5) (v := (nI (len))) dX5_reads_186 hm.i hm.k (by decide) (by decide) fl_X5_135 rfl ((QL_o (by decide)).trans hC1.1) ?_
            refine zw_cVv dX5_reads_189 (c_X5_fails hm hC1 (by omega) _ (nI_ne_m1 (by omega))) rfl okX5_fails ml_X5_141 hm.i hm.k (by decide) rfl (Nat.le_of_ble_eq_true rfl) (Nat.le_of_ble_eq_true rfl) ?_
            obtain ⟨l189, e189, b189⟩ : ∃ z : LxS, lFA (nI (len)) (l) = z ∧ z.1 ≤ l.1 + 0 := ⟨_, rfl, (show (l).1 ≤ _ by omega)⟩
            rw [e189]
            exact zw_vretE dX5_reads_192 rfl rfl rfl (by rw [hx, show qrE len (D1, l, de, mn) = l189 by unfold qrE; rw [if_pos ⟨Classical.not_not.mp c174, by show 0 < de; omega⟩]; exact e189])
      refine zw_aload_n dX5_reads_27 rfl ?_
      refine zw_getIv (j := 9) (kd := 5) (v := (b01c (¬ (l).2 = (-1)))) dX5_reads_28 hm.i hm.k (by decide) (by decide) fl_X5_118 rfl QL_f ?_
      refine zw_if_ne_c (tgt := 170) dX5_reads_31 (by decide) (fun c31 => ?_) (fun c31 => ?_)
      · exact WP.sub (J170 _ _ _ _ hC1 hl2 hde (hx.trans (qrL_no (fun z => c31 z.1)))) ⟨rfl, trivial⟩
      · have hok : l.2 = (-1) := Classical.not_not.mp c31
        have hik := (hinv hok).1
        have hmk := (hinv hok).2
        refine zw_aload_n dX5_reads_34 rfl ?_
        refine zw_getIv (j := 6) (kd := 5) (v := (nI ((l).1))) dX5_reads_35 hm.i hm.k (by decide) (by decide) fl_X5_132 rfl QL_at ?_
        refine zw_aload_n dX5_reads_38 rfl ?_
        refine zw_getIv (j := 5) (kd := 5) (v := (nI (len))) dX5_reads_39 hm.i hm.k (by decide) (by decide) fl_X5_135 rfl ((QL_o (by decide)).trans hC1.1) ?_
        refine zw_icmp_ge_n (tgt := 170) dX5_reads_42 (by decide) (by omega) (by omega) (fun c42 => ?_) (fun c42 => ?_)
        · exact WP.sub (J170 _ _ _ _ hC1 hl2 hde (hx.trans (qrL_no (fun z => by have := z.2; simp only [] at this; omega)))) ⟨rfl, trivial⟩
        · have hlt : l.1 < len := c42
          refine zw_aload_n dX5_reads_45 rfl ?_
          refine zw_cVi dX5_reads_46 (c_X5_here hm hC1 (by omega)) rfl okX5_here ml_X5_138 hm.i hm.k (by decide) rfl (Nat.le_of_ble_eq_true rfl) (Nat.le_of_ble_eq_true rfl) ?_
          refine zw_istore_n dX5_reads_49 (by decide) ?_
          refine zw_iload_n dX5_reads_50 rfl ?_
          refine zw_bipush (v := nI 41) dX5_reads_51 (by decide) ?_
          have J86 : ∀ (h86 : ¬ ((gF len tx) l.1 = nI 41 ∧ 0 < de)), WP mX5_reads 4 0 0 86 [some (.inr (some (m))), some (.inl (((gF len tx) l.1))), none] [] sh (QL D1 m l de mn) (none) sh (QL (qrR m len tx D).1 m (qrE len (qrR m len tx D)) (qrR m len tx D).2.2.1 (qrR m len tx D).2.2.2) := by
            intro h86
            refine zw_iload_n dX5_reads_86 rfl ?_
            refine zw_bipush (v := nI 40) dX5_reads_87 (by decide) ?_
            refine zw_icmp_ne (tgt := 100) dX5_reads_89 (by decide) (fun c89 => ?_) (fun c89 => ?_)
            · refine zw_iload_n dX5_reads_100 rfl ?_
              refine zw_bipush (v := nI 48) dX5_reads_101 (by decide) ?_
              refine zw_bipush (v := nI 57) dX5_reads_103 (by decide) ?_
              refine zw_cSi dX5_reads_105 (c_X5_in _ _ _) rfl okX5_in ml_X5_31 (Nat.le_of_ble_eq_true rfl) (Nat.le_of_ble_eq_true rfl) ?_
              refine zw_if_eq_b (tgt := 140) dX5_reads_108 (by decide) (fun c108 => ?_) (fun c108 => ?_)
              · refine zw_iload_n dX5_reads_140 rfl ?_
                refine zw_bipush (v := nI 113) dX5_reads_141 (by decide) ?_
                refine zw_icmp_eq (tgt := 152) dX5_reads_143 (by decide) (fun c143 => ?_) (fun c143 => ?_)
                · refine zw_aload_n dX5_reads_152 rfl ?_
                  refine zw_cVv dX5_reads_153 (c_X5_readPart hm hC1 (by omega) hok (by omega) (by omega)) rfl okX5_readPart ml_X5_156 hm.i hm.k (by decide) rfl (Nat.le_of_ble_eq_true rfl) (Nat.le_of_ble_eq_true rfl) ?_
                  refine zw_goto (tgt := 167) dX5_reads_156 (by decide) ?_
                  refine zw_goto (tgt := 27) dX5_reads_167 (by decide) ?_
                  have eq : qpF m (gF len tx) (D1, l, de, mn) = (pw4 D1 m mn (gF len tx) l de, p8 (gF len tx) l, de, mn + 1) := by
                    unfold qpF
                    rw [if_neg h86, if_neg c89, if_neg c108, if_pos (Or.inl c143)]
                  have ok := qpF_ok (g := (gF len tx)) (t := (D1, l, de, mn)) ⟨hC1, hl2, hde⟩ hok hlt (hinv hok).2
                  rw [eq] at ok
                  have hx3 := hx.trans (qrL_go hok hlt)
                  rw [eq] at hx3
                  exact WP.sub (ih27 (k + 1) (by omega) _ _ _ _ ok.1.1 ok.1.2.1 ok.1.2.2 (fun h => ⟨by have := (ok.2 h).1; simp only [] at this ⊢; omega, (ok.2 h).2⟩) hx3) ⟨rfl, trivial⟩
                · refine zw_iload_n dX5_reads_146 rfl ?_
                  refine zw_bipush (v := nI 110) dX5_reads_147 (by decide) ?_
                  refine zw_icmp_ne (tgt := 159) dX5_reads_149 (by decide) (fun c149 => ?_) (fun c149 => ?_)
                  · refine zw_aload_n dX5_reads_159 rfl ?_
                    refine zw_aload_n dX5_reads_160 rfl ?_
                    refine zw_getIv (j := 6) (kd := 5) (v := (nI ((l).1))) dX5_reads_161 hm.i hm.k (by decide) (by decide) fl_X5_132 rfl QL_at ?_
                    refine zw_cVv dX5_reads_164 (c_X5_fails hm hC1 (by omega) _ (nI_ne_m1 (by omega))) rfl okX5_fails ml_X5_141 hm.i hm.k (by decide) rfl (Nat.le_of_ble_eq_true rfl) (Nat.le_of_ble_eq_true rfl) ?_
                    obtain ⟨l164, e164, b164⟩ : ∃ z : LxS, lFA (nI ((l).1)) (l) = z ∧ z.1 ≤ l.1 + 0 := ⟨_, rfl, (show (l).1 ≤ _ by omega)⟩
                    rw [e164]
                    refine zw_goto (tgt := 27) dX5_reads_167 (by decide) ?_
                    have eq : qpF m (gF len tx) (D1, l, de, mn) = (D1, l164, de, mn) := by
                      unfold qpF
                      rw [if_neg h86, if_neg c89, if_neg c108, if_neg (fun z => z.elim c143 c149)]; simp only []; rw [e164]
                    have ok := qpF_ok (g := (gF len tx)) (t := (D1, l, de, mn)) ⟨hC1, hl2, hde⟩ hok hlt (hinv hok).2
                    rw [eq] at ok
                    have hx3 := hx.trans (qrL_go hok hlt)
                    rw [eq] at hx3
                    exact WP.sub (ih27 (k + 1) (by omega) _ _ _ _ ok.1.1 ok.1.2.1 ok.1.2.2 (fun h => ⟨by have := (ok.2 h).1; simp only [] at this ⊢; omega, (ok.2 h).2⟩) hx3) ⟨rfl, trivial⟩
                  · refine zw_aload_n dX5_reads_152 rfl ?_
                    refine zw_cVv dX5_reads_153 (c_X5_readPart hm hC1 (by omega) hok (by omega) (by omega)) rfl okX5_readPart ml_X5_156 hm.i hm.k (by decide) rfl (Nat.le_of_ble_eq_true rfl) (Nat.le_of_ble_eq_true rfl) ?_
                    refine zw_goto (tgt := 167) dX5_reads_156 (by decide) ?_
                    refine zw_goto (tgt := 27) dX5_reads_167 (by decide) ?_
                    have eq : qpF m (gF len tx) (D1, l, de, mn) = (pw4 D1 m mn (gF len tx) l de, p8 (gF len tx) l, de, mn + 1) := by
                      unfold qpF
                      rw [if_neg h86, if_neg c89, if_neg c108, if_pos (Or.inr c149)]
                    have ok := qpF_ok (g := (gF len tx)) (t := (D1, l, de, mn)) ⟨hC1, hl2, hde⟩ hok hlt (hinv hok).2
                    rw [eq] at ok
                    have hx3 := hx.trans (qrL_go hok hlt)
                    rw [eq] at hx3
                    exact WP.sub (ih27 (k + 1) (by omega) _ _ _ _ ok.1.1 ok.1.2.1 ok.1.2.2 (fun h => ⟨by have := (ok.2 h).1; simp only [] at this ⊢; omega, (ok.2 h).2⟩) hx3) ⟨rfl, trivial⟩
              · refine zw_aload_n dX5_reads_111 rfl ?_
                refine zw_iconst (v := nI 2) dX5_reads_112 (by decide) ?_
                refine zw_bipush (v := nI 9) dX5_reads_113 (by decide) ?_
                refine zw_cVi dX5_reads_115 (c_X5_number hm hC1 (by omega) _ _) rfl okX5_number ml_X5_150 hm.i hm.k (by decide) rfl (Nat.le_of_ble_eq_true rfl) (Nat.le_of_ble_eq_true rfl) ?_
                obtain ⟨l115, e115, b115⟩ : ∃ z : LxS, (nmF (gF len tx) (nI (2)) (nI (9)) (l)).1 = z ∧ z.1 ≤ l.1 + 4 := ⟨_, rfl, (by have := nmF_le (g := (gF len tx)) (lo := (nI (2))) (hi := (nI (9))) (l := l); omega)⟩
                rw [e115]
                refine zw_istore_n dX5_reads_118 (by decide) ?_
                refine zw_aload_n dX5_reads_119 rfl ?_
                refine zw_getIv (j := 9) (kd := 5) (v := (b01c (¬ (l115).2 = (-1)))) dX5_reads_120 hm.i hm.k (by decide) (by decide) fl_X5_118 rfl QL_f ?_
                refine zw_if_ne_c (tgt := 132) dX5_reads_123 (by decide) (fun c123 => ?_) (fun c123 => ?_)
                · refine zw_aload_n dX5_reads_132 rfl ?_
                  refine zw_iload_n dX5_reads_133 rfl ?_
                  refine zw_cVv dX5_reads_134 (c_X5_opens hm hC1 (by omega) (by omega) _) rfl okX5_opens ml_X5_153 hm.i hm.k (by decide) rfl (Nat.le_of_ble_eq_true rfl) (Nat.le_of_ble_eq_true rfl) ?_
                  refine zw_goto (tgt := 167) dX5_reads_137 (by decide) ?_
                  refine zw_goto (tgt := 27) dX5_reads_167 (by decide) ?_
                  have eq : qpF m (gF len tx) (D1, l, de, mn) = ((opQ D1 m (gF len tx) l115 de (nmF (gF len tx) (nI 2) (nI 9) l).2).1, (opQ D1 m (gF len tx) l115 de (nmF (gF len tx) (nI 2) (nI 9) l).2).2.1, (opQ D1 m (gF len tx) l115 de (nmF (gF len tx) (nI 2) (nI 9) l).2).2.2, mn) := by
                    unfold qpF
                    rw [if_neg h86, if_neg c89, if_pos c108]; simp only []; rw [show q42 (gF len tx) l = l115 by unfold q42; rw [e115, if_neg c123]]
                  have ok := qpF_ok (g := (gF len tx)) (t := (D1, l, de, mn)) ⟨hC1, hl2, hde⟩ hok hlt (hinv hok).2
                  rw [eq] at ok
                  have hx3 := hx.trans (qrL_go hok hlt)
                  rw [eq] at hx3
                  exact WP.sub (ih27 (k + 1) (by omega) _ _ _ _ ok.1.1 ok.1.2.1 ok.1.2.2 (fun h => ⟨by have := (ok.2 h).1; simp only [] at this ⊢; omega, (ok.2 h).2⟩) hx3) ⟨rfl, trivial⟩
                · refine zw_aload_n dX5_reads_126 rfl ?_
                  refine zw_bipush (v := nI 42) dX5_reads_127 (by decide) ?_
                  refine zw_cVv dX5_reads_129 (c_X5_sign hm hC1 (by omega) _) rfl okX5_sign ml_X5_147 hm.i hm.k (by decide) rfl (Nat.le_of_ble_eq_true rfl) (Nat.le_of_ble_eq_true rfl) ?_
                  obtain ⟨l129, e129, b129⟩ : ∃ z : LxS, sgF (gF len tx) (nI (42)) (l115) = z ∧ z.1 ≤ l.1 + 5 := ⟨_, rfl, (show (l115).1 + 1 ≤ _ by omega)⟩
                  rw [e129]
                  refine zw_aload_n dX5_reads_132 rfl ?_
                  refine zw_iload_n dX5_reads_133 rfl ?_
                  refine zw_cVv dX5_reads_134 (c_X5_opens hm hC1 (by omega) (by omega) _) rfl okX5_opens ml_X5_153 hm.i hm.k (by decide) rfl (Nat.le_of_ble_eq_true rfl) (Nat.le_of_ble_eq_true rfl) ?_
                  refine zw_goto (tgt := 167) dX5_reads_137 (by decide) ?_
                  refine zw_goto (tgt := 27) dX5_reads_167 (by decide) ?_
                  have eq : qpF m (gF len tx) (D1, l, de, mn) = ((opQ D1 m (gF len tx) l129 de (nmF (gF len tx) (nI 2) (nI 9) l).2).1, (opQ D1 m (gF len tx) l129 de (nmF (gF len tx) (nI 2) (nI 9) l).2).2.1, (opQ D1 m (gF len tx) l129 de (nmF (gF len tx) (nI 2) (nI 9) l).2).2.2, mn) := by
                    unfold qpF
                    rw [if_neg h86, if_neg c89, if_pos c108]; simp only []; rw [show q42 (gF len tx) l = l129 by unfold q42; rw [e115, if_pos (Classical.not_not.mp c123), e129]]
                  have ok := qpF_ok (g := (gF len tx)) (t := (D1, l, de, mn)) ⟨hC1, hl2, hde⟩ hok hlt (hinv hok).2
                  rw [eq] at ok
                  have hx3 := hx.trans (qrL_go hok hlt)
                  rw [eq] at hx3
                  exact WP.sub (ih27 (k + 1) (by omega) _ _ _ _ ok.1.1 ok.1.2.1 ok.1.2.2 (fun h => ⟨by have := (ok.2 h).1; simp only [] at this ⊢; omega, (ok.2 h).2⟩) hx3) ⟨rfl, trivial⟩
            · refine zw_aload_n dX5_reads_92 rfl ?_
              refine zw_iconst (v := nI 1) dX5_reads_93 (by decide) ?_
              refine zw_cVv dX5_reads_94 (c_X5_opens hm hC1 (by omega) (by omega) _) rfl okX5_opens ml_X5_153 hm.i hm.k (by decide) rfl (Nat.le_of_ble_eq_true rfl) (Nat.le_of_ble_eq_true rfl) ?_
              refine zw_goto (tgt := 167) dX5_reads_97 (by decide) ?_
              refine zw_goto (tgt := 27) dX5_reads_167 (by decide) ?_
              have eq : qpF m (gF len tx) (D1, l, de, mn) = ((opQ D1 m (gF len tx) l de (nI 1)).1, (opQ D1 m (gF len tx) l de (nI 1)).2.1, (opQ D1 m (gF len tx) l de (nI 1)).2.2, mn) := by
                unfold qpF
                rw [if_neg h86, if_pos c89]
              have ok := qpF_ok (g := (gF len tx)) (t := (D1, l, de, mn)) ⟨hC1, hl2, hde⟩ hok hlt (hinv hok).2
              rw [eq] at ok
              have hx3 := hx.trans (qrL_go hok hlt)
              rw [eq] at hx3
              exact WP.sub (ih27 (k + 1) (by omega) _ _ _ _ ok.1.1 ok.1.2.1 ok.1.2.2 (fun h => ⟨by have := (ok.2 h).1; simp only [] at this ⊢; omega, (ok.2 h).2⟩) hx3) ⟨rfl, trivial⟩
          refine zw_icmp_ne (tgt := 86) dX5_reads_53 (by decide) (fun c53 => ?_) (fun c53 => ?_)
          · exact WP.sub (J86 (fun z => c53 z.1)) ⟨rfl, rfl, trivial⟩
          · refine zw_aload_n dX5_reads_56 rfl ?_
            refine zw_getIv (j := 7) (kd := 5) (v := (nI (de))) dX5_reads_57 hm.i hm.k (by decide) (by decide) fl_X5_122 rfl QL_de ?_
            refine zw_if_le_n (tgt := 86) dX5_reads_60 (by decide) (by omega) (fun c60 => ?_) (fun c60 => ?_)
            · exact WP.sub (J86 (fun z => by have := z.2; omega)) ⟨rfl, rfl, trivial⟩
            · refine zw_aload_n dX5_reads_63 rfl ?_
              refine zw_dup dX5_reads_64 ?_
              refine zw_getIv (j := 7) (kd := 5) (v := (nI (de))) dX5_reads_65 hm.i hm.k (by decide) (by decide) fl_X5_122 rfl QL_de ?_
              refine zw_iconst (v := nI 1) dX5_reads_68 (by decide) ?_
              refine zw_isubn dX5_reads_69 (by omega) ?_
              refine zw_putI (j := 7) (kd := 5) dX5_reads_70 hm.i hm.k (by decide) (by decide) fl_X5_122 rfl rfl rfl ?_
              refine zw_mem (QL_ude hok) ?_
              refine zw_aload_n dX5_reads_73 rfl ?_
              refine zw_dup dX5_reads_74 ?_
              refine zw_getIv (j := 6) (kd := 5) (v := (nI ((l).1))) dX5_reads_75 hm.i hm.k (by decide) (by decide) fl_X5_132 rfl QL_at ?_
              refine zw_iconst (v := nI 1) dX5_reads_78 (by decide) ?_
              refine zw_iaddn dX5_reads_79 ?_
              refine zw_putI (j := 6) (kd := 5) dX5_reads_80 hm.i hm.k (by decide) (by decide) fl_X5_132 rfl rfl rfl ?_
              refine zw_mem QL_uat ?_
              refine zw_goto (tgt := 167) dX5_reads_83 (by decide) ?_
              refine zw_goto (tgt := 27) dX5_reads_167 (by decide) ?_
              have eq : qpF m (gF len tx) (D1, l, de, mn) = (D1, (l.1 + 1, l.2), de - 1, mn) := by
                unfold qpF
                rw [if_pos ⟨c53, c60⟩]
              have ok := qpF_ok (g := (gF len tx)) (t := (D1, l, de, mn)) ⟨hC1, hl2, hde⟩ hok hlt (hinv hok).2
              rw [eq] at ok
              have hx3 := hx.trans (qrL_go hok hlt)
              rw [eq] at hx3
              exact WP.sub (ih27 (k + 1) (by omega) _ _ _ _ ok.1.1 ok.1.2.1 ok.1.2.2 (fun h => ⟨by have := (ok.2 h).1; simp only [] at this ⊢; omega, (ok.2 h).2⟩) hx3) ⟨rfl, trivial⟩
  exact WP.sub (L27 (101) 0 (by omega) (up D (m + 5) 0 (nI 1)) (0, -1) 0 0 (hC.wr (by omega) (by omega)) (Nat.zero_le _) (Nat.zero_le _) (fun _ => ⟨Nat.le_refl _, Nat.le_refl _⟩) rfl) ⟨rfl, trivial⟩
