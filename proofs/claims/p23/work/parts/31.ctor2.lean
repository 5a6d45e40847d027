def plG (i : Nat) (sh : Sh) : Nat → Sh
  | 0 => setR (pushS (setR (pushS (setR (pushS sh 6 100) i 0 (some sh.1)) 7 14) i 2 (some (sh.1 + 1))) 6 5) i 7 (some (sh.1 + 2))
  | j + 1 => setR (pushS (plG i sh j) 1 0) (i + 2) j (some (plG i sh j).1)
theorem plG_f {sh : Sh} {i : Nat} (hi : sh.1 = i + 1) (hk : sh.2.1 i = 2) (j : Nat) : (plG i sh j).1 = i + 4 + j ∧ (plG i sh j).2.1 i = 2 ∧ ((plG i sh j).2.2.2 i 0 = some (i + 1) ∧ (plG i sh j).2.1 (i + 1) = 6 ∧ (plG i sh j).2.2.1 (i + 1) = 100) ∧ ((plG i sh j).2.2.2 i 2 = some (i + 2) ∧ (plG i sh j).2.1 (i + 2) = 7 ∧ (plG i sh j).2.2.1 (i + 2) = 14) ∧ ((plG i sh j).2.2.2 i 7 = some (i + 3) ∧ (plG i sh j).2.1 (i + 3) = 6 ∧ (plG i sh j).2.2.1 (i + 3) = 5) ∧ ExtB i sh (plG i sh j) ∧ ∀ t, t < j → (plG i sh j).2.2.2 (i + 2) t = some (i + 4 + t) ∧ (plG i sh j).2.1 (i + 4 + t) = 1 := by
  induction j with
  | zero =>
    obtain ⟨n, kk, ll, rr⟩ := sh
    have hi' : n = i + 1 := hi
    subst hi'
    have hk' : kk i = 2 := hk
    have n1 : ¬ i = i + 1 := by omega
    have n2 : ¬ i = i + 1 + 1 := by omega
    have n3 : ¬ i = i + 1 + 1 + 1 := by omega
    refine ⟨rfl, ?_, ⟨?_, ?_, ?_⟩, ⟨?_, ?_, ?_⟩, ⟨?_, ?_, ?_⟩, ((((((ExtB.rfl0 (Nat.le_succ i)).push).set (Nat.le_refl i)).push).set (Nat.le_refl i)).push).set (Nat.le_refl i), fun t ht => absurd ht (Nat.not_lt_zero t)⟩ <;> simp [plG, setR, pushS, hk', n1, n2, n3]
  | succ j ih =>
    obtain ⟨h1, h2, ⟨a1, a2, a3⟩, ⟨b1, b2, b3⟩, ⟨c1, c2, c3⟩, h6, h7⟩ := ih
    have K : ∀ a, a < i + 4 → (plG i sh (j + 1)).2.1 a = (plG i sh j).2.1 a := fun a ha => pushS_kn (k := 1) (l := 0) (by omega)
    have L : ∀ a, a < i + 4 → (plG i sh (j + 1)).2.2.1 a = (plG i sh j).2.2.1 a := fun a ha => pushS_ln (k := 1) (l := 0) (by omega)
    have R : (plG i sh (j + 1)).2.2.2 i = (plG i sh j).2.2.2 i := (setR_n (by omega)).trans (pushS_rn (by omega))
    refine ⟨by show (plG i sh j).1 + 1 = _; omega, (K _ (by omega)).trans h2, ⟨by rw [R]; exact a1, (K _ (by omega)).trans a2, (L _ (by omega)).trans a3⟩, ⟨by rw [R]; exact b1, (K _ (by omega)).trans b2, (L _ (by omega)).trans b3⟩, ⟨by rw [R]; exact c1, (K _ (by omega)).trans c2, (L _ (by omega)).trans c3⟩, (h6.push).set (by omega), fun t ht => ?_⟩
    by_cases e : t = j
    · subst e
      rw [← h1]
      exact ⟨setR_s, @pushS_k (plG i sh t) 1 0⟩
    · obtain ⟨x1, x2⟩ := h7 t (by omega)
      exact ⟨(setR_o e).trans ((congrFun (pushS_rn (k := 1) (l := 0) (by omega)) _).trans x1), (pushS_kn (k := 1) (l := 0) (by omega)).trans x2⟩
theorem plG_is {sh : Sh} {i : Nat} (hi : sh.1 = i + 1) (hk : sh.2.1 i = 2) : IsPl (plG i sh 14) i := by
  obtain ⟨h1, h2, h3, h4, h5, h6, h7⟩ := plG_f hi hk 14
  exact ⟨by omega, h2, h3, h4, h5, h7⟩
theorem plG_p {s : Sh} {i j : Nat} (a1 : s.1 = i + 4 + j) (b2 : s.2.1 (i + 2) = 7) (b3 : s.2.2.1 (i + 2) = 14) (hj : j < 14) : i < s.1 ∧ i + 1 ≤ s.1 ∧ i + 2 < (pushS s 1 0).1 ∧ (pushS s 1 0).2.1 (i + 2) = 7 ∧ (pushS s 1 0).2.2.1 (i + 2) < 2 ^ 31 ∧ j < (pushS s 1 0).2.2.1 (i + 2) := by
  have e : i + 2 ≠ s.1 := by omega
  refine ⟨by omega, by omega, by show i + 2 < s.1 + 1; omega, (pushS_kn e).trans b2, ?_, ?_⟩
  · rw [pushS_ln e, b3]; decide
  · rw [pushS_ln e, b3]; exact hj
def plM (C : Mem) (i : Nat) : Mem := up (up C i 4 (-1)) (i + 3) 0 (nI 1)
set_option maxRecDepth 20000 in
theorem k_X2_init {sh : Sh} {C : Mem} {i : Nat} (hi : sh.1 = i + 1) (hk : sh.2.1 i = 2) (hz : Zr C (i + 1)) : Calls mX2_init 2 17 217 [.inr (some i)] sh C none (plG i sh 14) (plM C i) := by
  have hz1 : Zr (up C i 4 (-1)) (i + 1) := hz.up (by omega)
  refine Calls.of plX2 (Nat.le_of_ble_eq_true rfl) ?_
  show WP mX2_init 2 17 217 0 [some (.inr (some i)), none] [] sh C none (plG i sh 14) (plM C i)
  refine zw_aload_n dX2_init_0 rfl ?_
  refine zw_objInit dX2_init_1 ml_X2_3 (by decide) (by decide) ?_
  refine zw_aload_n dX2_init_4 rfl ?_
  refine zw_bipush (v := nI 100) dX2_init_5 (by decide) ?_
  refine zw_newI (len := 100) dX2_init_7 rfl (by decide) (by decide) (by decide) ?_
  rw [hz.push (show i + 1 ≤ sh.1 by omega)]
  refine zw_putR (i := i) (j := 0) (kd := 2) dX2_init_9 (by show i < sh.1 + 1; omega) ((pushS_kn (k := 6) (l := 100) (by omega)).trans hk) (by decide) (by decide) fl_X2_9 rfl rfl rfl rfl (fun _ => rfl) (fun _ => rfl) ?_
  refine zw_aload_n dX2_init_12 rfl ?_
  refine zw_bipush (v := nI 14) dX2_init_13 (by decide) ?_
  refine zw_anewP (len := 14) dX2_init_15 cl_X2_15 rfl (by decide) (by decide) (by decide) ?_
  rw [hz.push (show i + 1 ≤ (setR (pushS sh 6 100) i 0 (some sh.1)).1 by show _ ≤ sh.1 + 1; omega)]
  refine zw_putR (i := i) (j := 2) (kd := 2) dX2_init_18 (by show i < sh.1 + 1 + 1; omega) ((pushS_kn (k := 7) (l := 14) (by show i ≠ sh.1 + 1; omega)).trans ((pushS_kn (k := 6) (l := 100) (by omega)).trans hk)) (by decide) (by decide) fl_X2_17 rfl rfl rfl rfl (fun _ => rfl) (fun _ => rfl) ?_
  refine zw_aload_n dX2_init_21 rfl ?_
  refine zw_iconst (v := (-1)) dX2_init_22 (by decide) ?_
  refine zw_putI (j := 4) (kd := 2) dX2_init_23 (by show i < sh.1 + 1 + 1; omega) ((pushS_kn (k := 7) (l := 14) (by show i ≠ sh.1 + 1; omega)).trans ((pushS_kn (k := 6) (l := 100) (by omega)).trans hk)) (by decide) (by decide) fl_X2_21 rfl rfl rfl ?_
  refine zw_aload_n dX2_init_26 rfl ?_
  refine zw_iconst (v := nI 5) dX2_init_27 (by decide) ?_
  refine zw_newI (len := 5) dX2_init_28 rfl (by decide) (by decide) (by decide) ?_
  rw [hz1.push (show i + 1 ≤ (setR (pushS (setR (pushS sh 6 100) i 0 (some sh.1)) 7 14) i 2 (some (setR (pushS sh 6 100) i 0 (some sh.1)).1)).1 by show _ ≤ sh.1 + 1 + 1; omega)]
  refine zw_putR (i := i) (j := 7) (kd := 2) dX2_init_30 (by show i < sh.1 + 1 + 1 + 1; omega) ((pushS_kn (k := 6) (l := 5) (by show i ≠ sh.1 + 1 + 1; omega)).trans ((pushS_kn (k := 7) (l := 14) (by show i ≠ sh.1 + 1; omega)).trans ((pushS_kn (k := 6) (l := 100) (by omega)).trans hk))) (by decide) (by decide) fl_X2_25 rfl rfl rfl rfl (fun _ => rfl) (fun _ => rfl) ?_
  refine zw_iconst (v := nI 0) dX2_init_33 (by decide) ?_
  refine zw_istore_n dX2_init_34 (by decide) ?_
  show WP mX2_init 2 14 98 35 [some (.inr (some i)), some (.inl (nI 0))] [] (plG i sh 0) (up C i 4 (-1)) none (plG i sh 14) (plM C i)
  obtain ⟨a1_0, a2_0, a3_0, ⟨b1_0, b2_0, b3_0⟩, a5_0, a6_0, a7_0⟩ := plG_f hi hk 0
  refine zw_iload_n dX2_init_35 rfl ?_
  refine zw_bipush (v := nI 14) dX2_init_36 (by decide) ?_
  obtain ⟨d1_0, d2_0, d3_0, d4_0, d5_0, d6_0⟩ := plG_p a1_0 b2_0 b3_0 (by decide)
  refine zw_icmp_ge (tgt := 60) dX2_init_38 (by decide) (fun c => absurd c (by decide)) (fun _ => ?_)
  refine zw_aload_n dX2_init_41 rfl ?_
  refine zw_getR (j := 2) (kd := 2) dX2_init_42 d1_0 a2_0 (by decide) (by decide) fl_X2_17 rfl b1_0 ?_
  refine zw_iload_n dX2_init_45 rfl ?_
  refine zw_new (kd := 1) dX2_init_46 (by decide) cl_X2_15 it_X1 in_X1 (by decide) (by decide) (by decide) ?_
  rw [hz1.push d2_0]
  refine zw_dup dX2_init_49 ?_
  refine zw_invIN (k2 := 0) (n2 := 0) (k3 := 13) (n3 := 91) dX2_init_50 okX1_init nl_X2_28 (by decide) (Nat.le_of_ble_eq_true rfl) rfl rfl rfl k_X1_init ?_
  refine zw_aastP dX2_init_53 d3_0 d4_0 d5_0 rfl d6_0 (Nat.lt_succ_self _) pushS_k ?_
  refine zw_iincn dX2_init_54 rfl (by decide) ?_
  refine zw_goto (tgt := 35) dX2_init_57 (by decide) ?_
  show WP mX2_init 2 13 91 35 [some (.inr (some i)), some (.inl (nI 1))] [] (plG i sh 1) (up C i 4 (-1)) none (plG i sh 14) (plM C i)
  obtain ⟨a1_1, a2_1, a3_1, ⟨b1_1, b2_1, b3_1⟩, a5_1, a6_1, a7_1⟩ := plG_f hi hk 1
  refine zw_iload_n dX2_init_35 rfl ?_
  refine zw_bipush (v := nI 14) dX2_init_36 (by decide) ?_
  obtain ⟨d1_1, d2_1, d3_1, d4_1, d5_1, d6_1⟩ := plG_p a1_1 b2_1 b3_1 (by decide)
  refine zw_icmp_ge (tgt := 60) dX2_init_38 (by decide) (fun c => absurd c (by decide)) (fun _ => ?_)
  refine zw_aload_n dX2_init_41 rfl ?_
  refine zw_getR (j := 2) (kd := 2) dX2_init_42 d1_1 a2_1 (by decide) (by decide) fl_X2_17 rfl b1_1 ?_
  refine zw_iload_n dX2_init_45 rfl ?_
  refine zw_new (kd := 1) dX2_init_46 (by decide) cl_X2_15 it_X1 in_X1 (by decide) (by decide) (by decide) ?_
  rw [hz1.push d2_1]
  refine zw_dup dX2_init_49 ?_
  refine zw_invIN (k2 := 0) (n2 := 0) (k3 := 12) (n3 := 84) dX2_init_50 okX1_init nl_X2_28 (by decide) (Nat.le_of_ble_eq_true rfl) rfl rfl rfl k_X1_init ?_
  refine zw_aastP dX2_init_53 d3_1 d4_1 d5_1 rfl d6_1 (Nat.lt_succ_self _) pushS_k ?_
  refine zw_iincn dX2_init_54 rfl (by decide) ?_
  refine zw_goto (tgt := 35) dX2_init_57 (by decide) ?_
  show WP mX2_init 2 12 84 35 [some (.inr (some i)), some (.inl (nI 2))] [] (plG i sh 2) (up C i 4 (-1)) none (plG i sh 14) (plM C i)
  obtain ⟨a1_2, a2_2, a3_2, ⟨b1_2, b2_2, b3_2⟩, a5_2, a6_2, a7_2⟩ := plG_f hi hk 2
  refine zw_iload_n dX2_init_35 rfl ?_
  refine zw_bipush (v := nI 14) dX2_init_36 (by decide) ?_
  obtain ⟨d1_2, d2_2, d3_2, d4_2, d5_2, d6_2⟩ := plG_p a1_2 b2_2 b3_2 (by decide)
  refine zw_icmp_ge (tgt := 60) dX2_init_38 (by decide) (fun c => absurd c (by decide)) (fun _ => ?_)
  refine zw_aload_n dX2_init_41 rfl ?_
  refine zw_getR (j := 2) (kd := 2) dX2_init_42 d1_2 a2_2 (by decide) (by decide) fl_X2_17 rfl b1_2 ?_
  refine zw_iload_n dX2_init_45 rfl ?_
  refine zw_new (kd := 1) dX2_init_46 (by decide) cl_X2_15 it_X1 in_X1 (by decide) (by decide) (by decide) ?_
  rw [hz1.push d2_2]
  refine zw_dup dX2_init_49 ?_
  refine zw_invIN (k2 := 0) (n2 := 0) (k3 := 11) (n3 := 77) dX2_init_50 okX1_init nl_X2_28 (by decide) (Nat.le_of_ble_eq_true rfl) rfl rfl rfl k_X1_init ?_
  refine zw_aastP dX2_init_53 d3_2 d4_2 d5_2 rfl d6_2 (Nat.lt_succ_self _) pushS_k ?_
  refine zw_iincn dX2_init_54 rfl (by decide) ?_
  refine zw_goto (tgt := 35) dX2_init_57 (by decide) ?_
  show WP mX2_init 2 11 77 35 [some (.inr (some i)), some (.inl (nI 3))] [] (plG i sh 3) (up C i 4 (-1)) none (plG i sh 14) (plM C i)
  obtain ⟨a1_3, a2_3, a3_3, ⟨b1_3, b2_3, b3_3⟩, a5_3, a6_3, a7_3⟩ := plG_f hi hk 3
  refine zw_iload_n dX2_init_35 rfl ?_
  refine zw_bipush (v := nI 14) dX2_init_36 (by decide) ?_
  obtain ⟨d1_3, d2_3, d3_3, d4_3, d5_3, d6_3⟩ := plG_p a1_3 b2_3 b3_3 (by decide)
  refine zw_icmp_ge (tgt := 60) dX2_init_38 (by decide) (fun c => absurd c (by decide)) (fun _ => ?_)
  refine zw_aload_n dX2_init_41 rfl ?_
  refine zw_getR (j := 2) (kd := 2) dX2_init_42 d1_3 a2_3 (by decide) (by decide) fl_X2_17 rfl b1_3 ?_
  refine zw_iload_n dX2_init_45 rfl ?_
  refine zw_new (kd := 1) dX2_init_46 (by decide) cl_X2_15 it_X1 in_X1 (by decide) (by decide) (by decide) ?_
  rw [hz1.push d2_3]
  refine zw_dup dX2_init_49 ?_
  refine zw_invIN (k2 := 0) (n2 := 0) (k3 := 10) (n3 := 70) dX2_init_50 okX1_init nl_X2_28 (by decide) (Nat.le_of_ble_eq_true rfl) rfl rfl rfl k_X1_init ?_
  refine zw_aastP dX2_init_53 d3_3 d4_3 d5_3 rfl d6_3 (Nat.lt_succ_self _) pushS_k ?_
  refine zw_iincn dX2_init_54 rfl (by decide) ?_
  refine zw_goto (tgt := 35) dX2_init_57 (by decide) ?_
  show WP mX2_init 2 10 70 35 [some (.inr (some i)), some (.inl (nI 4))] [] (plG i sh 4) (up C i 4 (-1)) none (plG i sh 14) (plM C i)
  obtain ⟨a1_4, a2_4, a3_4, ⟨b1_4, b2_4, b3_4⟩, a5_4, a6_4, a7_4⟩ := plG_f hi hk 4
  refine zw_iload_n dX2_init_35 rfl ?_
  refine zw_bipush (v := nI 14) dX2_init_36 (by decide) ?_
  obtain ⟨d1_4, d2_4, d3_4, d4_4, d5_4, d6_4⟩ := plG_p a1_4 b2_4 b3_4 (by decide)
  refine zw_icmp_ge (tgt := 60) dX2_init_38 (by decide) (fun c => absurd c (by decide)) (fun _ => ?_)
  refine zw_aload_n dX2_init_41 rfl ?_
  refine zw_getR (j := 2) (kd := 2) dX2_init_42 d1_4 a2_4 (by decide) (by decide) fl_X2_17 rfl b1_4 ?_
  refine zw_iload_n dX2_init_45 rfl ?_
  refine zw_new (kd := 1) dX2_init_46 (by decide) cl_X2_15 it_X1 in_X1 (by decide) (by decide) (by decide) ?_
  rw [hz1.push d2_4]
  refine zw_dup dX2_init_49 ?_
  refine zw_invIN (k2 := 0) (n2 := 0) (k3 := 9) (n3 := 63) dX2_init_50 okX1_init nl_X2_28 (by decide) (Nat.le_of_ble_eq_true rfl) rfl rfl rfl k_X1_init ?_
  refine zw_aastP dX2_init_53 d3_4 d4_4 d5_4 rfl d6_4 (Nat.lt_succ_self _) pushS_k ?_
  refine zw_iincn dX2_init_54 rfl (by decide) ?_
  refine zw_goto (tgt := 35) dX2_init_57 (by decide) ?_
  show WP mX2_init 2 9 63 35 [some (.inr (some i)), some (.inl (nI 5))] [] (plG i sh 5) (up C i 4 (-1)) none (plG i sh 14) (plM C i)
  obtain ⟨a1_5, a2_5, a3_5, ⟨b1_5, b2_5, b3_5⟩, a5_5, a6_5, a7_5⟩ := plG_f hi hk 5
  refine zw_iload_n dX2_init_35 rfl ?_
  refine zw_bipush (v := nI 14) dX2_init_36 (by decide) ?_
  obtain ⟨d1_5, d2_5, d3_5, d4_5, d5_5, d6_5⟩ := plG_p a1_5 b2_5 b3_5 (by decide)
  refine zw_icmp_ge (tgt := 60) dX2_init_38 (by decide) (fun c => absurd c (by decide)) (fun _ => ?_)
  refine zw_aload_n dX2_init_41 rfl ?_
  refine zw_getR (j := 2) (kd := 2) dX2_init_42 d1_5 a2_5 (by decide) (by decide) fl_X2_17 rfl b1_5 ?_
  refine zw_iload_n dX2_init_45 rfl ?_
  refine zw_new (kd := 1) dX2_init_46 (by decide) cl_X2_15 it_X1 in_X1 (by decide) (by decide) (by decide) ?_
  rw [hz1.push d2_5]
  refine zw_dup dX2_init_49 ?_
  refine zw_invIN (k2 := 0) (n2 := 0) (k3 := 8) (n3 := 56) dX2_init_50 okX1_init nl_X2_28 (by decide) (Nat.le_of_ble_eq_true rfl) rfl rfl rfl k_X1_init ?_
  refine zw_aastP dX2_init_53 d3_5 d4_5 d5_5 rfl d6_5 (Nat.lt_succ_self _) pushS_k ?_
  refine zw_iincn dX2_init_54 rfl (by decide) ?_
  refine zw_goto (tgt := 35) dX2_init_57 (by decide) ?_
  show WP mX2_init 2 8 56 35 [some (.inr (some i)), some (.inl (nI 6))] [] (plG i sh 6) (up C i 4 (-1)) none (plG i sh 14) (plM C i)
  obtain ⟨a1_6, a2_6, a3_6, ⟨b1_6, b2_6, b3_6⟩, a5_6, a6_6, a7_6⟩ := plG_f hi hk 6
  refine zw_iload_n dX2_init_35 rfl ?_
  refine zw_bipush (v := nI 14) dX2_init_36 (by decide) ?_
  obtain ⟨d1_6, d2_6, d3_6, d4_6, d5_6, d6_6⟩ := plG_p a1_6 b2_6 b3_6 (by decide)
  refine zw_icmp_ge (tgt := 60) dX2_init_38 (by decide) (fun c => absurd c (by decide)) (fun _ => ?_)
  refine zw_aload_n dX2_init_41 rfl ?_
  refine zw_getR (j := 2) (kd := 2) dX2_init_42 d1_6 a2_6 (by decide) (by decide) fl_X2_17 rfl b1_6 ?_
  refine zw_iload_n dX2_init_45 rfl ?_
  refine zw_new (kd := 1) dX2_init_46 (by decide) cl_X2_15 it_X1 in_X1 (by decide) (by decide) (by decide) ?_
  rw [hz1.push d2_6]
  refine zw_dup dX2_init_49 ?_
  refine zw_invIN (k2 := 0) (n2 := 0) (k3 := 7) (n3 := 49) dX2_init_50 okX1_init nl_X2_28 (by decide) (Nat.le_of_ble_eq_true rfl) rfl rfl rfl k_X1_init ?_
  refine zw_aastP dX2_init_53 d3_6 d4_6 d5_6 rfl d6_6 (Nat.lt_succ_self _) pushS_k ?_
  refine zw_iincn dX2_init_54 rfl (by decide) ?_
  refine zw_goto (tgt := 35) dX2_init_57 (by decide) ?_
  show WP mX2_init 2 7 49 35 [some (.inr (some i)), some (.inl (nI 7))] [] (plG i sh 7) (up C i 4 (-1)) none (plG i sh 14) (plM C i)
  obtain ⟨a1_7, a2_7, a3_7, ⟨b1_7, b2_7, b3_7⟩, a5_7, a6_7, a7_7⟩ := plG_f hi hk 7
  refine zw_iload_n dX2_init_35 rfl ?_
  refine zw_bipush (v := nI 14) dX2_init_36 (by decide) ?_
  obtain ⟨d1_7, d2_7, d3_7, d4_7, d5_7, d6_7⟩ := plG_p a1_7 b2_7 b3_7 (by decide)
  refine zw_icmp_ge (tgt := 60) dX2_init_38 (by decide) (fun c => absurd c (by decide)) (fun _ => ?_)
  refine zw_aload_n dX2_init_41 rfl ?_
  refine zw_getR (j := 2) (kd := 2) dX2_init_42 d1_7 a2_7 (by decide) (by decide) fl_X2_17 rfl b1_7 ?_
  refine zw_iload_n dX2_init_45 rfl ?_
  refine zw_new (kd := 1) dX2_init_46 (by decide) cl_X2_15 it_X1 in_X1 (by decide) (by decide) (by decide) ?_
  rw [hz1.push d2_7]
  refine zw_dup dX2_init_49 ?_
  refine zw_invIN (k2 := 0) (n2 := 0) (k3 := 6) (n3 := 42) dX2_init_50 okX1_init nl_X2_28 (by decide) (Nat.le_of_ble_eq_true rfl) rfl rfl rfl k_X1_init ?_
  refine zw_aastP dX2_init_53 d3_7 d4_7 d5_7 rfl d6_7 (Nat.lt_succ_self _) pushS_k ?_
  refine zw_iincn dX2_init_54 rfl (by decide) ?_
  refine zw_goto (tgt := 35) dX2_init_57 (by decide) ?_
  show WP mX2_init 2 6 42 35 [some (.inr (some i)), some (.inl (nI 8))] [] (plG i sh 8) (up C i 4 (-1)) none (plG i sh 14) (plM C i)
  obtain ⟨a1_8, a2_8, a3_8, ⟨b1_8, b2_8, b3_8⟩, a5_8, a6_8, a7_8⟩ := plG_f hi hk 8
  refine zw_iload_n dX2_init_35 rfl ?_
  refine zw_bipush (v := nI 14) dX2_init_36 (by decide) ?_
  obtain ⟨d1_8, d2_8, d3_8, d4_8, d5_8, d6_8⟩ := plG_p a1_8 b2_8 b3_8 (by decide)
  refine zw_icmp_ge (tgt := 60) dX2_init_38 (by decide) (fun c => absurd c (by decide)) (fun _ => ?_)
  refine zw_aload_n dX2_init_41 rfl ?_
  refine zw_getR (j := 2) (kd := 2) dX2_init_42 d1_8 a2_8 (by decide) (by decide) fl_X2_17 rfl b1_8 ?_
  refine zw_iload_n dX2_init_45 rfl ?_
  refine zw_new (kd := 1) dX2_init_46 (by decide) cl_X2_15 it_X1 in_X1 (by decide) (by decide) (by decide) ?_
  rw [hz1.push d2_8]
  refine zw_dup dX2_init_49 ?_
  refine zw_invIN (k2 := 0) (n2 := 0) (k3 := 5) (n3 := 35) dX2_init_50 okX1_init nl_X2_28 (by decide) (Nat.le_of_ble_eq_true rfl) rfl rfl rfl k_X1_init ?_
  refine zw_aastP dX2_init_53 d3_8 d4_8 d5_8 rfl d6_8 (Nat.lt_succ_self _) pushS_k ?_
  refine zw_iincn dX2_init_54 rfl (by decide) ?_
  refine zw_goto (tgt := 35) dX2_init_57 (by decide) ?_
  show WP mX2_init 2 5 35 35 [some (.inr (some i)), some (.inl (nI 9))] [] (plG i sh 9) (up C i 4 (-1)) none (plG i sh 14) (plM C i)
  obtain ⟨a1_9, a2_9, a3_9, ⟨b1_9, b2_9, b3_9⟩, a5_9, a6_9, a7_9⟩ := plG_f hi hk 9
  refine zw_iload_n dX2_init_35 rfl ?_
  refine zw_bipush (v := nI 14) dX2_init_36 (by decide) ?_
  obtain ⟨d1_9, d2_9, d3_9, d4_9, d5_9, d6_9⟩ := plG_p a1_9 b2_9 b3_9 (by decide)
  refine zw_icmp_ge (tgt := 60) dX2_init_38 (by decide) (fun c => absurd c (by decide)) (fun _ => ?_)
  refine zw_aload_n dX2_init_41 rfl ?_
  refine zw_getR (j := 2) (kd := 2) dX2_init_42 d1_9 a2_9 (by decide) (by decide) fl_X2_17 rfl b1_9 ?_
  refine zw_iload_n dX2_init_45 rfl ?_
  refine zw_new (kd := 1) dX2_init_46 (by decide) cl_X2_15 it_X1 in_X1 (by decide) (by decide) (by decide) ?_
  rw [hz1.push d2_9]
  refine zw_dup dX2_init_49 ?_
  refine zw_invIN (k2 := 0) (n2 := 0) (k3 := 4) (n3 := 28) dX2_init_50 okX1_init nl_X2_28 (by decide) (Nat.le_of_ble_eq_true rfl) rfl rfl rfl k_X1_init ?_
  refine zw_aastP dX2_init_53 d3_9 d4_9 d5_9 rfl d6_9 (Nat.lt_succ_self _) pushS_k ?_
  refine zw_iincn dX2_init_54 rfl (by decide) ?_
  refine zw_goto (tgt := 35) dX2_init_57 (by decide) ?_
  show WP mX2_init 2 4 28 35 [some (.inr (some i)), some (.inl (nI 10))] [] (plG i sh 10) (up C i 4 (-1)) none (plG i sh 14) (plM C i)
  obtain ⟨a1_10, a2_10, a3_10, ⟨b1_10, b2_10, b3_10⟩, a5_10, a6_10, a7_10⟩ := plG_f hi hk 10
  refine zw_iload_n dX2_init_35 rfl ?_
  refine zw_bipush (v := nI 14) dX2_init_36 (by decide) ?_
  obtain ⟨d1_10, d2_10, d3_10, d4_10, d5_10, d6_10⟩ := plG_p a1_10 b2_10 b3_10 (by decide)
  refine zw_icmp_ge (tgt := 60) dX2_init_38 (by decide) (fun c => absurd c (by decide)) (fun _ => ?_)
  refine zw_aload_n dX2_init_41 rfl ?_
  refine zw_getR (j := 2) (kd := 2) dX2_init_42 d1_10 a2_10 (by decide) (by decide) fl_X2_17 rfl b1_10 ?_
  refine zw_iload_n dX2_init_45 rfl ?_
  refine zw_new (kd := 1) dX2_init_46 (by decide) cl_X2_15 it_X1 in_X1 (by decide) (by decide) (by decide) ?_
  rw [hz1.push d2_10]
  refine zw_dup dX2_init_49 ?_
  refine zw_invIN (k2 := 0) (n2 := 0) (k3 := 3) (n3 := 21) dX2_init_50 okX1_init nl_X2_28 (by decide) (Nat.le_of_ble_eq_true rfl) rfl rfl rfl k_X1_init ?_
  refine zw_aastP dX2_init_53 d3_10 d4_10 d5_10 rfl d6_10 (Nat.lt_succ_self _) pushS_k ?_
  refine zw_iincn dX2_init_54 rfl (by decide) ?_
  refine zw_goto (tgt := 35) dX2_init_57 (by decide) ?_
  show WP mX2_init 2 3 21 35 [some (.inr (some i)), some (.inl (nI 11))] [] (plG i sh 11) (up C i 4 (-1)) none (plG i sh 14) (plM C i)
  obtain ⟨a1_11, a2_11, a3_11, ⟨b1_11, b2_11, b3_11⟩, a5_11, a6_11, a7_11⟩ := plG_f hi hk 11
  refine zw_iload_n dX2_init_35 rfl ?_
  refine zw_bipush (v := nI 14) dX2_init_36 (by decide) ?_
  obtain ⟨d1_11, d2_11, d3_11, d4_11, d5_11, d6_11⟩ := plG_p a1_11 b2_11 b3_11 (by decide)
  refine zw_icmp_ge (tgt := 60) dX2_init_38 (by decide) (fun c => absurd c (by decide)) (fun _ => ?_)
  refine zw_aload_n dX2_init_41 rfl ?_
  refine zw_getR (j := 2) (kd := 2) dX2_init_42 d1_11 a2_11 (by decide) (by decide) fl_X2_17 rfl b1_11 ?_
  refine zw_iload_n dX2_init_45 rfl ?_
  refine zw_new (kd := 1) dX2_init_46 (by decide) cl_X2_15 it_X1 in_X1 (by decide) (by decide) (by decide) ?_
  rw [hz1.push d2_11]
  refine zw_dup dX2_init_49 ?_
  refine zw_invIN (k2 := 0) (n2 := 0) (k3 := 2) (n3 := 14) dX2_init_50 okX1_init nl_X2_28 (by decide) (Nat.le_of_ble_eq_true rfl) rfl rfl rfl k_X1_init ?_
  refine zw_aastP dX2_init_53 d3_11 d4_11 d5_11 rfl d6_11 (Nat.lt_succ_self _) pushS_k ?_
  refine zw_iincn dX2_init_54 rfl (by decide) ?_
  refine zw_goto (tgt := 35) dX2_init_57 (by decide) ?_
  show WP mX2_init 2 2 14 35 [some (.inr (some i)), some (.inl (nI 12))] [] (plG i sh 12) (up C i 4 (-1)) none (plG i sh 14) (plM C i)
  obtain ⟨a1_12, a2_12, a3_12, ⟨b1_12, b2_12, b3_12⟩, a5_12, a6_12, a7_12⟩ := plG_f hi hk 12
  refine zw_iload_n dX2_init_35 rfl ?_
  refine zw_bipush (v := nI 14) dX2_init_36 (by decide) ?_
  obtain ⟨d1_12, d2_12, d3_12, d4_12, d5_12, d6_12⟩ := plG_p a1_12 b2_12 b3_12 (by decide)
  refine zw_icmp_ge (tgt := 60) dX2_init_38 (by decide) (fun c => absurd c (by decide)) (fun _ => ?_)
  refine zw_aload_n dX2_init_41 rfl ?_
  refine zw_getR (j := 2) (kd := 2) dX2_init_42 d1_12 a2_12 (by decide) (by decide) fl_X2_17 rfl b1_12 ?_
  refine zw_iload_n dX2_init_45 rfl ?_
  refine zw_new (kd := 1) dX2_init_46 (by decide) cl_X2_15 it_X1 in_X1 (by decide) (by decide) (by decide) ?_
  rw [hz1.push d2_12]
  refine zw_dup dX2_init_49 ?_
  refine zw_invIN (k2 := 0) (n2 := 0) (k3 := 1) (n3 := 7) dX2_init_50 okX1_init nl_X2_28 (by decide) (Nat.le_of_ble_eq_true rfl) rfl rfl rfl k_X1_init ?_
  refine zw_aastP dX2_init_53 d3_12 d4_12 d5_12 rfl d6_12 (Nat.lt_succ_self _) pushS_k ?_
  refine zw_iincn dX2_init_54 rfl (by decide) ?_
  refine zw_goto (tgt := 35) dX2_init_57 (by decide) ?_
  show WP mX2_init 2 1 7 35 [some (.inr (some i)), some (.inl (nI 13))] [] (plG i sh 13) (up C i 4 (-1)) none (plG i sh 14) (plM C i)
  obtain ⟨a1_13, a2_13, a3_13, ⟨b1_13, b2_13, b3_13⟩, a5_13, a6_13, a7_13⟩ := plG_f hi hk 13
  refine zw_iload_n dX2_init_35 rfl ?_
  refine zw_bipush (v := nI 14) dX2_init_36 (by decide) ?_
  obtain ⟨d1_13, d2_13, d3_13, d4_13, d5_13, d6_13⟩ := plG_p a1_13 b2_13 b3_13 (by decide)
  refine zw_icmp_ge (tgt := 60) dX2_init_38 (by decide) (fun c => absurd c (by decide)) (fun _ => ?_)
  refine zw_aload_n dX2_init_41 rfl ?_
  refine zw_getR (j := 2) (kd := 2) dX2_init_42 d1_13 a2_13 (by decide) (by decide) fl_X2_17 rfl b1_13 ?_
  refine zw_iload_n dX2_init_45 rfl ?_
  refine zw_new (kd := 1) dX2_init_46 (by decide) cl_X2_15 it_X1 in_X1 (by decide) (by decide) (by decide) ?_
  rw [hz1.push d2_13]
  refine zw_dup dX2_init_49 ?_
  refine zw_invIN (k2 := 0) (n2 := 0) (k3 := 0) (n3 := 0) dX2_init_50 okX1_init nl_X2_28 (by decide) (Nat.le_of_ble_eq_true rfl) rfl rfl rfl k_X1_init ?_
  refine zw_aastP dX2_init_53 d3_13 d4_13 d5_13 rfl d6_13 (Nat.lt_succ_self _) pushS_k ?_
  refine zw_iincn dX2_init_54 rfl (by decide) ?_
  refine zw_goto (tgt := 35) dX2_init_57 (by decide) ?_
  show WP mX2_init 2 0 0 35 [some (.inr (some i)), some (.inl (nI 14))] [] (plG i sh 14) (up C i 4 (-1)) none (plG i sh 14) (plM C i)
  obtain ⟨a1_14, a2_14, a3_14, ⟨b1_14, b2_14, b3_14⟩, a5_14, a6_14, a7_14⟩ := plG_f hi hk 14
  refine zw_iload_n dX2_init_35 rfl ?_
  refine zw_bipush (v := nI 14) dX2_init_36 (by decide) ?_
  refine zw_icmp_ge (tgt := 60) dX2_init_38 (by decide) (fun _ => ?_) (fun c => absurd c (by decide))
  refine zw_aload_n dX2_init_60 rfl ?_
  refine zw_getR (j := 7) (kd := 2) dX2_init_61 (by rw [a1_14]; omega) a2_14 (by decide) (by decide) fl_X2_25 rfl a5_14.1 ?_
  refine zw_iconst (v := nI 0) dX2_init_64 (by decide) ?_
  refine zw_iconst (v := nI 1) dX2_init_65 (by decide) ?_
  refine zw_iast dX2_init_66 (by rw [a1_14]; omega) a5_14.2.1 (by rw [a5_14.2.2]; decide) rfl (by rw [a5_14.2.2]; decide) ?_
  exact zw_vretE dX2_init_67 rfl rfl rfl rfl
def cS1 (i : Nat) (sh : Sh) : Sh := setR (stG sh.1 (pushS sh 3 0) 15) i 0 (some sh.1)
def cS2 (i : Nat) (sh : Sh) : Sh := setR (stG sh.1 (pushS sh 3 0) 15) i 1 (some sh.1)
def cHi (i : Nat) (sh : Sh) : Sh := setR (hiG sh.1 (pushS sh 0 0) 5) i 2 (some sh.1)
def cPl (i : Nat) (sh : Sh) : Sh := setR (plG sh.1 (pushS sh 2 0) 14) i 3 (some sh.1)
def cFp (i : Nat) (sh : Sh) : Sh := setR (pushS sh 6 5) i 4 (some sh.1)
theorem cS1_f {i : Nat} {sh : Sh} (hi : i < sh.1) : (cS1 i sh).1 = sh.1 + 16 ∧ IsSt (cS1 i sh) sh.1 ∧ (∃ s2, ExtB sh.1 sh s2 ∧ s2.1 = sh.1 + 16 ∧ s2.2.1 sh.1 = 3 ∧ cS1 i sh = setR s2 i 0 (some sh.1)) := by
  obtain ⟨g1, g2, g3, g4⟩ := stG_f (sh := pushS sh 3 0) (i := sh.1) rfl pushS_k 15
  exact ⟨g1.trans (by omega), (stG_is (sh := pushS sh 3 0) (i := sh.1) rfl pushS_k).set (Nat.ne_of_gt hi), stG sh.1 (pushS sh 3 0) 15, ((ExtB.rfl0 (Nat.le_refl _)).push).tr g3 (Nat.le_refl _), g1.trans (by omega), g2, rfl⟩
theorem cS2_f {i : Nat} {sh : Sh} (hi : i < sh.1) : (cS2 i sh).1 = sh.1 + 16 ∧ IsSt (cS2 i sh) sh.1 ∧ (∃ s2, ExtB sh.1 sh s2 ∧ s2.1 = sh.1 + 16 ∧ s2.2.1 sh.1 = 3 ∧ cS2 i sh = setR s2 i 1 (some sh.1)) := by
  obtain ⟨g1, g2, g3, g4⟩ := stG_f (sh := pushS sh 3 0) (i := sh.1) rfl pushS_k 15
  exact ⟨g1.trans (by omega), (stG_is (sh := pushS sh 3 0) (i := sh.1) rfl pushS_k).set (Nat.ne_of_gt hi), stG sh.1 (pushS sh 3 0) 15, ((ExtB.rfl0 (Nat.le_refl _)).push).tr g3 (Nat.le_refl _), g1.trans (by omega), g2, rfl⟩
theorem cHi_f {i : Nat} {sh : Sh} (hi : i < sh.1) : (cHi i sh).1 = sh.1 + 82 ∧ IsHi (cHi i sh) sh.1 ∧ (∃ s2, ExtB sh.1 sh s2 ∧ s2.1 = sh.1 + 82 ∧ s2.2.1 sh.1 = 0 ∧ cHi i sh = setR s2 i 2 (some sh.1)) := by
  unfold cHi
  have gs := hiG_is (sh := pushS sh 0 0) (i := sh.1) rfl pushS_k
  obtain ⟨g1, g2, g3, g4, g5, g6, g7⟩ := hiG_f (sh := pushS sh 0 0) (i := sh.1) rfl pushS_k 5
  clear g3 g4 g5 g7
  revert gs g1 g2 g6
  generalize hiG sh.1 (pushS sh 0 0) 5 = s
  intro gs g1 g2 g6
  exact ⟨g1.trans (by omega), gs.set hi, s, ((ExtB.rfl0 (Nat.le_refl _)).push).tr g6 (Nat.le_refl _), g1.trans (by omega), g2, rfl⟩
theorem cPl_f {i : Nat} {sh : Sh} (hi : i < sh.1) : (cPl i sh).1 = sh.1 + 18 ∧ IsPl (cPl i sh) sh.1 ∧ (∃ s2, ExtB sh.1 sh s2 ∧ s2.1 = sh.1 + 18 ∧ s2.2.1 sh.1 = 2 ∧ cPl i sh = setR s2 i 3 (some sh.1)) := by
  obtain ⟨g1, g2, g3, g4, g5, g6, g7⟩ := plG_f (sh := pushS sh 2 0) (i := sh.1) rfl pushS_k 14
  exact ⟨g1.trans (by omega), (plG_is (sh := pushS sh 2 0) (i := sh.1) rfl pushS_k).set hi, plG sh.1 (pushS sh 2 0) 14, ((ExtB.rfl0 (Nat.le_refl _)).push).tr g6 (Nat.le_refl _), g1.trans (by omega), g2, rfl⟩
/-- a step of the constructor: fields below the step stay, but for the one that it sets -/
theorem stp {i j t N : Nat} {s s2 s' : Sh} (hi : i < s.1) (hx : ExtB s.1 s s2) (he : s' = setR s2 i j (some t)) : ExtB i s s' ∧ s'.1 = s2.1 ∧ (∀ a, a < s.1 → s'.2.1 a = s.2.1 a ∧ s'.2.2.1 a = s.2.2.1 a) ∧ s'.2.2.2 i j = some t ∧ (∀ j2, j2 ≠ j → s'.2.2.2 i j2 = s.2.2.2 i j2) ∧ (∀ q, i < q → IsSt s q → IsSt s' q) ∧ (∀ q, i < q → IsHi s q → IsHi s' q) ∧ (∀ q, i < q → IsPl s q → IsPl s' q) := by
  subst he
  refine ⟨((ExtB.rfl0 (Nat.le_of_lt hi)).tr hx (Nat.le_of_lt hi)).set (Nat.le_refl i), rfl, fun a ha => ⟨(hx.2 a ha).1, (hx.2 a ha).2.1⟩, setR_s, fun j2 hj => (setR_o hj).trans (congrFun (hx.2 i hi).2.2 _), fun q hq h => (h.ext hx (by have := h.1; omega)).set (by omega), fun q hq h => (h.ext hx (by have := h.1; omega)).set hq, fun q hq h => (h.ext hx (by have := h.1; omega)).set hq⟩
def cSH (i : Nat) (sh : Sh) : Sh := cFp i (cPl i (cHi i (cS2 i (cS1 i sh))))
def cSM (C : Mem) (i : Nat) : Mem := plM (hiM (up (up C (i + 1) 1 (nI 20)) (i + 17) 1 (nI 20)) (i + 33) 5) (i + 115)
theorem cSH_f {sh : Sh} {i : Nat} (hi : sh.1 = i + 1) (hk : sh.2.1 i = 4) : (cSH i sh).1 = i + 134 ∧ ExtB i sh (cSH i sh) ∧ IsSH (cSH i sh) i := by
  obtain ⟨a1, a2, sa, a3, a4, a5, a6⟩ := cS1_f (sh := sh) (i := i) (by omega)
  obtain ⟨a7, a8, a9, b1, b2, b3, b4, b5⟩ := stp (N := 0) (by omega) a3 a6
  obtain ⟨c1, c2, sc, c3, c4, c5, c6⟩ := cS2_f (sh := cS1 i sh) (i := i) (by omega)
  obtain ⟨c7, c8, c9, d1, d2, d3, d4, d5⟩ := stp (N := 0) (by omega) c3 c6
  obtain ⟨e1, e2, se, e3, e4, e5, e6⟩ := cHi_f (sh := cS2 i (cS1 i sh)) (i := i) (by omega)
  obtain ⟨e7, e8, e9, f1, f2, f3, f4, f5⟩ := stp (N := 0) (by omega) e3 e6
  obtain ⟨g1, g2, sg, g3, g4, g5, g6⟩ := cPl_f (sh := cHi i (cS2 i (cS1 i sh))) (i := i) (by omega)
  obtain ⟨g7, g8, g9, h1, h2, h3, h4, h5⟩ := stp (N := 0) (by omega) g3 g6
  have i3 : ExtB (cPl i (cHi i (cS2 i (cS1 i sh)))).1 (cPl i (cHi i (cS2 i (cS1 i sh)))) (pushS (cPl i (cHi i (cS2 i (cS1 i sh)))) 6 5) := (ExtB.rfl0 (Nat.le_refl _)).push
  obtain ⟨i7, i8, i9, j1, j2, j3, j4, j5⟩ := stp (N := 0) (j := 4) (t := (cPl i (cHi i (cS2 i (cS1 i sh)))).1) (by omega) i3 (rfl : cFp i (cPl i (cHi i (cS2 i (cS1 i sh)))) = _)
  have i8' : (cSH i sh).1 = (cPl i (cHi i (cS2 i (cS1 i sh)))).1 + 1 := i8
  have x1 : sh.1 + 16 = i + 17 := by omega
  have E1 : (cS1 i sh).1 = i + 17 := by omega
  have E2 : (cS2 i (cS1 i sh)).1 = i + 33 := by omega
  have E3 : (cHi i (cS2 i (cS1 i sh))).1 = i + 115 := by omega
  have E4 : (cPl i (cHi i (cS2 i (cS1 i sh)))).1 = i + 133 := by omega
  rw [hi] at a2 b1
  rw [E1] at c2 d1
  rw [E2] at e2 f1
  rw [E3] at g2 h1
  rw [E4] at j1
  refine ⟨by omega, (((a7.tr c7 (Nat.le_refl i)).tr e7 (Nat.le_refl i)).tr g7 (Nat.le_refl i)).tr i7 (Nat.le_refl i), by omega, ?_, ?_, ?_, ?_, ?_, j1, j3 _ (by omega) (h3 _ (by omega) (f3 _ (by omega) (d3 _ (by omega) a2))), j3 _ (by omega) (h3 _ (by omega) (f3 _ (by omega) c2)), j4 _ (by omega) (h4 _ (by omega) e2), j5 _ (by omega) g2, ?_, ?_⟩
  · exact (i9 i (by omega)).1.trans ((g9 i (by omega)).1.trans ((e9 i (by omega)).1.trans ((c9 i (by omega)).1.trans ((a9 i (by omega)).1.trans hk))))
  · exact (j2 0 (by decide)).trans ((h2 0 (by decide)).trans ((f2 0 (by decide)).trans ((d2 0 (by decide)).trans b1)))
  · exact (j2 1 (by decide)).trans ((h2 1 (by decide)).trans ((f2 1 (by decide)).trans d1))
  · exact (j2 2 (by decide)).trans ((h2 2 (by decide)).trans f1)
  · exact (j2 3 (by decide)).trans h1
  · rw [← E4]; exact @pushS_k _ 6 5
  · rw [← E4]; exact @pushS_l _ 6 5
theorem cSH_n {sh : Sh} {i : Nat} (hi : sh.1 = i + 1) : (cS1 i sh).1 = i + 17 ∧ (cS2 i (cS1 i sh)).1 = i + 33 ∧ (cHi i (cS2 i (cS1 i sh))).1 = i + 115 ∧ (cPl i (cHi i (cS2 i (cS1 i sh)))).1 = i + 133 := by
  have a := (cS1_f (sh := sh) (i := i) (by omega)).1
  have b := (cS2_f (sh := cS1 i sh) (i := i) (by omega)).1
  have c := (cHi_f (sh := cS2 i (cS1 i sh)) (i := i) (by omega)).1
  have d := (cPl_f (sh := cHi i (cS2 i (cS1 i sh))) (i := i) (by omega)).1
  omega
