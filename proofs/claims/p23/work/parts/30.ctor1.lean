/-! THE CONSTRUCTORS: what they build. -/
def ExtB (b : Nat) (sh sh' : Sh) : Prop := b ≤ sh'.1 ∧ ∀ a, a < b → sh'.2.1 a = sh.2.1 a ∧ sh'.2.2.1 a = sh.2.2.1 a ∧ sh'.2.2.2 a = sh.2.2.2 a
theorem ExtB.rfl0 {b : Nat} {sh : Sh} (h : b ≤ sh.1) : ExtB b sh sh := ⟨h, fun a _ => ⟨rfl, rfl, rfl⟩⟩
theorem ExtB.tr {b b2 : Nat} {s1 s2 s3 : Sh} (h : ExtB b s1 s2) (h2 : ExtB b2 s2 s3) (hb : b ≤ b2) : ExtB b s1 s3 := ⟨Nat.le_trans hb h2.1, fun a ha => by
  obtain ⟨x1, x2, x3⟩ := h.2 a ha
  obtain ⟨y1, y2, y3⟩ := h2.2 a (by omega)
  exact ⟨y1.trans x1, y2.trans x2, y3.trans x3⟩⟩
theorem ExtB.push {b : Nat} {s1 s2 : Sh} {k l : Nat} (h : ExtB b s1 s2) : ExtB b s1 (pushS s2 k l) := ⟨Nat.le_succ_of_le h.1, fun a ha => by
  have hb := h.1
  have e : a ≠ s2.1 := by omega
  simp only [pushS, if_neg e]
  exact h.2 a ha⟩
theorem ExtB.set {b : Nat} {s1 s2 : Sh} {i j : Nat} {t : Option Nat} (h : ExtB b s1 s2) (hi : b ≤ i) : ExtB b s1 (setR s2 i j t) := ⟨h.1, fun a ha => by
  have e : a ≠ i := by omega
  simp only [setR, if_neg e]
  exact h.2 a ha⟩
theorem setR_n {sh : Sh} {a j q : Nat} {t : Option Nat} (h : q ≠ a) : (setR sh a j t).2.2.2 q = sh.2.2.2 q := by simp only [setR, if_neg h]
theorem setR_s {sh : Sh} {a j : Nat} {t : Option Nat} : (setR sh a j t).2.2.2 a j = t := by simp [setR]
theorem setR_o {sh : Sh} {a j j2 : Nat} {t : Option Nat} (h : j2 ≠ j) : (setR sh a j t).2.2.2 a j2 = sh.2.2.2 a j2 := by simp [setR, h]
theorem pushS_k {sh : Sh} {k l : Nat} : (pushS sh k l).2.1 sh.1 = k := if_pos rfl
theorem pushS_l {sh : Sh} {k l : Nat} : (pushS sh k l).2.2.1 sh.1 = l := if_pos rfl
theorem pushS_kn {sh : Sh} {k l a : Nat} (h : a ≠ sh.1) : (pushS sh k l).2.1 a = sh.2.1 a := if_neg h
theorem pushS_ln {sh : Sh} {k l a : Nat} (h : a ≠ sh.1) : (pushS sh k l).2.2.1 a = sh.2.2.1 a := if_neg h
theorem pushS_rn {sh : Sh} {k l a : Nat} (h : a ≠ sh.1) : (pushS sh k l).2.2.2 a = sh.2.2.2 a := if_neg h
theorem IsSt.set {sh : Sh} {q a j : Nat} {t : Option Nat} (h : IsSt sh q) (ha : q ≠ a) : IsSt (setR sh a j t) q := ⟨h.1, h.2.1, fun i hi => ⟨(h.2.2 i hi).1, by rw [setR_n ha]; exact (h.2.2 i hi).2.1, (h.2.2 i hi).2.2⟩⟩
theorem IsSt.ext {sh sh' : Sh} {q b : Nat} (h : IsSt sh q) (hb : ExtB b sh sh') (hq : q + 16 ≤ b) : IsSt sh' q := ⟨Nat.le_trans hq hb.1, (hb.2 q (by omega)).1.trans h.2.1, fun i hi => by
  obtain ⟨x1, x2, x3⟩ := hb.2 (q + 1 + i) (by omega)
  obtain ⟨y1, y2, y3⟩ := hb.2 q (by omega)
  obtain ⟨z1, z2, z3⟩ := h.2.2 i hi
  exact ⟨x1.trans z1, by rw [y3]; exact z2, x2.trans z3⟩⟩
theorem IsHi.ext {sh sh' : Sh} {q b : Nat} (h : IsHi sh q) (hb : ExtB b sh sh') (hq : q + 82 ≤ b) : IsHi sh' q := by
  obtain ⟨x1, x2, x3⟩ := hb.2 q (by omega)
  obtain ⟨y1, y2, y3⟩ := hb.2 (q + 1) (by omega)
  obtain ⟨a0, a1, a2, a3, a4, a5⟩ := h
  exact ⟨Nat.le_trans hq hb.1, x1.trans a1, by rw [x3]; exact a2, y1.trans a3, y2.trans a4, fun j hj => ⟨by rw [y3]; exact (a5 j hj).1, (a5 j hj).2.ext hb (by omega)⟩⟩
theorem IsHi.set {sh : Sh} {q a j : Nat} {t : Option Nat} (h : IsHi sh q) (ha : a < q) : IsHi (setR sh a j t) q := by
  obtain ⟨a0, a1, a2, a3, a4, a5⟩ := h
  exact ⟨a0, a1, by rw [setR_n (by omega)]; exact a2, a3, a4, fun j hj => ⟨by rw [setR_n (by omega)]; exact (a5 j hj).1, (a5 j hj).2.set (by omega)⟩⟩
theorem IsPl.ext {sh sh' : Sh} {q b : Nat} (h : IsPl sh q) (hb : ExtB b sh sh') (hq : q + 18 ≤ b) : IsPl sh' q := by
  obtain ⟨x1, x2, x3⟩ := hb.2 q (by omega)
  obtain ⟨y1, y2, y3⟩ := hb.2 (q + 1) (by omega)
  obtain ⟨z1, z2, z3⟩ := hb.2 (q + 2) (by omega)
  obtain ⟨w1, w2, w3⟩ := hb.2 (q + 3) (by omega)
  obtain ⟨a0, a1, ⟨b1, b2, b3⟩, ⟨c1, c2, c3⟩, ⟨d1, d2, d3⟩, a5⟩ := h
  exact ⟨Nat.le_trans hq hb.1, x1.trans a1, ⟨by rw [x3]; exact b1, y1.trans b2, y2.trans b3⟩, ⟨by rw [x3]; exact c1, z1.trans c2, z2.trans c3⟩, ⟨by rw [x3]; exact d1, w1.trans d2, w2.trans d3⟩, fun j hj => ⟨by rw [z3]; exact (a5 j hj).1, (hb.2 (q + 4 + j) (by omega)).1.trans (a5 j hj).2⟩⟩
theorem IsPl.set {sh : Sh} {q a j : Nat} {t : Option Nat} (h : IsPl sh q) (ha : a < q) : IsPl (setR sh a j t) q := by
  obtain ⟨a0, a1, ⟨b1, b2, b3⟩, ⟨c1, c2, c3⟩, ⟨d1, d2, d3⟩, a5⟩ := h
  exact ⟨a0, a1, ⟨by rw [setR_n (by omega)]; exact b1, b2, b3⟩, ⟨by rw [setR_n (by omega)]; exact c1, c2, c3⟩, ⟨by rw [setR_n (by omega)]; exact d1, d2, d3⟩, fun j hj => ⟨by rw [setR_n (by omega)]; exact (a5 j hj).1, (a5 j hj).2⟩⟩
theorem IsSH.ext {sh sh' : Sh} {q b : Nat} (h : IsSH sh q) (hb : ExtB b sh sh') (hq : q + 134 ≤ b) : IsSH sh' q := by
  obtain ⟨x1, x2, x3⟩ := hb.2 q (by omega)
  obtain ⟨y1, y2, y3⟩ := hb.2 (q + 133) (by omega)
  obtain ⟨a0, a1, r0, r1, r2, r3, r4, s1, s2, s3, s4, k4, n4⟩ := h
  exact ⟨Nat.le_trans hq hb.1, x1.trans a1, by rw [x3]; exact r0, by rw [x3]; exact r1, by rw [x3]; exact r2, by rw [x3]; exact r3, by rw [x3]; exact r4, s1.ext hb (by omega), s2.ext hb (by omega), s3.ext hb (by omega), s4.ext hb (by omega), y1.trans k4, y2.trans n4⟩
def Zr (C : Mem) (b : Nat) : Prop := ∀ a t, b ≤ a → C a t = 0
theorem Zr.up {C : Mem} {b i t : Nat} {x : Int32} (h : Zr C b) (hi : i < b) : Zr (up C i t x) b := fun a t' ha => by
  rw [up_ne (by omega)]; exact h a t' ha
theorem Zr.wk {C : Mem} {b b' : Nat} (h : Zr C b) (hb : b ≤ b') : Zr C b' := fun a t ha => h a t (Nat.le_trans hb ha)
theorem Zr.push {C : Mem} {b n : Nat} (h : Zr C b) (hn : b ≤ n) : pushC C n = C := by
  funext a t
  by_cases e : a = n
  · subst e; simp only [pushC, if_true]; exact (h a t hn).symm
  · simp only [pushC, if_neg e]
def stG (i : Nat) (sh : Sh) : Nat → Sh
  | 0 => sh
  | j + 1 => setR (pushS (stG i sh j) 6 (stLen j)) i (4 + j) (some (stG i sh j).1)
theorem stG_f {sh : Sh} {i : Nat} (hi : sh.1 = i + 1) (hk : sh.2.1 i = 3) (j : Nat) : (stG i sh j).1 = i + 1 + j ∧ (stG i sh j).2.1 i = 3 ∧ ExtB i sh (stG i sh j) ∧ ∀ t, t < j → (stG i sh j).2.1 (i + 1 + t) = 6 ∧ (stG i sh j).2.2.2 i (4 + t) = some (i + 1 + t) ∧ (stG i sh j).2.2.1 (i + 1 + t) = stLen t := by
  induction j with
  | zero => exact ⟨hi, hk, ExtB.rfl0 (by omega), fun t ht => absurd ht (Nat.not_lt_zero t)⟩
  | succ j ih =>
    obtain ⟨h1, h2, h3, h4⟩ := ih
    refine ⟨by show (stG i sh j).1 + 1 = _; omega, (pushS_kn (k := 6) (l := stLen j) (by omega)).trans h2, (h3.push).set (Nat.le_refl i), fun t ht => ?_⟩
    by_cases e : t = j
    · subst e
      rw [← h1]
      exact ⟨@pushS_k (stG i sh t) 6 (stLen t), setR_s, @pushS_l (stG i sh t) 6 (stLen t)⟩
    · obtain ⟨x1, x2, x3⟩ := h4 t (by omega)
      exact ⟨(pushS_kn (k := 6) (l := stLen j) (by omega)).trans x1, (setR_o (by omega)).trans ((congrFun (pushS_rn (k := 6) (l := stLen j) (by omega)) _).trans x2), (pushS_ln (k := 6) (l := stLen j) (by omega)).trans x3⟩
theorem stG_is {sh : Sh} {i : Nat} (hi : sh.1 = i + 1) (hk : sh.2.1 i = 3) : IsSt (stG i sh 15) i := by
  obtain ⟨h1, h2, h3, h4⟩ := stG_f hi hk 15
  exact ⟨by omega, h2, h4⟩

theorem k_X3_init {sh : Sh} {C : Mem} {i : Nat} (hi : sh.1 = i + 1) (hk : sh.2.1 i = 3) (hz : Zr C (i + 1)) : Calls mX3_init 1 15 1732 [.inr (some i)] sh C none (stG i sh 15) (up C i 1 (nI 20)) := by
  have hz1 : Zr (up C i 1 (nI 20)) (i + 1) := hz.up (by omega)
  have hp : ∀ j, pushC (up C i 1 (nI 20)) (stG i sh j).1 = up C i 1 (nI 20) := fun j => hz1.push (by rw [(stG_f hi hk j).1]; omega)
  have hpi : ∀ j L, i < (pushS (stG i sh j) 6 L).1 := fun j L => by show i < (stG i sh j).1 + 1; rw [(stG_f hi hk j).1]; omega
  have hpk : ∀ j L, (pushS (stG i sh j) 6 L).2.1 i = 3 := fun j L => (pushS_kn (by rw [(stG_f hi hk j).1]; omega)).trans (stG_f hi hk j).2.1
  refine Calls.of plX3 (Nat.le_of_ble_eq_true rfl) ?_
  show WP mX3_init 1 15 1732 0 [some (.inr (some i))] [] sh C none (stG i sh 15) (up C i 1 (nI 20))
  refine zw_aload_n dX3_init_0 rfl ?_
  refine zw_objInit dX3_init_1 ml_X3_3 (by decide) (by decide) ?_
  refine zw_aload_n dX3_init_4 rfl ?_
  refine zw_bipush (v := nI 20) dX3_init_5 (by decide) ?_
  refine zw_putI (j := 1) (kd := 3) dX3_init_7 (by omega) hk (by decide) (by decide) fl_X3_9 rfl rfl rfl ?_
  refine zw_aload_n dX3_init_10 rfl ?_
  refine zw_bipush (v := nI 12) dX3_init_11 (by decide) ?_
  refine zw_newI (len := stLen 0) dX3_init_13 rfl (Nat.le_of_ble_eq_true rfl) (Nat.le_of_ble_eq_true rfl) (Nat.le_of_ble_eq_true rfl) ?_
  rw [show pushC (up C i 1 (nI 20)) sh.1 = up C i 1 (nI 20) from hp 0]
  refine zw_putR (i := i) (j := 4) (kd := 3) dX3_init_15 (hpi 0 _) (hpk 0 _) (by decide) (by decide) fl_X3_15 rfl rfl rfl rfl (fun _ => rfl) (fun _ => rfl) ?_
  show WP mX3_init 1 14 1720 18 [some (.inr (some i))] [] (stG i sh 1) (up C i 1 (nI 20)) none (stG i sh 15) (up C i 1 (nI 20))
  refine zw_aload_n dX3_init_18 rfl ?_
  refine zw_bipush (v := nI 12) dX3_init_19 (by decide) ?_
  refine zw_newI (len := stLen 1) dX3_init_21 rfl (Nat.le_of_ble_eq_true rfl) (Nat.le_of_ble_eq_true rfl) (Nat.le_of_ble_eq_true rfl) ?_
  rw [hp 1]
  refine zw_putR (i := i) (j := 5) (kd := 3) dX3_init_23 (hpi 1 _) (hpk 1 _) (by decide) (by decide) fl_X3_19 rfl rfl rfl rfl (fun _ => rfl) (fun _ => rfl) ?_
  show WP mX3_init 1 13 1708 26 [some (.inr (some i))] [] (stG i sh 2) (up C i 1 (nI 20)) none (stG i sh 15) (up C i 1 (nI 20))
  refine zw_aload_n dX3_init_26 rfl ?_
  refine zw_bipush (v := nI 12) dX3_init_27 (by decide) ?_
  refine zw_newI (len := stLen 2) dX3_init_29 rfl (Nat.le_of_ble_eq_true rfl) (Nat.le_of_ble_eq_true rfl) (Nat.le_of_ble_eq_true rfl) ?_
  rw [hp 2]
  refine zw_putR (i := i) (j := 6) (kd := 3) dX3_init_31 (hpi 2 _) (hpk 2 _) (by decide) (by decide) fl_X3_22 rfl rfl rfl rfl (fun _ => rfl) (fun _ => rfl) ?_
  show WP mX3_init 1 12 1696 34 [some (.inr (some i))] [] (stG i sh 3) (up C i 1 (nI 20)) none (stG i sh 15) (up C i 1 (nI 20))
  refine zw_aload_n dX3_init_34 rfl ?_
  refine zw_bipush (v := nI 12) dX3_init_35 (by decide) ?_
  refine zw_newI (len := stLen 3) dX3_init_37 rfl (Nat.le_of_ble_eq_true rfl) (Nat.le_of_ble_eq_true rfl) (Nat.le_of_ble_eq_true rfl) ?_
  rw [hp 3]
  refine zw_putR (i := i) (j := 7) (kd := 3) dX3_init_39 (hpi 3 _) (hpk 3 _) (by decide) (by decide) fl_X3_25 rfl rfl rfl rfl (fun _ => rfl) (fun _ => rfl) ?_
  show WP mX3_init 1 11 1684 42 [some (.inr (some i))] [] (stG i sh 4) (up C i 1 (nI 20)) none (stG i sh 15) (up C i 1 (nI 20))
  refine zw_aload_n dX3_init_42 rfl ?_
  refine zw_bipush (v := nI 12) dX3_init_43 (by decide) ?_
  refine zw_newI (len := stLen 4) dX3_init_45 rfl (Nat.le_of_ble_eq_true rfl) (Nat.le_of_ble_eq_true rfl) (Nat.le_of_ble_eq_true rfl) ?_
  rw [hp 4]
  refine zw_putR (i := i) (j := 8) (kd := 3) dX3_init_47 (hpi 4 _) (hpk 4 _) (by decide) (by decide) fl_X3_28 rfl rfl rfl rfl (fun _ => rfl) (fun _ => rfl) ?_
  show WP mX3_init 1 10 1672 50 [some (.inr (some i))] [] (stG i sh 5) (up C i 1 (nI 20)) none (stG i sh 15) (up C i 1 (nI 20))
  refine zw_aload_n dX3_init_50 rfl ?_
  refine zw_bipush (v := nI 12) dX3_init_51 (by decide) ?_
  refine zw_newI (len := stLen 5) dX3_init_53 rfl (Nat.le_of_ble_eq_true rfl) (Nat.le_of_ble_eq_true rfl) (Nat.le_of_ble_eq_true rfl) ?_
  rw [hp 5]
  refine zw_putR (i := i) (j := 9) (kd := 3) dX3_init_55 (hpi 5 _) (hpk 5 _) (by decide) (by decide) fl_X3_31 rfl rfl rfl rfl (fun _ => rfl) (fun _ => rfl) ?_
  show WP mX3_init 1 9 1660 58 [some (.inr (some i))] [] (stG i sh 6) (up C i 1 (nI 20)) none (stG i sh 15) (up C i 1 (nI 20))
  refine zw_aload_n dX3_init_58 rfl ?_
  refine zw_bipush (v := nI 12) dX3_init_59 (by decide) ?_
  refine zw_newI (len := stLen 6) dX3_init_61 rfl (Nat.le_of_ble_eq_true rfl) (Nat.le_of_ble_eq_true rfl) (Nat.le_of_ble_eq_true rfl) ?_
  rw [hp 6]
  refine zw_putR (i := i) (j := 10) (kd := 3) dX3_init_63 (hpi 6 _) (hpk 6 _) (by decide) (by decide) fl_X3_34 rfl rfl rfl rfl (fun _ => rfl) (fun _ => rfl) ?_
  show WP mX3_init 1 8 1648 66 [some (.inr (some i))] [] (stG i sh 7) (up C i 1 (nI 20)) none (stG i sh 15) (up C i 1 (nI 20))
  refine zw_aload_n dX3_init_66 rfl ?_
  refine zw_bipush (v := nI 12) dX3_init_67 (by decide) ?_
  refine zw_newI (len := stLen 7) dX3_init_69 rfl (Nat.le_of_ble_eq_true rfl) (Nat.le_of_ble_eq_true rfl) (Nat.le_of_ble_eq_true rfl) ?_
  rw [hp 7]
  refine zw_putR (i := i) (j := 11) (kd := 3) dX3_init_71 (hpi 7 _) (hpk 7 _) (by decide) (by decide) fl_X3_37 rfl rfl rfl rfl (fun _ => rfl) (fun _ => rfl) ?_
  show WP mX3_init 1 7 1636 74 [some (.inr (some i))] [] (stG i sh 8) (up C i 1 (nI 20)) none (stG i sh 15) (up C i 1 (nI 20))
  refine zw_aload_n dX3_init_74 rfl ?_
  refine zw_sipush (v := nI 1152) dX3_init_75 (by decide) ?_
  refine zw_newI (len := stLen 8) dX3_init_78 rfl (Nat.le_of_ble_eq_true rfl) (Nat.le_of_ble_eq_true rfl) (Nat.le_of_ble_eq_true rfl) ?_
  rw [hp 8]
  refine zw_putR (i := i) (j := 12) (kd := 3) dX3_init_80 (hpi 8 _) (hpk 8 _) (by decide) (by decide) fl_X3_40 rfl rfl rfl rfl (fun _ => rfl) (fun _ => rfl) ?_
  show WP mX3_init 1 6 484 83 [some (.inr (some i))] [] (stG i sh 9) (up C i 1 (nI 20)) none (stG i sh 15) (up C i 1 (nI 20))
  refine zw_aload_n dX3_init_83 rfl ?_
  refine zw_bipush (v := nI 96) dX3_init_84 (by decide) ?_
  refine zw_newI (len := stLen 9) dX3_init_86 rfl (Nat.le_of_ble_eq_true rfl) (Nat.le_of_ble_eq_true rfl) (Nat.le_of_ble_eq_true rfl) ?_
  rw [hp 9]
  refine zw_putR (i := i) (j := 13) (kd := 3) dX3_init_88 (hpi 9 _) (hpk 9 _) (by decide) (by decide) fl_X3_43 rfl rfl rfl rfl (fun _ => rfl) (fun _ => rfl) ?_
  show WP mX3_init 1 5 388 91 [some (.inr (some i))] [] (stG i sh 10) (up C i 1 (nI 20)) none (stG i sh 15) (up C i 1 (nI 20))
  refine zw_aload_n dX3_init_91 rfl ?_
  refine zw_bipush (v := nI 96) dX3_init_92 (by decide) ?_
  refine zw_newI (len := stLen 10) dX3_init_94 rfl (Nat.le_of_ble_eq_true rfl) (Nat.le_of_ble_eq_true rfl) (Nat.le_of_ble_eq_true rfl) ?_
  rw [hp 10]
  refine zw_putR (i := i) (j := 14) (kd := 3) dX3_init_96 (hpi 10 _) (hpk 10 _) (by decide) (by decide) fl_X3_46 rfl rfl rfl rfl (fun _ => rfl) (fun _ => rfl) ?_
  show WP mX3_init 1 4 292 99 [some (.inr (some i))] [] (stG i sh 11) (up C i 1 (nI 20)) none (stG i sh 15) (up C i 1 (nI 20))
  refine zw_aload_n dX3_init_99 rfl ?_
  refine zw_bipush (v := nI 96) dX3_init_100 (by decide) ?_
  refine zw_newI (len := stLen 11) dX3_init_102 rfl (Nat.le_of_ble_eq_true rfl) (Nat.le_of_ble_eq_true rfl) (Nat.le_of_ble_eq_true rfl) ?_
  rw [hp 11]
  refine zw_putR (i := i) (j := 15) (kd := 3) dX3_init_104 (hpi 11 _) (hpk 11 _) (by decide) (by decide) fl_X3_49 rfl rfl rfl rfl (fun _ => rfl) (fun _ => rfl) ?_
  show WP mX3_init 1 3 196 107 [some (.inr (some i))] [] (stG i sh 12) (up C i 1 (nI 20)) none (stG i sh 15) (up C i 1 (nI 20))
  refine zw_aload_n dX3_init_107 rfl ?_
  refine zw_bipush (v := nI 96) dX3_init_108 (by decide) ?_
  refine zw_newI (len := stLen 12) dX3_init_110 rfl (Nat.le_of_ble_eq_true rfl) (Nat.le_of_ble_eq_true rfl) (Nat.le_of_ble_eq_true rfl) ?_
  rw [hp 12]
  refine zw_putR (i := i) (j := 16) (kd := 3) dX3_init_112 (hpi 12 _) (hpk 12 _) (by decide) (by decide) fl_X3_52 rfl rfl rfl rfl (fun _ => rfl) (fun _ => rfl) ?_
  show WP mX3_init 1 2 100 115 [some (.inr (some i))] [] (stG i sh 13) (up C i 1 (nI 20)) none (stG i sh 15) (up C i 1 (nI 20))
  refine zw_aload_n dX3_init_115 rfl ?_
  refine zw_bipush (v := nI 96) dX3_init_116 (by decide) ?_
  refine zw_newI (len := stLen 13) dX3_init_118 rfl (Nat.le_of_ble_eq_true rfl) (Nat.le_of_ble_eq_true rfl) (Nat.le_of_ble_eq_true rfl) ?_
  rw [hp 13]
  refine zw_putR (i := i) (j := 17) (kd := 3) dX3_init_120 (hpi 13 _) (hpk 13 _) (by decide) (by decide) fl_X3_55 rfl rfl rfl rfl (fun _ => rfl) (fun _ => rfl) ?_
  show WP mX3_init 1 1 4 123 [some (.inr (some i))] [] (stG i sh 14) (up C i 1 (nI 20)) none (stG i sh 15) (up C i 1 (nI 20))
  refine zw_aload_n dX3_init_123 rfl ?_
  refine zw_iconst (v := nI 4) dX3_init_124 (by decide) ?_
  refine zw_newI (len := stLen 14) dX3_init_125 rfl (Nat.le_of_ble_eq_true rfl) (Nat.le_of_ble_eq_true rfl) (Nat.le_of_ble_eq_true rfl) ?_
  rw [hp 14]
  refine zw_putR (i := i) (j := 18) (kd := 3) dX3_init_127 (hpi 14 _) (hpk 14 _) (by decide) (by decide) fl_X3_58 rfl rfl rfl rfl (fun _ => rfl) (fun _ => rfl) ?_
  show WP mX3_init 1 0 0 130 [some (.inr (some i))] [] (stG i sh 15) (up C i 1 (nI 20)) none (stG i sh 15) (up C i 1 (nI 20))
  exact zw_vretE dX3_init_130 rfl rfl rfl rfl
theorem k_X1_init {sh : Sh} {C : Mem} {i : Nat} : Calls mX1_init 1 0 0 [.inr (some i)] sh C none sh C := by
  refine Calls.of plX1 (Nat.le_of_ble_eq_true rfl) ?_
  show WP mX1_init 1 0 0 0 [some (.inr (some i))] [] sh C none sh C
  refine zw_aload_n dX1_init_0 rfl ?_
  refine zw_objInit dX1_init_1 ml_X1_1 (by decide) (by decide) ?_
  exact zw_vretE dX1_init_4 rfl rfl rfl rfl
def hiG (i : Nat) (sh : Sh) : Nat → Sh
  | 0 => setR (pushS sh 8 5) i 0 (some sh.1)
  | j + 1 => setR (stG (hiG i sh j).1 (pushS (hiG i sh j) 3 0) 15) (i + 1) j (some (hiG i sh j).1)
def hiM (C : Mem) (i : Nat) : Nat → Mem
  | 0 => C
  | j + 1 => up (hiM C i j) (i + 2 + 16 * j) 1 (nI 20)
theorem hiM_z {C : Mem} {i : Nat} (h : Zr C (i + 1)) (j : Nat) : Zr (hiM C i j) (i + 2 + 16 * j) := by
  induction j with
  | zero => exact h.wk (by omega)
  | succ j ih => exact (ih.wk (by omega)).up (by omega)
theorem hiG_f {sh : Sh} {i : Nat} (hi : sh.1 = i + 1) (hk : sh.2.1 i = 0) (j : Nat) : (hiG i sh j).1 = i + 2 + 16 * j ∧ (hiG i sh j).2.1 i = 0 ∧ (hiG i sh j).2.2.2 i 0 = some (i + 1) ∧ (hiG i sh j).2.1 (i + 1) = 8 ∧ (hiG i sh j).2.2.1 (i + 1) = 5 ∧ ExtB i sh (hiG i sh j) ∧ ∀ t, t < j → (hiG i sh j).2.2.2 (i + 1) t = some (i + 2 + 16 * t) ∧ IsSt (hiG i sh j) (i + 2 + 16 * t) := by
  induction j with
  | zero =>
    refine ⟨by show sh.1 + 1 = _; omega, (pushS_kn (k := 8) (l := 5) (by omega)).trans hk, by rw [← hi]; exact setR_s, by rw [← hi]; exact @pushS_k sh 8 5, by rw [← hi]; exact @pushS_l sh 8 5, ((ExtB.rfl0 (by omega)).push).set (Nat.le_refl i), fun t ht => absurd ht (Nat.not_lt_zero t)⟩
  | succ j ih =>
    obtain ⟨h1, h2, h3, h4, h5, h6, h7⟩ := ih
    have b1 : (pushS (hiG i sh j) 3 0).1 = (hiG i sh j).1 + 1 := rfl
    have b2 : (pushS (hiG i sh j) 3 0).2.1 (hiG i sh j).1 = 3 := pushS_k
    obtain ⟨g1, g2, g3, g4⟩ := stG_f b1 b2 15
    have gs := stG_is b1 b2
    have x : ExtB (hiG i sh j).1 (hiG i sh j) (stG (hiG i sh j).1 (pushS (hiG i sh j) 3 0) 15) := ((ExtB.rfl0 (Nat.le_refl _)).push).tr g3 (Nat.le_refl _)
    obtain ⟨y1, y2, y3⟩ := x.2 i (by omega)
    obtain ⟨z1, z2, z3⟩ := x.2 (i + 1) (by omega)
    refine ⟨by show (stG (hiG i sh j).1 (pushS (hiG i sh j) 3 0) 15).1 = _; omega, y1.trans h2, (congrFun (setR_n (by omega)) _).trans ((congrFun y3 _).trans h3), z1.trans h4, z2.trans h5, (h6.tr x (by omega)).set (by omega), fun t ht => ?_⟩
    by_cases e : t = j
    · subst e
      rw [← h1]
      exact ⟨setR_s, gs.set (by omega)⟩
    · obtain ⟨q1, q2⟩ := h7 t (by omega)
      exact ⟨(setR_o e).trans ((congrFun z3 _).trans q1), (q2.ext x (by omega)).set (by omega)⟩
theorem hiG_is {sh : Sh} {i : Nat} (hi : sh.1 = i + 1) (hk : sh.2.1 i = 0) : IsHi (hiG i sh 5) i := by
  obtain ⟨h1, h2, h3, h4, h5, h6, h7⟩ := hiG_f hi hk 5
  exact ⟨by omega, h2, h3, h4, h5, h7⟩
theorem k_X0_init {sh : Sh} {C : Mem} {i : Nat} (hi : sh.1 = i + 1) (hk : sh.2.1 i = 0) (hz : Zr C (i + 1)) : Calls mX0_init 2 81 8760 [.inr (some i)] sh C none (hiG i sh 5) (hiM C i 5) := by
  refine Calls.of plX0 (Nat.le_of_ble_eq_true rfl) ?_
  show WP mX0_init 2 81 8760 0 [some (.inr (some i)), none] [] sh C none (hiG i sh 5) (hiM C i 5)
  refine zw_aload_n dX0_init_0 rfl ?_
  refine zw_objInit dX0_init_1 ml_X0_3 (by decide) (by decide) ?_
  refine zw_aload_n dX0_init_4 rfl ?_
  refine zw_iconst (v := nI 5) dX0_init_5 (by decide) ?_
  refine zw_anewS (len := 5) dX0_init_6 cl_X0_9 rfl (by decide) (by decide) (by decide) ?_
  rw [hz.push (show i + 1 ≤ sh.1 by omega)]
  refine zw_putR (i := i) (j := 0) (kd := 0) dX0_init_9 (by show i < sh.1 + 1; omega) ((pushS_kn (by omega)).trans hk) (by decide) (by decide) fl_X0_11 rfl rfl rfl rfl (fun _ => rfl) (fun _ => rfl) ?_
  refine zw_iconst (v := nI 0) dX0_init_12 (by decide) ?_
  refine zw_istore_n dX0_init_13 (by decide) ?_
  show WP mX0_init 2 80 8755 14 [some (.inr (some i)), some (.inl (nI 0))] [] (hiG i sh 0) (hiM C i 0) none (hiG i sh 5) (hiM C i 5)
  refine zw_iload_n dX0_init_14 rfl ?_
  refine zw_iconst (v := nI 5) dX0_init_15 (by decide) ?_
  refine zw_icmp_ge (tgt := 38) dX0_init_16 (by decide) (fun c => absurd c (by decide)) (fun _ => ?_)
  obtain ⟨a1_0, a2_0, a3_0, a4_0, a5_0, a6_0, a7_0⟩ := hiG_f hi hk 0
  refine zw_aload_n dX0_init_19 rfl ?_
  refine zw_getR (j := 0) (kd := 0) dX0_init_20 (by omega) a2_0 (by decide) (by decide) fl_X0_11 rfl a3_0 ?_
  refine zw_iload_n dX0_init_23 rfl ?_
  refine zw_new (kd := 3) dX0_init_24 (by decide) cl_X0_9 it_X3 in_X3 (by decide) (by decide) (by decide) ?_
  rw [(hiM_z hz 0).push (show _ ≤ (hiG i sh 0).1 by omega)]
  refine zw_dup dX0_init_27 ?_
  refine zw_invIN (k2 := 15) (n2 := 1732) (k3 := 64) (n3 := 7004) dX0_init_28 okX3_init nl_X0_17 (by decide) (Nat.le_of_ble_eq_true rfl) rfl rfl (by rw [(stG_f rfl pushS_k 15).1]; rfl) (k_X3_init rfl pushS_k ((hiM_z hz 0).wk (by omega))) ?_
  obtain ⟨s1_0, s2_0, s3_0, s4_0⟩ := stG_f (sh := pushS (hiG i sh 0) 3 0) (i := (hiG i sh 0).1) rfl pushS_k 15
  have x_0 : ExtB (hiG i sh 0).1 (hiG i sh 0) (stG (hiG i sh 0).1 (pushS (hiG i sh 0) 3 0) 15) := ((ExtB.rfl0 (Nat.le_refl _)).push).tr s3_0 (Nat.le_refl _)
  refine zw_aastS dX0_init_31 (by omega) ((x_0.2 (i + 1) (by omega)).1.trans a4_0) (by rw [(x_0.2 (i + 1) (by omega)).2.1, a5_0]; decide) rfl (by rw [(x_0.2 (i + 1) (by omega)).2.1, a5_0]; decide) (by omega) s2_0 ?_
  refine zw_iincn dX0_init_32 rfl (by decide) ?_
  refine zw_goto (tgt := 14) dX0_init_35 (by decide) ?_
  rw [a1_0]
  rw [show up (hiM C i 0) (i + 2 + 16 * 0) 1 (nI 20) = hiM C i 1 from rfl, ← a1_0]
  show WP mX0_init 2 64 7004 14 [some (.inr (some i)), some (.inl (nI 1))] [] (hiG i sh 1) (hiM C i 1) none (hiG i sh 5) (hiM C i 5)
  refine zw_iload_n dX0_init_14 rfl ?_
  refine zw_iconst (v := nI 5) dX0_init_15 (by decide) ?_
  refine zw_icmp_ge (tgt := 38) dX0_init_16 (by decide) (fun c => absurd c (by decide)) (fun _ => ?_)
  obtain ⟨a1_1, a2_1, a3_1, a4_1, a5_1, a6_1, a7_1⟩ := hiG_f hi hk 1
  refine zw_aload_n dX0_init_19 rfl ?_
  refine zw_getR (j := 0) (kd := 0) dX0_init_20 (by omega) a2_1 (by decide) (by decide) fl_X0_11 rfl a3_1 ?_
  refine zw_iload_n dX0_init_23 rfl ?_
  refine zw_new (kd := 3) dX0_init_24 (by decide) cl_X0_9 it_X3 in_X3 (by decide) (by decide) (by decide) ?_
  rw [(hiM_z hz 1).push (show _ ≤ (hiG i sh 1).1 by omega)]
  refine zw_dup dX0_init_27 ?_
  refine zw_invIN (k2 := 15) (n2 := 1732) (k3 := 48) (n3 := 5253) dX0_init_28 okX3_init nl_X0_17 (by decide) (Nat.le_of_ble_eq_true rfl) rfl rfl (by rw [(stG_f rfl pushS_k 15).1]; rfl) (k_X3_init rfl pushS_k ((hiM_z hz 1).wk (by omega))) ?_
  obtain ⟨s1_1, s2_1, s3_1, s4_1⟩ := stG_f (sh := pushS (hiG i sh 1) 3 0) (i := (hiG i sh 1).1) rfl pushS_k 15
  have x_1 : ExtB (hiG i sh 1).1 (hiG i sh 1) (stG (hiG i sh 1).1 (pushS (hiG i sh 1) 3 0) 15) := ((ExtB.rfl0 (Nat.le_refl _)).push).tr s3_1 (Nat.le_refl _)
  refine zw_aastS dX0_init_31 (by omega) ((x_1.2 (i + 1) (by omega)).1.trans a4_1) (by rw [(x_1.2 (i + 1) (by omega)).2.1, a5_1]; decide) rfl (by rw [(x_1.2 (i + 1) (by omega)).2.1, a5_1]; decide) (by omega) s2_1 ?_
  refine zw_iincn dX0_init_32 rfl (by decide) ?_
  refine zw_goto (tgt := 14) dX0_init_35 (by decide) ?_
  rw [a1_1]
  rw [show up (hiM C i 1) (i + 2 + 16 * 1) 1 (nI 20) = hiM C i 2 from rfl, ← a1_1]
  show WP mX0_init 2 48 5253 14 [some (.inr (some i)), some (.inl (nI 2))] [] (hiG i sh 2) (hiM C i 2) none (hiG i sh 5) (hiM C i 5)
  refine zw_iload_n dX0_init_14 rfl ?_
  refine zw_iconst (v := nI 5) dX0_init_15 (by decide) ?_
  refine zw_icmp_ge (tgt := 38) dX0_init_16 (by decide) (fun c => absurd c (by decide)) (fun _ => ?_)
  obtain ⟨a1_2, a2_2, a3_2, a4_2, a5_2, a6_2, a7_2⟩ := hiG_f hi hk 2
  refine zw_aload_n dX0_init_19 rfl ?_
  refine zw_getR (j := 0) (kd := 0) dX0_init_20 (by omega) a2_2 (by decide) (by decide) fl_X0_11 rfl a3_2 ?_
  refine zw_iload_n dX0_init_23 rfl ?_
  refine zw_new (kd := 3) dX0_init_24 (by decide) cl_X0_9 it_X3 in_X3 (by decide) (by decide) (by decide) ?_
  rw [(hiM_z hz 2).push (show _ ≤ (hiG i sh 2).1 by omega)]
  refine zw_dup dX0_init_27 ?_
  refine zw_invIN (k2 := 15) (n2 := 1732) (k3 := 32) (n3 := 3502) dX0_init_28 okX3_init nl_X0_17 (by decide) (Nat.le_of_ble_eq_true rfl) rfl rfl (by rw [(stG_f rfl pushS_k 15).1]; rfl) (k_X3_init rfl pushS_k ((hiM_z hz 2).wk (by omega))) ?_
  obtain ⟨s1_2, s2_2, s3_2, s4_2⟩ := stG_f (sh := pushS (hiG i sh 2) 3 0) (i := (hiG i sh 2).1) rfl pushS_k 15
  have x_2 : ExtB (hiG i sh 2).1 (hiG i sh 2) (stG (hiG i sh 2).1 (pushS (hiG i sh 2) 3 0) 15) := ((ExtB.rfl0 (Nat.le_refl _)).push).tr s3_2 (Nat.le_refl _)
  refine zw_aastS dX0_init_31 (by omega) ((x_2.2 (i + 1) (by omega)).1.trans a4_2) (by rw [(x_2.2 (i + 1) (by omega)).2.1, a5_2]; decide) rfl (by rw [(x_2.2 (i + 1) (by omega)).2.1, a5_2]; decide) (by omega) s2_2 ?_
  refine zw_iincn dX0_init_32 rfl (by decide) ?_
  refine zw_goto (tgt := 14) dX0_init_35 (by decide) ?_
  rw [a1_2]
  rw [show up (hiM C i 2) (i + 2 + 16 * 2) 1 (nI 20) = hiM C i 3 from rfl, ← a1_2]
  show WP mX0_init 2 32 3502 14 [some (.inr (some i)), some (.inl (nI 3))] [] (hiG i sh 3) (hiM C i 3) none (hiG i sh 5) (hiM C i 5)
  refine zw_iload_n dX0_init_14 rfl ?_
  refine zw_iconst (v := nI 5) dX0_init_15 (by decide) ?_
  refine zw_icmp_ge (tgt := 38) dX0_init_16 (by decide) (fun c => absurd c (by decide)) (fun _ => ?_)
  obtain ⟨a1_3, a2_3, a3_3, a4_3, a5_3, a6_3, a7_3⟩ := hiG_f hi hk 3
  refine zw_aload_n dX0_init_19 rfl ?_
  refine zw_getR (j := 0) (kd := 0) dX0_init_20 (by omega) a2_3 (by decide) (by decide) fl_X0_11 rfl a3_3 ?_
  refine zw_iload_n dX0_init_23 rfl ?_
  refine zw_new (kd := 3) dX0_init_24 (by decide) cl_X0_9 it_X3 in_X3 (by decide) (by decide) (by decide) ?_
  rw [(hiM_z hz 3).push (show _ ≤ (hiG i sh 3).1 by omega)]
  refine zw_dup dX0_init_27 ?_
  refine zw_invIN (k2 := 15) (n2 := 1732) (k3 := 16) (n3 := 1751) dX0_init_28 okX3_init nl_X0_17 (by decide) (Nat.le_of_ble_eq_true rfl) rfl rfl (by rw [(stG_f rfl pushS_k 15).1]; rfl) (k_X3_init rfl pushS_k ((hiM_z hz 3).wk (by omega))) ?_
  obtain ⟨s1_3, s2_3, s3_3, s4_3⟩ := stG_f (sh := pushS (hiG i sh 3) 3 0) (i := (hiG i sh 3).1) rfl pushS_k 15
  have x_3 : ExtB (hiG i sh 3).1 (hiG i sh 3) (stG (hiG i sh 3).1 (pushS (hiG i sh 3) 3 0) 15) := ((ExtB.rfl0 (Nat.le_refl _)).push).tr s3_3 (Nat.le_refl _)
  refine zw_aastS dX0_init_31 (by omega) ((x_3.2 (i + 1) (by omega)).1.trans a4_3) (by rw [(x_3.2 (i + 1) (by omega)).2.1, a5_3]; decide) rfl (by rw [(x_3.2 (i + 1) (by omega)).2.1, a5_3]; decide) (by omega) s2_3 ?_
  refine zw_iincn dX0_init_32 rfl (by decide) ?_
  refine zw_goto (tgt := 14) dX0_init_35 (by decide) ?_
  rw [a1_3]
  rw [show up (hiM C i 3) (i + 2 + 16 * 3) 1 (nI 20) = hiM C i 4 from rfl, ← a1_3]
  show WP mX0_init 2 16 1751 14 [some (.inr (some i)), some (.inl (nI 4))] [] (hiG i sh 4) (hiM C i 4) none (hiG i sh 5) (hiM C i 5)
  refine zw_iload_n dX0_init_14 rfl ?_
  refine zw_iconst (v := nI 5) dX0_init_15 (by decide) ?_
  refine zw_icmp_ge (tgt := 38) dX0_init_16 (by decide) (fun c => absurd c (by decide)) (fun _ => ?_)
  obtain ⟨a1_4, a2_4, a3_4, a4_4, a5_4, a6_4, a7_4⟩ := hiG_f hi hk 4
  refine zw_aload_n dX0_init_19 rfl ?_
  refine zw_getR (j := 0) (kd := 0) dX0_init_20 (by omega) a2_4 (by decide) (by decide) fl_X0_11 rfl a3_4 ?_
  refine zw_iload_n dX0_init_23 rfl ?_
  refine zw_new (kd := 3) dX0_init_24 (by decide) cl_X0_9 it_X3 in_X3 (by decide) (by decide) (by decide) ?_
  rw [(hiM_z hz 4).push (show _ ≤ (hiG i sh 4).1 by omega)]
  refine zw_dup dX0_init_27 ?_
  refine zw_invIN (k2 := 15) (n2 := 1732) (k3 := 0) (n3 := 0) dX0_init_28 okX3_init nl_X0_17 (by decide) (Nat.le_of_ble_eq_true rfl) rfl rfl (by rw [(stG_f rfl pushS_k 15).1]; rfl) (k_X3_init rfl pushS_k ((hiM_z hz 4).wk (by omega))) ?_
  obtain ⟨s1_4, s2_4, s3_4, s4_4⟩ := stG_f (sh := pushS (hiG i sh 4) 3 0) (i := (hiG i sh 4).1) rfl pushS_k 15
  have x_4 : ExtB (hiG i sh 4).1 (hiG i sh 4) (stG (hiG i sh 4).1 (pushS (hiG i sh 4) 3 0) 15) := ((ExtB.rfl0 (Nat.le_refl _)).push).tr s3_4 (Nat.le_refl _)
  refine zw_aastS dX0_init_31 (by omega) ((x_4.2 (i + 1) (by omega)).1.trans a4_4) (by rw [(x_4.2 (i + 1) (by omega)).2.1, a5_4]; decide) rfl (by rw [(x_4.2 (i + 1) (by omega)).2.1, a5_4]; decide) (by omega) s2_4 ?_
  refine zw_iincn dX0_init_32 rfl (by decide) ?_
  refine zw_goto (tgt := 14) dX0_init_35 (by decide) ?_
  rw [a1_4]
  rw [show up (hiM C i 4) (i + 2 + 16 * 4) 1 (nI 20) = hiM C i 5 from rfl, ← a1_4]
  show WP mX0_init 2 0 0 14 [some (.inr (some i)), some (.inl (nI 5))] [] (hiG i sh 5) (hiM C i 5) none (hiG i sh 5) (hiM C i 5)
  refine zw_iload_n dX0_init_14 rfl ?_
  refine zw_iconst (v := nI 5) dX0_init_15 (by decide) ?_
  refine zw_icmp_ge (tgt := 38) dX0_init_16 (by decide) (fun _ => ?_) (fun c => absurd c (by decide))
  exact zw_vretE dX0_init_38 rfl rfl rfl rfl
