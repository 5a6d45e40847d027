/-! THE LAW'S METHODS: breaches. -/
/-- what a method of the law leaves: it says yes, and At holds, with three people at least -/
def Ok (t : Nat) (x : Int32) (C : Mem) : Prop := x = nI 1 ∧ ∃ P o z len, 3 ≤ P ∧ At t C P o z len
/-- the sum of debts, as a number -/
theorem deb_n {M : Mem} {P : Nat} {e : Nat → Nat} (hP : P ≤ 12) (h : ∀ r, r < 12 → M 4 r = nI (e r)) : sm (fun p => M 4 p) P = nI (ns e P) := sm_ns P (fun p hp => h p (by omega))
theorem pick {R : Nat → Nat → Nat → Prop} (h : ∀ r, r < 12 → ∃ e e', R r e e') : ∃ f g : Nat → Nat, ∀ r, r < 12 → R r (f r) (g r) := by
  have H : ∀ n, n ≤ 12 → ∃ f g : Nat → Nat, ∀ r, r < n → R r (f r) (g r) := by
    intro n
    induction n with
    | zero => exact fun _ => ⟨fun _ => 0, fun _ => 0, fun r hr => absurd hr (Nat.not_lt_zero r)⟩
    | succ n ih =>
      intro hn
      obtain ⟨f, g, hf⟩ := ih (by omega)
      obtain ⟨e, e', he⟩ := h n (by omega)
      refine ⟨fun r => if r = n then e else f r, fun r => if r = n then e' else g r, fun r hr => ?_⟩
      by_cases c : r = n
      · subst c; simpa using he
      · simpa [c] using hf r (by omega)
  exact H 12 (Nat.le_refl 12)
theorem ns_at {P p a : Nat} (h : p < P) {e e' : Nat → Nat} (he : ∀ r, r < P → e' r ≤ e r + (if r = p then a else 0)) : ns e' P ≤ ns e P + a := by
  have h1 := ns_m (f := e') (g := fun r => e r + (if r = p then a else 0)) P he
  have h2 : ns (fun r => e r + (if r = p then a else 0)) P + e p = ns e P + (e p + (if p = p then a else 0)) := ns_u (f := e) (f' := fun r => e r + (if r = p then a else 0)) (i := p) P h (fun s _ hne => by show e s + (if s = p then a else 0) = e s; rw [if_neg hne]; rfl)
  rw [if_pos (rfl : p = p)] at h2
  omega

set_option maxRecDepth 100000 in
set_option maxHeartbeats 4000000 in
theorem l_breaches {sh : Sh} {M : Mem} {P t o z len p st h : Nat} (hs : IsSH sh 0) (hA : At t M P o z len) (hP3 : 3 ≤ P) (ht : t < 500) (hp : p < P) (hst : st < 4) (hh : h < 24) : ∃ x C, Calls mL_breaches 5 0 0 [.inr (some 0), .inl (nI p), .inl (nI st), .inl (nI h)] sh M (some (.inl x)) sh C ∧ Ok (t + 1) x C := by
  have hslot : st * 24 + h < 96 := by omega
  have hP12 := hA.P12
  suffices hw : WE mL_breaches 5 0 [some (.inr (some 0)), some (.inl (nI p)), some (.inl (nI st)), some (.inl (nI h)), none, none, none, none, none] [] sh M (Ok (t + 1)) from we_calls plL (Nat.le_of_ble_eq_true rfl) hw
  refine we (fun _ _ k => zw_aload_n dL_breaches_0 rfl k) ?_
  refine we (fun _ _ k => zw_iconst (v := nI 5) dL_breaches_1 (by decide) k) ?_
  refine we (fun _ _ k => zw_cVi dL_breaches_2 (q_c5 hs hA) rfl okX4_count ml_L_15 hs.i hs.k (by decide) rfl (Nat.le_of_ble_eq_true rfl) (Nat.le_of_ble_eq_true rfl) k) ?_
  refine we (fun _ _ k => zw_istore dL_breaches_5 (by decide) k) ?_
  refine we (fun _ _ k => zw_aload_n dL_breaches_7 rfl k) ?_
  refine we (fun _ _ k => zw_bipush (v := nI 6) dL_breaches_8 (by decide) k) ?_
  refine we (fun _ _ k => zw_cVi dL_breaches_10 (q_c6 hs hA) rfl okX4_count ml_L_15 hs.i hs.k (by decide) rfl (Nat.le_of_ble_eq_true rfl) (Nat.le_of_ble_eq_true rfl) k) ?_
  refine we (fun _ _ k => zw_istore dL_breaches_13 (by decide) k) ?_
  refine we (fun _ _ k => zw_aload_n dL_breaches_15 rfl k) ?_
  refine we (fun _ _ k => zw_iload_n dL_breaches_16 rfl k) ?_
  refine we (fun _ _ k => zw_iconst (v := nI 1) dL_breaches_17 (by decide) k) ?_
  refine we (fun _ _ k => zw_cVi dL_breaches_18 (q_p1 hs hA hp) rfl okX4_person ml_L_22 hs.i hs.k (by decide) rfl (Nat.le_of_ble_eq_true rfl) (Nat.le_of_ble_eq_true rfl) k) ?_
  refine we (fun _ _ k => zw_istore dL_breaches_21 (by decide) k) ?_
  refine we (fun _ _ k => zw_aload_n dL_breaches_23 rfl k) ?_
  refine we (fun _ _ k => zw_iconst (v := nI 4) dL_breaches_24 (by decide) k) ?_
  refine we (fun _ _ k => zw_cVi dL_breaches_25 (q_c4 hs hA) rfl okX4_count ml_L_15 hs.i hs.k (by decide) rfl (Nat.le_of_ble_eq_true rfl) (Nat.le_of_ble_eq_true rfl) k) ?_
  refine we (fun _ _ k => zw_istore dL_breaches_28 (by decide) k) ?_
  refine we (fun _ _ k => zw_aload_n dL_breaches_30 rfl k) ?_
  refine we (fun _ _ k => zw_iload_n dL_breaches_31 rfl k) ?_
  refine we (fun _ _ k => zw_iload_n dL_breaches_32 rfl k) ?_
  refine we (fun _ _ k => zw_iload_n dL_breaches_33 rfl k) ?_
  rcases hA.1.1.own hslot with hown | hown
  · obtain ⟨f, v, M1, o1, z1, f1, f2, v1, v2, hc, hA1, hmon, hdeb, h11⟩ := a_breach_ok hs hA (by omega) hp hst hh hown
    obtain ⟨de, de2, hde⟩ := pick hdeb
    have hown1 : M1 11 (st * 24 + h) = nI 0 := by rw [h11]; exact hown
    have hD1 := deb_n hP12 (fun r hr => (hde r hr).1)
    have hD2 := deb_n hP12 (fun r hr => (hde r hr).2.1)
    have hDb : ns de P ≤ 1000 * t * P := ns_b P (fun r hr => (hde r (by omega)).2.2.1)
    have hDb2 : 1000 * t * P ≤ 1000 * 500 * 12 := Nat.mul_le_mul (by omega) hP12
    have hDle : ns de2 P ≤ ns de P + (f - min f v) := ns_at hp (fun r hr => (hde r (by omega)).2.2.2)
    have hmin : min f v ≤ f := Nat.min_le_left f v
    refine we (fun _ _ k => zw_cVi dL_breaches_34 (hc) rfl okX4_breach ml_L_57 hs.i hs.k (by decide) rfl (Nat.le_of_ble_eq_true rfl) (Nat.le_of_ble_eq_true rfl) k) ?_
    refine we (fun _ _ k => zw_istore dL_breaches_37 (by decide) k) ?_
    refine we (fun _ _ k => zw_aload_n dL_breaches_39 rfl k) ?_
    refine we (fun _ _ k => zw_iload_n dL_breaches_40 rfl k) ?_
    refine we (fun _ _ k => zw_iload_n dL_breaches_41 rfl k) ?_
    refine we (fun _ _ k => zw_iconst (v := nI 0) dL_breaches_42 (by decide) k) ?_
    refine we (fun _ _ k => zw_cVi dL_breaches_43 (q_s0 hs hA1 hst hh) rfl okX4_slot ml_L_32 hs.i hs.k (by decide) rfl (Nat.le_of_ble_eq_true rfl) (Nat.le_of_ble_eq_true rfl) k) ?_
    refine we_top (x2 := nI 0) hown1 ?_
    refine we (fun _ _ k => zw_iconst (v := nI 1) dL_breaches_46 (by decide) k) ?_
    refine we (fun _ _ k => zw_icmp_ne (tgt := 63) dL_breaches_47 (by decide) (fun _ => k) (fun c => absurd c (by decide))) ?_
    refine we (fun _ _ k => zw_iload dL_breaches_63 rfl k) ?_
    by_cases hfv : v < f
    · refine we (fun _ _ k => zw_iload dL_breaches_65 rfl k) ?_
      refine we (fun _ _ k => zw_iload dL_breaches_67 rfl k) ?_
      refine we (fun _ _ k => zw_icmp_ge (tgt := 77) dL_breaches_69 (by decide) (fun c => absurd (by rw [v1, f1]; exact nI_lt hfv (by omega)) c) (fun _ => k)) ?_
      refine we (fun _ _ k => zw_iload dL_breaches_72 rfl k) ?_
      refine we (fun _ _ k => zw_goto (tgt := 79) dL_breaches_74 (by decide) k) ?_
      refine we (fun _ _ k => zw_icmp_ne (tgt := 113) dL_breaches_79 (by decide) (fun c => absurd (by rw [v1, Nat.min_eq_right (by omega)]) c) (fun _ => k)) ?_
      refine we (fun _ _ k => zw_aload_n dL_breaches_82 rfl k) ?_
      refine we (fun _ _ k => zw_bipush (v := nI 6) dL_breaches_83 (by decide) k) ?_
      refine we (fun _ _ k => zw_cVi dL_breaches_85 (q_c6 hs hA1) rfl okX4_count ml_L_15 hs.i hs.k (by decide) rfl (Nat.le_of_ble_eq_true rfl) (Nat.le_of_ble_eq_true rfl) k) ?_
      refine we_top (x2 := nI (ns de2 P)) hD2 ?_
      refine we (fun _ _ k => zw_iload dL_breaches_88 rfl k) ?_
      refine we (fun _ _ k => zw_iload dL_breaches_90 rfl k) ?_
      refine we (fun _ _ k => zw_iadd dL_breaches_92 k) ?_
      refine we_top (x2 := nI (ns de P + f)) (by rw [hD1, f1, nI_add]) ?_
      refine we (fun _ _ k => zw_iload dL_breaches_93 rfl k) ?_
      refine we (fun _ _ k => zw_isub dL_breaches_95 k) ?_
      refine we_top (x2 := nI (ns de P + f - min f v)) (nI_subn (by omega)) ?_
      refine we (fun _ _ k => zw_icmp_gt (tgt := 113) dL_breaches_96 (by decide) (fun c => absurd c (nI_nlt (by omega) (by omega))) (fun _ => k)) ?_
      refine we (fun _ _ k => zw_aload_n dL_breaches_99 rfl k) ?_
      refine we (fun _ _ k => zw_iconst (v := nI 5) dL_breaches_100 (by decide) k) ?_
      refine we (fun _ _ k => zw_cVi dL_breaches_101 (q_c5 hs hA1) rfl okX4_count ml_L_15 hs.i hs.k (by decide) rfl (Nat.le_of_ble_eq_true rfl) (Nat.le_of_ble_eq_true rfl) k) ?_
      refine we (fun _ _ k => zw_iload dL_breaches_104 rfl k) ?_
      refine we (fun _ _ k => zw_icmp_ne (tgt := 113) dL_breaches_106 (by decide) (fun c => absurd hmon c) (fun _ => k)) ?_
      refine we (fun _ _ k => zw_iconst (v := nI 1) dL_breaches_109 (by decide) k) ?_
      refine we (fun _ _ k => zw_goto (tgt := 114) dL_breaches_110 (by decide) k) ?_
      exact we_ret dL_breaches_114 rfl (Or.inr rfl) ⟨rfl, P, o1, z1, len, hP3, hA1⟩
    · refine we (fun _ _ k => zw_iload dL_breaches_65 rfl k) ?_
      refine we (fun _ _ k => zw_iload dL_breaches_67 rfl k) ?_
      refine we (fun _ _ k => zw_icmp_ge (tgt := 77) dL_breaches_69 (by decide) (fun _ => k) (fun c => absurd c (by rw [v1, f1]; exact nI_nlt (by omega) (by omega)))) ?_
      refine we (fun _ _ k => zw_iload dL_breaches_77 rfl k) ?_
      refine we (fun _ _ k => zw_icmp_ne (tgt := 113) dL_breaches_79 (by decide) (fun c => absurd (by rw [f1, Nat.min_eq_left (by omega)]) c) (fun _ => k)) ?_
      refine we (fun _ _ k => zw_aload_n dL_breaches_82 rfl k) ?_
      refine we (fun _ _ k => zw_bipush (v := nI 6) dL_breaches_83 (by decide) k) ?_
      refine we (fun _ _ k => zw_cVi dL_breaches_85 (q_c6 hs hA1) rfl okX4_count ml_L_15 hs.i hs.k (by decide) rfl (Nat.le_of_ble_eq_true rfl) (Nat.le_of_ble_eq_true rfl) k) ?_
      refine we_top (x2 := nI (ns de2 P)) hD2 ?_
      refine we (fun _ _ k => zw_iload dL_breaches_88 rfl k) ?_
      refine we (fun _ _ k => zw_iload dL_breaches_90 rfl k) ?_
      refine we (fun _ _ k => zw_iadd dL_breaches_92 k) ?_
      refine we_top (x2 := nI (ns de P + f)) (by rw [hD1, f1, nI_add]) ?_
      refine we (fun _ _ k => zw_iload dL_breaches_93 rfl k) ?_
      refine we (fun _ _ k => zw_isub dL_breaches_95 k) ?_
      refine we_top (x2 := nI (ns de P + f - min f v)) (nI_subn (by omega)) ?_
      refine we (fun _ _ k => zw_icmp_gt (tgt := 113) dL_breaches_96 (by decide) (fun c => absurd c (nI_nlt (by omega) (by omega))) (fun _ => k)) ?_
      refine we (fun _ _ k => zw_aload_n dL_breaches_99 rfl k) ?_
      refine we (fun _ _ k => zw_iconst (v := nI 5) dL_breaches_100 (by decide) k) ?_
      refine we (fun _ _ k => zw_cVi dL_breaches_101 (q_c5 hs hA1) rfl okX4_count ml_L_15 hs.i hs.k (by decide) rfl (Nat.le_of_ble_eq_true rfl) (Nat.le_of_ble_eq_true rfl) k) ?_
      refine we (fun _ _ k => zw_iload dL_breaches_104 rfl k) ?_
      refine we (fun _ _ k => zw_icmp_ne (tgt := 113) dL_breaches_106 (by decide) (fun c => absurd hmon c) (fun _ => k)) ?_
      refine we (fun _ _ k => zw_iconst (v := nI 1) dL_breaches_109 (by decide) k) ?_
      refine we (fun _ _ k => zw_goto (tgt := 114) dL_breaches_110 (by decide) k) ?_
      exact we_ret dL_breaches_114 rfl (Or.inr rfl) ⟨rfl, P, o1, z1, len, hP3, hA1⟩
  · refine we (fun _ _ k => zw_cVi dL_breaches_34 (a_breach_ill hs hA hp hst hh hown) rfl okX4_breach ml_L_57 hs.i hs.k (by decide) rfl (Nat.le_of_ble_eq_true rfl) (Nat.le_of_ble_eq_true rfl) k) ?_
    refine we (fun _ _ k => zw_istore dL_breaches_37 (by decide) k) ?_
    refine we (fun _ _ k => zw_aload_n dL_breaches_39 rfl k) ?_
    refine we (fun _ _ k => zw_iload_n dL_breaches_40 rfl k) ?_
    refine we (fun _ _ k => zw_iload_n dL_breaches_41 rfl k) ?_
    refine we (fun _ _ k => zw_iconst (v := nI 0) dL_breaches_42 (by decide) k) ?_
    refine we (fun _ _ k => zw_cVi dL_breaches_43 (q_s0 hs hA hst hh) rfl okX4_slot ml_L_32 hs.i hs.k (by decide) rfl (Nat.le_of_ble_eq_true rfl) (Nat.le_of_ble_eq_true rfl) k) ?_
    refine we_top (x2 := nI 1) hown ?_
    refine we (fun _ _ k => zw_iconst (v := nI 1) dL_breaches_46 (by decide) k) ?_
    refine we (fun _ _ k => zw_icmp_ne (tgt := 63) dL_breaches_47 (by decide) (fun c => absurd (by decide) c) (fun _ => k)) ?_
    refine we (fun _ _ k => zw_iload dL_breaches_50 rfl k) ?_
    refine we (fun _ _ k => zw_bipush (v := (-2)) dL_breaches_52 (by decide) k) ?_
    refine we (fun _ _ k => zw_icmp_ne (tgt := 61) dL_breaches_54 (by decide) (fun c => absurd rfl c) (fun _ => k)) ?_
    refine we (fun _ _ k => zw_iconst (v := nI 1) dL_breaches_57 (by decide) k) ?_
    refine we (fun _ _ k => zw_goto (tgt := 62) dL_breaches_58 (by decide) k) ?_
    exact we_ret dL_breaches_62 rfl (Or.inr rfl) ⟨rfl, P, o, z, len, hP3, hA.mono (Nat.le_succ t)⟩
