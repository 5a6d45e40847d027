/-! THE LAW'S METHODS: isSound. -/
theorem ns_sh {g : Nat → Nat} {a : Nat} : ∀ n, ns (fun h => g (a + h)) n + ns g a = ns g (a + n)
  | 0 => by show 0 + ns g a = ns g a; rw [Nat.zero_add]
  | n + 1 => by
    have := ns_sh (g := g) (a := a) n
    show ns (fun h => g (a + h)) n + g (a + n) + ns g a = ns g (a + n) + g (a + n)
    omega
theorem street_le {C : Mem} {q p st : Nat} (hst : st < 4) : ns (fun h => amt C q p (st * 24 + h)) 24 ≤ hm C q p := by
  have h1 := ns_sh (g := fun s => amt C q p s) (a := st * 24) 24
  have h2 : ns (fun s => amt C q p s) (st * 24 + 24) ≤ hm C q p := ns_le (by omega)
  have h1 : ns (fun h => amt C q p (st * 24 + h)) 24 + ns (fun s => amt C q p s) (st * 24) = ns (fun s => amt C q p s) (st * 24 + 24) := h1
  omega
theorem amt_k {C : Mem} {q p s k : Nat} (h : bm C q p s = nI k) (hk : okm k) : amt C q p s = k % 1000 := by
  obtain ⟨h1, h2, -⟩ := bF_m hk
  show (bF (bm C q p s) (nI 0)).toInt.toNat + (bF (bm C q p s) (nI 1)).toInt.toNat = _
  unfold okm at hk
  rw [h, h1, h2]
  by_cases c : k ≤ 999
  · rw [if_pos c, if_pos c, nI_toInt (by omega), nI_toInt (n := 0) (by decide)]; omega
  · rw [if_neg c, if_neg c, nI_toInt (n := 0) (by decide), nI_toInt (by omega)]; omega
theorem bv_0 {x : Int32} (h : x = nI 0) : (if x = 0 then (-9) else x) = (-9) := if_pos (h.trans nI_0)
theorem bv_p {x : Int32} {k : Nat} (h : x = nI k) (hk : 0 < k) (hk2 : k < 2 ^ 31) : (if x = 0 then (-9) else x) = nI k := by
  rw [h, if_neg (nI_ne0 hk hk2)]

set_option maxRecDepth 100000 in
set_option maxHeartbeats 4000000 in
theorem l_isSound {sh : Sh} {M : Mem} {P t o z len st : Nat} (hs : IsSH sh 0) (hA : At t M P o z len) (ht : t < 500) (hst : st < 4) : ∃ x C, Calls mL_isSound 6 0 0 [.inr (some 0), .inl (nI st)] sh M (some (.inl x)) sh C ∧ x = nI 1 ∧ C = M := by
  have hP12 := hA.P12
  suffices hw : WE mL_isSound 6 0 [some (.inr (some 0)), some (.inl (nI st)), none, none, none, none, none, none, none, none, none, none, none, none] [] sh M (fun x C => x = nI 1 ∧ C = M) from we_calls plL (Nat.le_of_ble_eq_true rfl) hw
  refine we (fun _ _ k => zw_iconst (v := nI 0) dL_isSound_0 (by decide) k) ?_
  refine we (fun _ _ k => zw_istore_n dL_isSound_1 (by decide) k) ?_
  refine we (fun _ _ k => zw_iconst (v := nI 0) dL_isSound_2 (by decide) k) ?_
  refine we (fun _ _ k => zw_istore_n dL_isSound_3 (by decide) k) ?_
  refine we (fun _ _ k => zw_aload_n dL_isSound_4 rfl k) ?_
  refine we (fun _ _ k => zw_iconst (v := nI 0) dL_isSound_5 (by decide) k) ?_
  refine we (fun _ _ k => zw_cVi dL_isSound_6 (q_fu hs (st := 0) (by decide)) rfl okX4_fund ml_L_9 hs.i hs.k (by decide) rfl (Nat.le_of_ble_eq_true rfl) (Nat.le_of_ble_eq_true rfl) k) ?_
  refine we (fun _ _ k => zw_aload_n dL_isSound_9 rfl k) ?_
  refine we (fun _ _ k => zw_iconst (v := nI 1) dL_isSound_10 (by decide) k) ?_
  refine we (fun _ _ k => zw_cVi dL_isSound_11 (q_fu hs (st := 1) (by decide)) rfl okX4_fund ml_L_9 hs.i hs.k (by decide) rfl (Nat.le_of_ble_eq_true rfl) (Nat.le_of_ble_eq_true rfl) k) ?_
  refine we (fun _ _ k => zw_iadd dL_isSound_14 k) ?_
  refine we (fun _ _ k => zw_aload_n dL_isSound_15 rfl k) ?_
  refine we (fun _ _ k => zw_iconst (v := nI 2) dL_isSound_16 (by decide) k) ?_
  refine we (fun _ _ k => zw_cVi dL_isSound_17 (q_fu hs (st := 2) (by decide)) rfl okX4_fund ml_L_9 hs.i hs.k (by decide) rfl (Nat.le_of_ble_eq_true rfl) (Nat.le_of_ble_eq_true rfl) k) ?_
  refine we (fun _ _ k => zw_iadd dL_isSound_20 k) ?_
  refine we (fun _ _ k => zw_aload_n dL_isSound_21 rfl k) ?_
  refine we (fun _ _ k => zw_iconst (v := nI 3) dL_isSound_22 (by decide) k) ?_
  refine we (fun _ _ k => zw_cVi dL_isSound_23 (q_fu hs (st := 3) (by decide)) rfl okX4_fund ml_L_9 hs.i hs.k (by decide) rfl (Nat.le_of_ble_eq_true rfl) (Nat.le_of_ble_eq_true rfl) k) ?_
  refine we (fun _ _ k => zw_iadd dL_isSound_26 k) ?_
  refine we (fun _ _ k => zw_istore dL_isSound_27 (by decide) k) ?_
  refine we (fun _ _ k => zw_iconst (v := nI 0) dL_isSound_29 (by decide) k) ?_
  refine we (fun _ _ k => zw_istore dL_isSound_30 (by decide) k) ?_
  refine we (fun _ _ k => zw_iconst (v := nI 0) dL_isSound_32 (by decide) k) ?_
  refine we (fun _ _ k => zw_istore dL_isSound_33 (by decide) k) ?_
  refine we (fun _ _ k => zw_aload_n dL_isSound_35 rfl k) ?_
  refine we (fun _ _ k => zw_bipush (v := nI 8) dL_isSound_36 (by decide) k) ?_
  refine we (fun _ _ k => zw_cVi dL_isSound_38 (q_c8 hs hA) rfl okX4_count ml_L_15 hs.i hs.k (by decide) rfl (Nat.le_of_ble_eq_true rfl) (Nat.le_of_ble_eq_true rfl) k) ?_
  refine we (fun _ _ k => zw_iconst (v := nI 5) dL_isSound_41 (by decide) k) ?_
  refine we (fun _ _ k => zw_icmp_gt (tgt := 64) dL_isSound_42 (by decide) (fun c => absurd c (nI_nlt hA.z5 (by decide))) (fun _ => k)) ?_
  refine we (fun _ _ k => zw_aload_n dL_isSound_45 rfl k) ?_
  refine we (fun _ _ k => zw_iload_n dL_isSound_46 rfl k) ?_
  refine we (fun _ _ k => zw_iconst (v := nI 1) dL_isSound_47 (by decide) k) ?_
  refine we (fun _ _ k => zw_cVi dL_isSound_48 (q_q1 hs hst) rfl okX4_quiet ml_L_18 hs.i hs.k (by decide) rfl (Nat.le_of_ble_eq_true rfl) (Nat.le_of_ble_eq_true rfl) k) ?_
  refine we (fun _ _ k => zw_aload_n dL_isSound_51 rfl k) ?_
  refine we (fun _ _ k => zw_iload_n dL_isSound_52 rfl k) ?_
  refine we (fun _ _ k => zw_iconst (v := nI 0) dL_isSound_53 (by decide) k) ?_
  refine we (fun _ _ k => zw_cVi dL_isSound_54 (q_q0 hs hst) rfl okX4_quiet ml_L_18 hs.i hs.k (by decide) rfl (Nat.le_of_ble_eq_true rfl) (Nat.le_of_ble_eq_true rfl) k) ?_
  refine we (fun _ _ k => zw_icmp_gt (tgt := 64) dL_isSound_57 (by decide) (fun c => absurd c q_q01) (fun _ => k)) ?_
  refine we (fun _ _ k => zw_iconst (v := nI 1) dL_isSound_60 (by decide) k) ?_
  refine we (fun _ _ k => zw_goto (tgt := 65) dL_isSound_61 (by decide) k) ?_
  refine we (fun _ _ k => zw_istore dL_isSound_65 (by decide) k) ?_
  refine we (fun _ _ k => zw_iconst (v := nI 0) dL_isSound_67 (by decide) k) ?_
  refine we (fun _ _ k => zw_istore dL_isSound_68 (by decide) k) ?_
  have L70 : ∀ (n_70 p : Nat), p + n_70 = P → WE mL_isSound 6 70 [some (.inr (some 0)), some (.inl (nI st)), some (.inl (sm (fun p => sm (fun s => n01 (bm M 1 p s)) 96) p)), some (.inl (nI 0)), some (.inl ((M 16 0 + M 16 1 + M 16 2 + M 16 3 + sm (fun p => M 2 p) p))), some (.inl (sm (fun p => M 4 p) p)), some (.inl (sm (fun p => M 9 p) p)), some (.inl (nI 1)), some (.inl (nI p)), none, none, none, none, none] [] sh M (fun x C => x = nI 1 ∧ C = M) := by
    intro n_70
    induction n_70 with
    | zero =>
      intro p hk70
      have ek70 : p = P := by omega
      subst p
      refine we (fun _ _ k => zw_iload dL_isSound_70 rfl k) ?_
      refine we (fun _ _ k => zw_aload_n dL_isSound_72 rfl k) ?_
      refine we (fun _ _ k => zw_iconst (v := nI 1) dL_isSound_73 (by decide) k) ?_
      refine we (fun _ _ k => zw_cVi dL_isSound_74 (q_c1 hs hA) rfl okX4_count ml_L_15 hs.i hs.k (by decide) rfl (Nat.le_of_ble_eq_true rfl) (Nat.le_of_ble_eq_true rfl) k) ?_
      refine we (fun _ _ k => zw_icmp_ge (tgt := 235) dL_isSound_77 (by decide) (fun _ => k) (fun c => absurd c (nI_nlt (Nat.le_refl _) (by omega)))) ?_
      refine we (fun _ _ k => zw_iconst (v := nI 0) dL_isSound_235 (by decide) k) ?_
      refine we (fun _ _ k => zw_istore dL_isSound_236 (by decide) k) ?_
      have L238 : ∀ (n_238 j : Nat), j + n_238 = 4 → WE mL_isSound 6 238 [some (.inr (some 0)), some (.inl (nI st)), some (.inl (sm (fun p => sm (fun s => n01 (bm M 1 p s)) 96) P)), some (.inl (sm (fun st => nI 24 - qh M 1 st) j)), some (.inl ((M 16 0 + M 16 1 + M 16 2 + M 16 3 + sm (fun p => M 2 p) P))), some (.inl (sm (fun p => M 4 p) P)), some (.inl (sm (fun p => M 9 p) P)), some (.inl (nI 1)), some (.inl (nI j)), none, none, none, none, none] [] sh M (fun x C => x = nI 1 ∧ C = M) := by
        intro n_238
        induction n_238 with
        | zero =>
          intro j hk238
          have ek238 : j = 4 := by omega
          subst j
          refine we (fun _ _ k => zw_iload dL_isSound_238 rfl k) ?_
          refine we (fun _ _ k => zw_iconst (v := nI 4) dL_isSound_240 (by decide) k) ?_
          refine we (fun _ _ k => zw_icmp_ge (tgt := 263) dL_isSound_241 (by decide) (fun _ => k) (fun c => absurd c (nI_nlt (Nat.le_refl _) (by omega)))) ?_
          refine we (fun _ _ k => zw_iconst (v := nI 0) dL_isSound_263 (by decide) k) ?_
          refine we (fun _ _ k => zw_istore dL_isSound_264 (by decide) k) ?_
          have L266 : ∀ (n_266 g : Nat), g + n_266 = 24 → WE mL_isSound 6 266 [some (.inr (some 0)), some (.inl (nI st)), some (.inl (sm (fun p => sm (fun s => n01 (bm M 1 p s)) 96) P)), some (.inl (sm (fun st => nI 24 - qh M 1 st) 4)), some (.inl ((M 16 0 + M 16 1 + M 16 2 + M 16 3 + sm (fun p => M 2 p) P))), some (.inl (sm (fun p => M 4 p) P)), some (.inl (sm (fun p => M 9 p) P)), some (.inl (nI 1)), some (.inl (nI g)), none, none, none, none, none] [] sh M (fun x C => x = nI 1 ∧ C = M) := by
            intro n_266
            induction n_266 with
            | zero =>
              intro g hk266
              have ek266 : g = 24 := by omega
              subst g
              refine we (fun _ _ k => zw_iload dL_isSound_266 rfl k) ?_
              refine we (fun _ _ k => zw_bipush (v := nI 24) dL_isSound_268 (by decide) k) ?_
              refine we (fun _ _ k => zw_icmp_ge (tgt := 507) dL_isSound_270 (by decide) (fun _ => k) (fun c => absurd c (nI_nlt (Nat.le_refl _) (by omega)))) ?_
              refine we (fun _ _ k => zw_iload dL_isSound_507 rfl k) ?_
              refine we (fun _ _ k => zw_if_eq (tgt := 580) dL_isSound_509 (by decide) (fun c => absurd c (by decide)) (fun _ => k)) ?_
              refine we (fun _ _ k => zw_iload_n dL_isSound_512 rfl k) ?_
              refine we (fun _ _ k => zw_aload_n dL_isSound_513 rfl k) ?_
              refine we (fun _ _ k => zw_iconst (v := nI 2) dL_isSound_514 (by decide) k) ?_
              refine we (fun _ _ k => zw_cVi dL_isSound_515 (q_c2 hs hA) rfl okX4_count ml_L_15 hs.i hs.k (by decide) rfl (Nat.le_of_ble_eq_true rfl) (Nat.le_of_ble_eq_true rfl) k) ?_
              refine we (fun _ _ k => zw_icmp_ne (tgt := 580) dL_isSound_518 (by decide) (fun c => absurd rfl c) (fun _ => k)) ?_
              refine we (fun _ _ k => zw_iload_n dL_isSound_521 rfl k) ?_
              refine we (fun _ _ k => zw_aload_n dL_isSound_522 rfl k) ?_
              refine we (fun _ _ k => zw_iconst (v := nI 3) dL_isSound_523 (by decide) k) ?_
              refine we (fun _ _ k => zw_cVi dL_isSound_524 (q_c3 hs hA) rfl okX4_count ml_L_15 hs.i hs.k (by decide) rfl (Nat.le_of_ble_eq_true rfl) (Nat.le_of_ble_eq_true rfl) k) ?_
              refine we (fun _ _ k => zw_icmp_ne (tgt := 580) dL_isSound_527 (by decide) (fun c => absurd rfl c) (fun _ => k)) ?_
              refine we (fun _ _ k => zw_iload dL_isSound_530 rfl k) ?_
              refine we (fun _ _ k => zw_aload_n dL_isSound_532 rfl k) ?_
              refine we (fun _ _ k => zw_iconst (v := nI 5) dL_isSound_533 (by decide) k) ?_
              refine we (fun _ _ k => zw_cVi dL_isSound_534 (q_c5 hs hA) rfl okX4_count ml_L_15 hs.i hs.k (by decide) rfl (Nat.le_of_ble_eq_true rfl) (Nat.le_of_ble_eq_true rfl) k) ?_
              refine we (fun _ _ k => zw_icmp_ne (tgt := 580) dL_isSound_537 (by decide) (fun c => absurd mon_f c) (fun _ => k)) ?_
              refine we (fun _ _ k => zw_iload dL_isSound_540 rfl k) ?_
              refine we (fun _ _ k => zw_aload_n dL_isSound_542 rfl k) ?_
              refine we (fun _ _ k => zw_bipush (v := nI 6) dL_isSound_543 (by decide) k) ?_
              refine we (fun _ _ k => zw_cVi dL_isSound_545 (q_c6 hs hA) rfl okX4_count ml_L_15 hs.i hs.k (by decide) rfl (Nat.le_of_ble_eq_true rfl) (Nat.le_of_ble_eq_true rfl) k) ?_
              refine we (fun _ _ k => zw_icmp_ne (tgt := 580) dL_isSound_548 (by decide) (fun c => absurd rfl c) (fun _ => k)) ?_
              refine we (fun _ _ k => zw_iload dL_isSound_551 rfl k) ?_
              refine we (fun _ _ k => zw_aload_n dL_isSound_553 rfl k) ?_
              refine we (fun _ _ k => zw_bipush (v := nI 7) dL_isSound_554 (by decide) k) ?_
              refine we (fun _ _ k => zw_cVi dL_isSound_556 (q_c7 hs hA) rfl okX4_count ml_L_15 hs.i hs.k (by decide) rfl (Nat.le_of_ble_eq_true rfl) (Nat.le_of_ble_eq_true rfl) k) ?_
              refine we (fun _ _ k => zw_icmp_ne (tgt := 580) dL_isSound_559 (by decide) (fun c => absurd hA.1.2.2.2.2.symm c) (fun _ => k)) ?_
              refine we (fun _ _ k => zw_aload_n dL_isSound_562 rfl k) ?_
              refine we (fun _ _ k => zw_aload_n dL_isSound_563 rfl k) ?_
              refine we (fun _ _ k => zw_iconst (v := nI 1) dL_isSound_564 (by decide) k) ?_
              refine we (fun _ _ k => zw_cVi dL_isSound_565 (q_c1 hs hA) rfl okX4_count ml_L_15 hs.i hs.k (by decide) rfl (Nat.le_of_ble_eq_true rfl) (Nat.le_of_ble_eq_true rfl) k) ?_
              refine we (fun _ _ k => zw_iconst (v := nI 0) dL_isSound_568 (by decide) k) ?_
              refine we (fun _ _ k => zw_cVi dL_isSound_569 (q_pP hs hA) rfl okX4_person ml_L_22 hs.i hs.k (by decide) rfl (Nat.le_of_ble_eq_true rfl) (Nat.le_of_ble_eq_true rfl) k) ?_
              refine we (fun _ _ k => zw_iconst (v := (-1)) dL_isSound_572 (by decide) k) ?_
              refine we (fun _ _ k => zw_icmp_ne (tgt := 580) dL_isSound_573 (by decide) (fun c => absurd rfl c) (fun _ => k)) ?_
              refine we (fun _ _ k => zw_iconst (v := nI 1) dL_isSound_576 (by decide) k) ?_
              refine we (fun _ _ k => zw_goto (tgt := 581) dL_isSound_577 (by decide) k) ?_
              exact we_ret dL_isSound_581 rfl (Or.inr rfl) ⟨rfl, rfl⟩
            | succ n_266 ih266 =>
              intro g hk266
              have hlt266 : g < 24 := by omega
              have hslot : st * 24 + g < 96 := by omega
              have ho1 := hA.1.1.o01 hslot
              obtain ⟨c, c1, c2⟩ := hA.1.1.car hslot
              obtain ⟨hn1, hn2⟩ := hA.1.1.nn hslot
              refine we (fun _ _ k => zw_iload dL_isSound_266 rfl k) ?_
              refine we (fun _ _ k => zw_bipush (v := nI 24) dL_isSound_268 (by decide) k) ?_
              refine we (fun _ _ k => zw_icmp_ge (tgt := 507) dL_isSound_270 (by decide) (fun c => absurd (nI_lt (by omega) (by omega)) c) (fun _ => k)) ?_
              refine we (fun _ _ k => zw_iload dL_isSound_273 rfl k) ?_
              refine we (fun _ _ k => zw_if_eq (tgt := 507) dL_isSound_275 (by decide) (fun c => absurd c (by decide)) (fun _ => k)) ?_
              refine we (fun _ _ k => zw_iconst (v := nI 0) dL_isSound_278 (by decide) k) ?_
              refine we (fun _ _ k => zw_istore dL_isSound_279 (by decide) k) ?_
              refine we (fun _ _ k => zw_iconst (v := nI 0) dL_isSound_281 (by decide) k) ?_
              refine we (fun _ _ k => zw_istore dL_isSound_282 (by decide) k) ?_
              refine we (fun _ _ k => zw_iconst (v := nI 0) dL_isSound_284 (by decide) k) ?_
              refine we (fun _ _ k => zw_istore dL_isSound_285 (by decide) k) ?_
              refine we (fun _ _ k => zw_iconst (v := nI 0) dL_isSound_287 (by decide) k) ?_
              refine we (fun _ _ k => zw_istore dL_isSound_288 (by decide) k) ?_
              have L290 : ∀ (n_290 r : Nat), r + n_290 = P → WE mL_isSound 6 290 [some (.inr (some 0)), some (.inl (nI st)), some (.inl (sm (fun p => sm (fun s => n01 (bm M 1 p s)) 96) P)), some (.inl (sm (fun st => nI 24 - qh M 1 st) 4)), some (.inl ((M 16 0 + M 16 1 + M 16 2 + M 16 3 + sm (fun p => M 2 p) P))), some (.inl (sm (fun p => M 4 p) P)), some (.inl (sm (fun p => M 9 p) P)), some (.inl (nI 1)), some (.inl (nI g)), some (.inl (sm (fun p => bF (bm M 1 p (st * 24 + g)) (nI 0)) r)), some (.inl (sm (fun p => bF (bm M 1 p (st * 24 + g)) (nI 1)) r)), some (.inl (sm (fun p => n01 (bm M 1 p (st * 24 + g))) r)), some (.inl (nI r)), none] [] sh M (fun x C => x = nI 1 ∧ C = M) := by
                intro n_290
                induction n_290 with
                | zero =>
                  intro r hk290
                  have ek290 : r = P := by omega
                  subst r
                  refine we (fun _ _ k => zw_iload dL_isSound_290 rfl k) ?_
                  refine we (fun _ _ k => zw_aload_n dL_isSound_292 rfl k) ?_
                  refine we (fun _ _ k => zw_iconst (v := nI 1) dL_isSound_293 (by decide) k) ?_
                  refine we (fun _ _ k => zw_cVi dL_isSound_294 (q_c1 hs hA) rfl okX4_count ml_L_15 hs.i hs.k (by decide) rfl (Nat.le_of_ble_eq_true rfl) (Nat.le_of_ble_eq_true rfl) k) ?_
                  refine we (fun _ _ k => zw_icmp_ge (tgt := 379) dL_isSound_297 (by decide) (fun _ => k) (fun c => absurd c (nI_nlt (Nat.le_refl _) (by omega)))) ?_
                  refine we (fun _ _ k => zw_aload_n dL_isSound_379 rfl k) ?_
                  refine we (fun _ _ k => zw_iload_n dL_isSound_380 rfl k) ?_
                  refine we (fun _ _ k => zw_iload dL_isSound_381 rfl k) ?_
                  refine we (fun _ _ k => zw_cVi dL_isSound_383 (q_wi hs hA hst hlt266) rfl okX4_winner ml_L_29 hs.i hs.k (by decide) rfl (Nat.le_of_ble_eq_true rfl) (Nat.le_of_ble_eq_true rfl) k) ?_
                  refine we (fun _ _ k => zw_istore dL_isSound_386 (by decide) k) ?_
                  refine we (fun _ _ k => zw_iload dL_isSound_388 rfl k) ?_
                  refine we (fun _ _ k => zw_aload_n dL_isSound_390 rfl k) ?_
                  refine we (fun _ _ k => zw_iload_n dL_isSound_391 rfl k) ?_
                  refine we (fun _ _ k => zw_iload dL_isSound_392 rfl k) ?_
                  refine we (fun _ _ k => zw_iconst (v := nI 1) dL_isSound_394 (by decide) k) ?_
                  refine we (fun _ _ k => zw_cVi dL_isSound_395 (q_s1 hs hA hst hlt266) rfl okX4_slot ml_L_32 hs.i hs.k (by decide) rfl (Nat.le_of_ble_eq_true rfl) (Nat.le_of_ble_eq_true rfl) k) ?_
                  refine we (fun _ _ k => zw_icmp_ne (tgt := 460) dL_isSound_398 (by decide) (fun c => absurd rfl c) (fun _ => k)) ?_
                  refine we (fun _ _ k => zw_iload dL_isSound_401 rfl k) ?_
                  refine we (fun _ _ k => zw_aload_n dL_isSound_403 rfl k) ?_
                  refine we (fun _ _ k => zw_iload_n dL_isSound_404 rfl k) ?_
                  refine we (fun _ _ k => zw_iload dL_isSound_405 rfl k) ?_
                  refine we (fun _ _ k => zw_iconst (v := nI 2) dL_isSound_407 (by decide) k) ?_
                  refine we (fun _ _ k => zw_cVi dL_isSound_408 (q_s2 hs hA hst hlt266) rfl okX4_slot ml_L_32 hs.i hs.k (by decide) rfl (Nat.le_of_ble_eq_true rfl) (Nat.le_of_ble_eq_true rfl) k) ?_
                  refine we (fun _ _ k => zw_icmp_ne (tgt := 460) dL_isSound_411 (by decide) (fun c => absurd rfl c) (fun _ => k)) ?_
                  refine we (fun _ _ k => zw_iload dL_isSound_414 rfl k) ?_
                  refine we (fun _ _ k => zw_aload_n dL_isSound_416 rfl k) ?_
                  refine we (fun _ _ k => zw_iload_n dL_isSound_417 rfl k) ?_
                  refine we (fun _ _ k => zw_iload dL_isSound_418 rfl k) ?_
                  refine we (fun _ _ k => zw_iconst (v := nI 4) dL_isSound_420 (by decide) k) ?_
                  refine we (fun _ _ k => zw_cVi dL_isSound_421 (q_s4 hs hA hst hlt266) rfl okX4_slot ml_L_32 hs.i hs.k (by decide) rfl (Nat.le_of_ble_eq_true rfl) (Nat.le_of_ble_eq_true rfl) k) ?_
                  refine we (fun _ _ k => zw_icmp_ne (tgt := 460) dL_isSound_424 (by decide) (fun c => absurd rfl c) (fun _ => k)) ?_
                  refine we (fun _ _ k => zw_aload_n dL_isSound_427 rfl k) ?_
                  refine we (fun _ _ k => zw_iload_n dL_isSound_428 rfl k) ?_
                  refine we (fun _ _ k => zw_iload dL_isSound_429 rfl k) ?_
                  refine we (fun _ _ k => zw_iconst (v := nI 3) dL_isSound_431 (by decide) k) ?_
                  refine we (fun _ _ k => zw_cVi dL_isSound_432 (q_s3 hs hA hst hlt266) rfl okX4_slot ml_L_32 hs.i hs.k (by decide) rfl (Nat.le_of_ble_eq_true rfl) (Nat.le_of_ble_eq_true rfl) k) ?_
                  refine we_top (x2 := nI c) c1 ?_
                  refine we (fun _ _ k => zw_if_lt (tgt := 460) dL_isSound_435 (by decide) (fun c => absurd c (nI_pos (by omega))) (fun _ => k)) ?_
                  refine we (fun _ _ k => zw_iload dL_isSound_438 rfl k) ?_
                  by_cases hz : nB M 1 P (st * 24 + g) = 0
                  · refine we (fun _ _ k => zw_if_gt (tgt := 456) dL_isSound_440 (by decide) (fun c => absurd c (by rw [show sm (fun p => n01 (bm M 1 p (st * 24 + g))) P = 0 from hz]; decide)) (fun _ => k)) ?_
                    refine we (fun _ _ k => zw_iload dL_isSound_443 rfl k) ?_
                    refine we (fun _ _ k => zw_aload_n dL_isSound_445 rfl k) ?_
                    refine we (fun _ _ k => zw_iload_n dL_isSound_446 rfl k) ?_
                    refine we (fun _ _ k => zw_iload dL_isSound_447 rfl k) ?_
                    refine we (fun _ _ k => zw_iconst (v := nI 0) dL_isSound_449 (by decide) k) ?_
                    refine we (fun _ _ k => zw_cVi dL_isSound_450 (q_s0 hs hA hst hlt266) rfl okX4_slot ml_L_32 hs.i hs.k (by decide) rfl (Nat.le_of_ble_eq_true rfl) (Nat.le_of_ble_eq_true rfl) k) ?_
                    refine we (fun _ _ k => zw_icmp_ne (tgt := 460) dL_isSound_453 (by decide) (fun c => absurd (by unfold oT; rw [if_pos hz]) c) (fun _ => k)) ?_
                    refine we (fun _ _ k => zw_iconst (v := nI 1) dL_isSound_456 (by decide) k) ?_
                    refine we (fun _ _ k => zw_goto (tgt := 461) dL_isSound_457 (by decide) k) ?_
                    refine we (fun _ _ k => zw_istore dL_isSound_461 (by decide) k) ?_
                    refine we (fun _ _ k => zw_iload dL_isSound_463 rfl k) ?_
                    refine we (fun _ _ k => zw_if_eq (tgt := 498) dL_isSound_465 (by decide) (fun c => absurd c (by decide)) (fun _ => k)) ?_
                    refine we (fun _ _ k => zw_aload_n dL_isSound_468 rfl k) ?_
                    refine we (fun _ _ k => zw_iload_n dL_isSound_469 rfl k) ?_
                    refine we (fun _ _ k => zw_iload dL_isSound_470 rfl k) ?_
                    refine we (fun _ _ k => zw_iload dL_isSound_472 rfl k) ?_
                    refine we (fun _ _ k => zw_cVi dL_isSound_474 (q_ne hs hA hst hlt266 ho1) rfl okX4_needed ml_L_35 hs.i hs.k (by decide) rfl (Nat.le_of_ble_eq_true rfl) (Nat.le_of_ble_eq_true rfl) k) ?_
                    refine we (fun _ _ k => zw_if_ne (tgt := 498) dL_isSound_477 (by decide) (fun c => absurd ((mF_0 rfl).trans nI_0) c) (fun _ => k)) ?_
                    refine we (fun _ _ k => zw_aload_n dL_isSound_480 rfl k) ?_
                    refine we (fun _ _ k => zw_iload_n dL_isSound_481 rfl k) ?_
                    refine we (fun _ _ k => zw_iload dL_isSound_482 rfl k) ?_
                    refine we (fun _ _ k => zw_iconst (v := nI 1) dL_isSound_484 (by decide) k) ?_
                    refine we (fun _ _ k => zw_iload dL_isSound_485 rfl k) ?_
                    refine we (fun _ _ k => zw_isub dL_isSound_487 k) ?_
                    refine we_top (x2 := oS (oT M 1 P (st * 24 + g))) (oS_sub ho1) ?_
                    refine we (fun _ _ k => zw_cVi dL_isSound_488 (q_ne hs hA hst hlt266 (oS_01 ho1)) rfl okX4_needed ml_L_35 hs.i hs.k (by decide) rfl (Nat.le_of_ble_eq_true rfl) (Nat.le_of_ble_eq_true rfl) k) ?_
                    refine we (fun _ _ k => zw_if_le (tgt := 498) dL_isSound_491 (by decide) (fun c => absurd (mF_pos (oS_ne ho1)) c) (fun _ => k)) ?_
                    refine we (fun _ _ k => zw_iconst (v := nI 1) dL_isSound_494 (by decide) k) ?_
                    refine we (fun _ _ k => zw_goto (tgt := 499) dL_isSound_495 (by decide) k) ?_
                    refine we (fun _ _ k => zw_istore dL_isSound_499 (by decide) k) ?_
                    refine we (fun _ _ k => zw_iincn dL_isSound_501 rfl (by decide) k) ?_
                    refine we (fun _ _ k => zw_goto (tgt := 266) dL_isSound_504 (by decide) k) ?_
                    exact we_sub (ih266 (g + 1) (by omega)) ⟨rfl, rfl, rfl, rfl, rfl, rfl, rfl, rfl, rfl, trivial⟩
                  · refine we (fun _ _ k => zw_if_gt (tgt := 456) dL_isSound_440 (by decide) (fun _ => k) (fun c => absurd (show 0 < nB M 1 P (st * 24 + g) by rw [hn1]; exact nI_gt (Nat.pos_of_ne_zero (fun c => hz (by rw [hn1, c]; rfl))) (by omega)) c)) ?_
                    refine we (fun _ _ k => zw_iconst (v := nI 1) dL_isSound_456 (by decide) k) ?_
                    refine we (fun _ _ k => zw_goto (tgt := 461) dL_isSound_457 (by decide) k) ?_
                    refine we (fun _ _ k => zw_istore dL_isSound_461 (by decide) k) ?_
                    refine we (fun _ _ k => zw_iload dL_isSound_463 rfl k) ?_
                    refine we (fun _ _ k => zw_if_eq (tgt := 498) dL_isSound_465 (by decide) (fun c => absurd c (by decide)) (fun _ => k)) ?_
                    refine we (fun _ _ k => zw_aload_n dL_isSound_468 rfl k) ?_
                    refine we (fun _ _ k => zw_iload_n dL_isSound_469 rfl k) ?_
                    refine we (fun _ _ k => zw_iload dL_isSound_470 rfl k) ?_
                    refine we (fun _ _ k => zw_iload dL_isSound_472 rfl k) ?_
                    refine we (fun _ _ k => zw_cVi dL_isSound_474 (q_ne hs hA hst hlt266 ho1) rfl okX4_needed ml_L_35 hs.i hs.k (by decide) rfl (Nat.le_of_ble_eq_true rfl) (Nat.le_of_ble_eq_true rfl) k) ?_
                    refine we (fun _ _ k => zw_if_ne (tgt := 498) dL_isSound_477 (by decide) (fun c => absurd ((mF_0 rfl).trans nI_0) c) (fun _ => k)) ?_
                    refine we (fun _ _ k => zw_aload_n dL_isSound_480 rfl k) ?_
                    refine we (fun _ _ k => zw_iload_n dL_isSound_481 rfl k) ?_
                    refine we (fun _ _ k => zw_iload dL_isSound_482 rfl k) ?_
                    refine we (fun _ _ k => zw_iconst (v := nI 1) dL_isSound_484 (by decide) k) ?_
                    refine we (fun _ _ k => zw_iload dL_isSound_485 rfl k) ?_
                    refine we (fun _ _ k => zw_isub dL_isSound_487 k) ?_
                    refine we_top (x2 := oS (oT M 1 P (st * 24 + g))) (oS_sub ho1) ?_
                    refine we (fun _ _ k => zw_cVi dL_isSound_488 (q_ne hs hA hst hlt266 (oS_01 ho1)) rfl okX4_needed ml_L_35 hs.i hs.k (by decide) rfl (Nat.le_of_ble_eq_true rfl) (Nat.le_of_ble_eq_true rfl) k) ?_
                    refine we (fun _ _ k => zw_if_le (tgt := 498) dL_isSound_491 (by decide) (fun c => absurd (mF_pos (oS_ne ho1)) c) (fun _ => k)) ?_
                    refine we (fun _ _ k => zw_iconst (v := nI 1) dL_isSound_494 (by decide) k) ?_
                    refine we (fun _ _ k => zw_goto (tgt := 499) dL_isSound_495 (by decide) k) ?_
                    refine we (fun _ _ k => zw_istore dL_isSound_499 (by decide) k) ?_
                    refine we (fun _ _ k => zw_iincn dL_isSound_501 rfl (by decide) k) ?_
                    refine we (fun _ _ k => zw_goto (tgt := 266) dL_isSound_504 (by decide) k) ?_
                    exact we_sub (ih266 (g + 1) (by omega)) ⟨rfl, rfl, rfl, rfl, rfl, rfl, rfl, rfl, rfl, trivial⟩
                | succ n_290 ih290 =>
                  intro r hk290
                  have hlt290 : r < P := by omega
                  obtain ⟨kb, hkb, hok⟩ := hA.1.1.mk (p := r) (s := st * 24 + g) (by omega) hslot
                  obtain ⟨hb0, hb1, hb2⟩ := bF_m hok
                  unfold okm at hok
                  refine we (fun _ _ k => zw_iload dL_isSound_290 rfl k) ?_
                  refine we (fun _ _ k => zw_aload_n dL_isSound_292 rfl k) ?_
                  refine we (fun _ _ k => zw_iconst (v := nI 1) dL_isSound_293 (by decide) k) ?_
                  refine we (fun _ _ k => zw_cVi dL_isSound_294 (q_c1 hs hA) rfl okX4_count ml_L_15 hs.i hs.k (by decide) rfl (Nat.le_of_ble_eq_true rfl) (Nat.le_of_ble_eq_true rfl) k) ?_
                  refine we (fun _ _ k => zw_icmp_ge (tgt := 379) dL_isSound_297 (by decide) (fun c => absurd (nI_lt (by omega) (by omega)) c) (fun _ => k)) ?_
                  refine we (fun _ _ k => zw_aload_n dL_isSound_300 rfl k) ?_
                  refine we (fun _ _ k => zw_iload dL_isSound_301 rfl k) ?_
                  refine we (fun _ _ k => zw_iload_n dL_isSound_303 rfl k) ?_
                  refine we (fun _ _ k => zw_iload dL_isSound_304 rfl k) ?_
                  refine we (fun _ _ k => zw_cVi dL_isSound_306 (q_bo hs hA hlt290 hst hlt266) rfl okX4_bidOf ml_L_25 hs.i hs.k (by decide) rfl (Nat.le_of_ble_eq_true rfl) (Nat.le_of_ble_eq_true rfl) k) ?_
                  rcases (show kb = 0 ∨ (1 ≤ kb ∧ kb ≤ 999) ∨ (1001 ≤ kb ∧ kb ≤ 1999) by omega) with hk | hk | hk
                  · subst hk
                    have eb0 : bF (bm M 1 r (st * 24 + g)) (nI 0) = nI 0 := by rw [hkb]; exact hb0
                    have eb1 : bF (bm M 1 r (st * 24 + g)) (nI 1) = nI 0 := by rw [hkb]; exact hb1
                    have en : n01 (bm M 1 r (st * 24 + g)) = nI 0 := by rw [hkb]; exact hb2
                    refine we_top (x2 := (-9)) (bv_0 hkb) ?_
                    refine we (fun _ _ k => zw_istore dL_isSound_309 (by decide) k) ?_
                    refine we (fun _ _ k => zw_iload dL_isSound_311 rfl k) ?_
                    refine we (fun _ _ k => zw_iload dL_isSound_313 rfl k) ?_
                    refine we (fun _ _ k => zw_if_le (tgt := 331) dL_isSound_315 (by decide) (fun _ => k) (fun c => absurd c (by decide))) ?_
                    refine we (fun _ _ k => zw_iconst (v := nI 0) dL_isSound_331 (by decide) k) ?_
                    refine we (fun _ _ k => zw_iadd dL_isSound_332 k) ?_
                    refine we (fun _ _ k => zw_istore dL_isSound_333 (by decide) k) ?_
                    refine we (fun _ _ k => zw_iload dL_isSound_335 rfl k) ?_
                    refine we (fun _ _ k => zw_iload dL_isSound_337 rfl k) ?_
                    refine we (fun _ _ k => zw_sipush (v := nI 1000) dL_isSound_339 (by decide) k) ?_
                    refine we (fun _ _ k => zw_icmp_le (tgt := 354) dL_isSound_342 (by decide) (fun _ => k) (fun c => absurd c (by decide))) ?_
                    refine we (fun _ _ k => zw_iconst (v := nI 0) dL_isSound_354 (by decide) k) ?_
                    refine we (fun _ _ k => zw_iadd dL_isSound_355 k) ?_
                    refine we (fun _ _ k => zw_istore dL_isSound_356 (by decide) k) ?_
                    refine we (fun _ _ k => zw_iload dL_isSound_358 rfl k) ?_
                    refine we (fun _ _ k => zw_iload dL_isSound_360 rfl k) ?_
                    refine we (fun _ _ k => zw_if_le (tgt := 369) dL_isSound_362 (by decide) (fun _ => k) (fun c => absurd c (by decide))) ?_
                    refine we (fun _ _ k => zw_iconst (v := nI 0) dL_isSound_369 (by decide) k) ?_
                    refine we (fun _ _ k => zw_iadd dL_isSound_370 k) ?_
                    refine we (fun _ _ k => zw_istore dL_isSound_371 (by decide) k) ?_
                    refine we (fun _ _ k => zw_iincn dL_isSound_373 rfl (by decide) k) ?_
                    refine we (fun _ _ k => zw_goto (tgt := 290) dL_isSound_376 (by decide) k) ?_
                    exact we_sub (ih290 (r + 1) (by omega)) ⟨rfl, rfl, rfl, rfl, rfl, rfl, rfl, rfl, rfl, hd_eq (congrArg (sm (fun p => bF (bm M 1 p (st * 24 + g)) (nI 0)) r + ·) eb0.symm), hd_eq (congrArg (sm (fun p => bF (bm M 1 p (st * 24 + g)) (nI 1)) r + ·) eb1.symm), hd_eq (congrArg (sm (fun p => n01 (bm M 1 p (st * 24 + g))) r + ·) en.symm), rfl, trivial⟩
                  · have eb0 : bF (bm M 1 r (st * 24 + g)) (nI 0) = nI kb := by rw [hkb, hb0, if_pos hk.2]
                    have eb1 : bF (bm M 1 r (st * 24 + g)) (nI 1) = nI 0 := by rw [hkb, hb1, if_pos hk.2]
                    have en : n01 (bm M 1 r (st * 24 + g)) = nI 1 := by rw [hkb, hb2, if_neg (by omega)]
                    refine we_top (x2 := nI kb) (bv_p hkb (by omega) (by omega)) ?_
                    refine we (fun _ _ k => zw_istore dL_isSound_309 (by decide) k) ?_
                    refine we (fun _ _ k => zw_iload dL_isSound_311 rfl k) ?_
                    refine we (fun _ _ k => zw_iload dL_isSound_313 rfl k) ?_
                    refine we (fun _ _ k => zw_if_le (tgt := 331) dL_isSound_315 (by decide) (fun c => absurd (nI_gt (by omega) (by omega)) c) (fun _ => k)) ?_
                    refine we (fun _ _ k => zw_iload dL_isSound_318 rfl k) ?_
                    refine we (fun _ _ k => zw_sipush (v := nI 1000) dL_isSound_320 (by decide) k) ?_
                    refine we (fun _ _ k => zw_icmp_ge (tgt := 331) dL_isSound_323 (by decide) (fun c => absurd (nI_lt (by omega) (by omega)) c) (fun _ => k)) ?_
                    refine we (fun _ _ k => zw_iload dL_isSound_326 rfl k) ?_
                    refine we (fun _ _ k => zw_goto (tgt := 332) dL_isSound_328 (by decide) k) ?_
                    refine we (fun _ _ k => zw_iadd dL_isSound_332 k) ?_
                    refine we (fun _ _ k => zw_istore dL_isSound_333 (by decide) k) ?_
                    refine we (fun _ _ k => zw_iload dL_isSound_335 rfl k) ?_
                    refine we (fun _ _ k => zw_iload dL_isSound_337 rfl k) ?_
                    refine we (fun _ _ k => zw_sipush (v := nI 1000) dL_isSound_339 (by decide) k) ?_
                    refine we (fun _ _ k => zw_icmp_le (tgt := 354) dL_isSound_342 (by decide) (fun _ => k) (fun c => absurd c (nI_nlt (by omega) (by omega)))) ?_
                    refine we (fun _ _ k => zw_iconst (v := nI 0) dL_isSound_354 (by decide) k) ?_
                    refine we (fun _ _ k => zw_iadd dL_isSound_355 k) ?_
                    refine we (fun _ _ k => zw_istore dL_isSound_356 (by decide) k) ?_
                    refine we (fun _ _ k => zw_iload dL_isSound_358 rfl k) ?_
                    refine we (fun _ _ k => zw_iload dL_isSound_360 rfl k) ?_
                    refine we (fun _ _ k => zw_if_le (tgt := 369) dL_isSound_362 (by decide) (fun c => absurd (nI_gt (by omega) (by omega)) c) (fun _ => k)) ?_
                    refine we (fun _ _ k => zw_iconst (v := nI 1) dL_isSound_365 (by decide) k) ?_
                    refine we (fun _ _ k => zw_goto (tgt := 370) dL_isSound_366 (by decide) k) ?_
                    refine we (fun _ _ k => zw_iadd dL_isSound_370 k) ?_
                    refine we (fun _ _ k => zw_istore dL_isSound_371 (by decide) k) ?_
                    refine we (fun _ _ k => zw_iincn dL_isSound_373 rfl (by decide) k) ?_
                    refine we (fun _ _ k => zw_goto (tgt := 290) dL_isSound_376 (by decide) k) ?_
                    exact we_sub (ih290 (r + 1) (by omega)) ⟨rfl, rfl, rfl, rfl, rfl, rfl, rfl, rfl, rfl, hd_eq (congrArg (sm (fun p => bF (bm M 1 p (st * 24 + g)) (nI 0)) r + ·) eb0.symm), hd_eq (congrArg (sm (fun p => bF (bm M 1 p (st * 24 + g)) (nI 1)) r + ·) eb1.symm), hd_eq (congrArg (sm (fun p => n01 (bm M 1 p (st * 24 + g))) r + ·) en.symm), rfl, trivial⟩
                  · have eb0 : bF (bm M 1 r (st * 24 + g)) (nI 0) = nI 0 := by rw [hkb, hb0, if_neg (by omega)]
                    have eb1 : bF (bm M 1 r (st * 24 + g)) (nI 1) = nI (kb - 1000) := by rw [hkb, hb1, if_neg (by omega)]
                    have en : n01 (bm M 1 r (st * 24 + g)) = nI 1 := by rw [hkb, hb2, if_neg (by omega)]
                    refine we_top (x2 := nI kb) (bv_p hkb (by omega) (by omega)) ?_
                    refine we (fun _ _ k => zw_istore dL_isSound_309 (by decide) k) ?_
                    refine we (fun _ _ k => zw_iload dL_isSound_311 rfl k) ?_
                    refine we (fun _ _ k => zw_iload dL_isSound_313 rfl k) ?_
                    refine we (fun _ _ k => zw_if_le (tgt := 331) dL_isSound_315 (by decide) (fun c => absurd (nI_gt (by omega) (by omega)) c) (fun _ => k)) ?_
                    refine we (fun _ _ k => zw_iload dL_isSound_318 rfl k) ?_
                    refine we (fun _ _ k => zw_sipush (v := nI 1000) dL_isSound_320 (by decide) k) ?_
                    refine we (fun _ _ k => zw_icmp_ge (tgt := 331) dL_isSound_323 (by decide) (fun _ => k) (fun c => absurd c (nI_nlt (by omega) (by omega)))) ?_
                    refine we (fun _ _ k => zw_iconst (v := nI 0) dL_isSound_331 (by decide) k) ?_
                    refine we (fun _ _ k => zw_iadd dL_isSound_332 k) ?_
                    refine we (fun _ _ k => zw_istore dL_isSound_333 (by decide) k) ?_
                    refine we (fun _ _ k => zw_iload dL_isSound_335 rfl k) ?_
                    refine we (fun _ _ k => zw_iload dL_isSound_337 rfl k) ?_
                    refine we (fun _ _ k => zw_sipush (v := nI 1000) dL_isSound_339 (by decide) k) ?_
                    refine we (fun _ _ k => zw_icmp_le (tgt := 354) dL_isSound_342 (by decide) (fun c => absurd (nI_lt (by omega) (by omega)) c) (fun _ => k)) ?_
                    refine we (fun _ _ k => zw_iload dL_isSound_345 rfl k) ?_
                    refine we (fun _ _ k => zw_sipush (v := nI 1000) dL_isSound_347 (by decide) k) ?_
                    refine we (fun _ _ k => zw_isubn dL_isSound_350 (by omega) k) ?_
                    refine we (fun _ _ k => zw_goto (tgt := 355) dL_isSound_351 (by decide) k) ?_
                    refine we (fun _ _ k => zw_iadd dL_isSound_355 k) ?_
                    refine we (fun _ _ k => zw_istore dL_isSound_356 (by decide) k) ?_
                    refine we (fun _ _ k => zw_iload dL_isSound_358 rfl k) ?_
                    refine we (fun _ _ k => zw_iload dL_isSound_360 rfl k) ?_
                    refine we (fun _ _ k => zw_if_le (tgt := 369) dL_isSound_362 (by decide) (fun c => absurd (nI_gt (by omega) (by omega)) c) (fun _ => k)) ?_
                    refine we (fun _ _ k => zw_iconst (v := nI 1) dL_isSound_365 (by decide) k) ?_
                    refine we (fun _ _ k => zw_goto (tgt := 370) dL_isSound_366 (by decide) k) ?_
                    refine we (fun _ _ k => zw_iadd dL_isSound_370 k) ?_
                    refine we (fun _ _ k => zw_istore dL_isSound_371 (by decide) k) ?_
                    refine we (fun _ _ k => zw_iincn dL_isSound_373 rfl (by decide) k) ?_
                    refine we (fun _ _ k => zw_goto (tgt := 290) dL_isSound_376 (by decide) k) ?_
                    exact we_sub (ih290 (r + 1) (by omega)) ⟨rfl, rfl, rfl, rfl, rfl, rfl, rfl, rfl, rfl, hd_eq (congrArg (sm (fun p => bF (bm M 1 p (st * 24 + g)) (nI 0)) r + ·) eb0.symm), hd_eq (congrArg (sm (fun p => bF (bm M 1 p (st * 24 + g)) (nI 1)) r + ·) eb1.symm), hd_eq (congrArg (sm (fun p => n01 (bm M 1 p (st * 24 + g))) r + ·) en.symm), rfl, trivial⟩
              exact we_sub (L290 P 0 (by omega)) ⟨rfl, rfl, rfl, rfl, rfl, rfl, rfl, rfl, rfl, hd_eq nI_0, hd_eq nI_0, hd_eq nI_0, rfl, trivial⟩
          exact we_sub (L266 24 0 (by omega)) ⟨rfl, rfl, rfl, rfl, rfl, rfl, rfl, rfl, rfl, trivial⟩
        | succ n_238 ih238 =>
          intro j hk238
          have hlt238 : j < 4 := by omega
          refine we (fun _ _ k => zw_iload dL_isSound_238 rfl k) ?_
          refine we (fun _ _ k => zw_iconst (v := nI 4) dL_isSound_240 (by decide) k) ?_
          refine we (fun _ _ k => zw_icmp_ge (tgt := 263) dL_isSound_241 (by decide) (fun c => absurd (nI_lt (by omega) (by omega)) c) (fun _ => k)) ?_
          refine we (fun _ _ k => zw_iload_n dL_isSound_244 rfl k) ?_
          refine we (fun _ _ k => zw_bipush (v := nI 24) dL_isSound_245 (by decide) k) ?_
          refine we (fun _ _ k => zw_aload_n dL_isSound_247 rfl k) ?_
          refine we (fun _ _ k => zw_iload dL_isSound_248 rfl k) ?_
          refine we (fun _ _ k => zw_iconst (v := nI 0) dL_isSound_250 (by decide) k) ?_
          refine we (fun _ _ k => zw_cVi dL_isSound_251 (q_q0 hs hlt238) rfl okX4_quiet ml_L_18 hs.i hs.k (by decide) rfl (Nat.le_of_ble_eq_true rfl) (Nat.le_of_ble_eq_true rfl) k) ?_
          refine we (fun _ _ k => zw_isub dL_isSound_254 k) ?_
          refine we (fun _ _ k => zw_iadd dL_isSound_255 k) ?_
          refine we (fun _ _ k => zw_istore_n dL_isSound_256 (by decide) k) ?_
          refine we (fun _ _ k => zw_iincn dL_isSound_257 rfl (by decide) k) ?_
          refine we (fun _ _ k => zw_goto (tgt := 238) dL_isSound_260 (by decide) k) ?_
          exact we_sub (ih238 (j + 1) (by omega)) ⟨rfl, rfl, rfl, rfl, rfl, rfl, rfl, rfl, rfl, trivial⟩
      exact we_sub (L238 4 0 (by omega)) ⟨rfl, rfl, rfl, hd_eq nI_0, rfl, rfl, rfl, rfl, rfl, trivial⟩
    | succ n_70 ih70 =>
      intro p hk70
      have hlt70 : p < P := by omega
      obtain ⟨k0, k1, k2, k3, k4⟩ := hA.1.mny (show p < 12 by omega)
      obtain ⟨dd, dd1, dd2⟩ := hA.1.1.deb (show p < 12 by omega)
      have hstl := street_le (C := M) (q := 1) (p := p) hst
      have k3 : k0 ≤ 2000000 * t := k3
      have dd2 : dd ≤ 1000 * t := dd2
      have k2 : hm M 1 p ≤ k0 := k2
      refine we (fun _ _ k => zw_iload dL_isSound_70 rfl k) ?_
      refine we (fun _ _ k => zw_aload_n dL_isSound_72 rfl k) ?_
      refine we (fun _ _ k => zw_iconst (v := nI 1) dL_isSound_73 (by decide) k) ?_
      refine we (fun _ _ k => zw_cVi dL_isSound_74 (q_c1 hs hA) rfl okX4_count ml_L_15 hs.i hs.k (by decide) rfl (Nat.le_of_ble_eq_true rfl) (Nat.le_of_ble_eq_true rfl) k) ?_
      refine we (fun _ _ k => zw_icmp_ge (tgt := 235) dL_isSound_77 (by decide) (fun c => absurd (nI_lt (by omega) (by omega)) c) (fun _ => k)) ?_
      refine we (fun _ _ k => zw_iload dL_isSound_80 rfl k) ?_
      refine we (fun _ _ k => zw_if_eq (tgt := 235) dL_isSound_82 (by decide) (fun c => absurd c (by decide)) (fun _ => k)) ?_
      refine we (fun _ _ k => zw_iconst (v := nI 0) dL_isSound_85 (by decide) k) ?_
      refine we (fun _ _ k => zw_istore dL_isSound_86 (by decide) k) ?_
      refine we (fun _ _ k => zw_iload dL_isSound_88 rfl k) ?_
      refine we (fun _ _ k => zw_aload_n dL_isSound_90 rfl k) ?_
      refine we (fun _ _ k => zw_iload dL_isSound_91 rfl k) ?_
      refine we (fun _ _ k => zw_iconst (v := nI 0) dL_isSound_93 (by decide) k) ?_
      refine we (fun _ _ k => zw_cVi dL_isSound_94 (q_p0 hs hA hlt70) rfl okX4_person ml_L_22 hs.i hs.k (by decide) rfl (Nat.le_of_ble_eq_true rfl) (Nat.le_of_ble_eq_true rfl) k) ?_
      refine we (fun _ _ k => zw_iadd dL_isSound_97 k) ?_
      refine we (fun _ _ k => zw_istore dL_isSound_98 (by decide) k) ?_
      refine we (fun _ _ k => zw_iload dL_isSound_100 rfl k) ?_
      refine we (fun _ _ k => zw_aload_n dL_isSound_102 rfl k) ?_
      refine we (fun _ _ k => zw_iload dL_isSound_103 rfl k) ?_
      refine we (fun _ _ k => zw_iconst (v := nI 2) dL_isSound_105 (by decide) k) ?_
      refine we (fun _ _ k => zw_cVi dL_isSound_106 (q_p2 hs hA hlt70) rfl okX4_person ml_L_22 hs.i hs.k (by decide) rfl (Nat.le_of_ble_eq_true rfl) (Nat.le_of_ble_eq_true rfl) k) ?_
      refine we (fun _ _ k => zw_iadd dL_isSound_109 k) ?_
      refine we (fun _ _ k => zw_istore dL_isSound_110 (by decide) k) ?_
      refine we (fun _ _ k => zw_iload_n dL_isSound_112 rfl k) ?_
      refine we (fun _ _ k => zw_aload_n dL_isSound_113 rfl k) ?_
      refine we (fun _ _ k => zw_iload dL_isSound_114 rfl k) ?_
      refine we (fun _ _ k => zw_iconst (v := nI 3) dL_isSound_116 (by decide) k) ?_
      refine we (fun _ _ k => zw_cVi dL_isSound_117 (q_p3 hs hA hlt70) rfl okX4_person ml_L_22 hs.i hs.k (by decide) rfl (Nat.le_of_ble_eq_true rfl) (Nat.le_of_ble_eq_true rfl) k) ?_
      refine we (fun _ _ k => zw_iadd dL_isSound_120 k) ?_
      refine we (fun _ _ k => zw_istore_n dL_isSound_121 (by decide) k) ?_
      refine we (fun _ _ k => zw_iload dL_isSound_122 rfl k) ?_
      refine we (fun _ _ k => zw_aload_n dL_isSound_124 rfl k) ?_
      refine we (fun _ _ k => zw_iload dL_isSound_125 rfl k) ?_
      refine we (fun _ _ k => zw_bipush (v := nI 7) dL_isSound_127 (by decide) k) ?_
      refine we (fun _ _ k => zw_cVi dL_isSound_129 (q_p7 hs hA hlt70) rfl okX4_person ml_L_22 hs.i hs.k (by decide) rfl (Nat.le_of_ble_eq_true rfl) (Nat.le_of_ble_eq_true rfl) k) ?_
      refine we (fun _ _ k => zw_iadd dL_isSound_132 k) ?_
      refine we (fun _ _ k => zw_istore dL_isSound_133 (by decide) k) ?_
      refine we (fun _ _ k => zw_iconst (v := nI 0) dL_isSound_135 (by decide) k) ?_
      refine we (fun _ _ k => zw_istore dL_isSound_136 (by decide) k) ?_
      have L138 : ∀ (n_138 h : Nat), h + n_138 = 24 → WE mL_isSound 6 138 [some (.inr (some 0)), some (.inl (nI st)), some (.inl ((sm (fun p => sm (fun s => n01 (bm M 1 p s)) 96) p + sm (fun s => n01 (bm M 1 p s)) 96))), some (.inl (nI 0)), some (.inl (((M 16 0 + M 16 1 + M 16 2 + M 16 3 + sm (fun p => M 2 p) p) + M 2 p))), some (.inl ((sm (fun p => M 4 p) p + M 4 p))), some (.inl ((sm (fun p => M 9 p) p + M 9 p))), some (.inl (nI 1)), some (.inl (nI p)), some (.inl (nI (ns (fun h => amt M 1 p (st * 24 + h)) h))), some (.inl (nI h)), none, none, none] [] sh M (fun x C => x = nI 1 ∧ C = M) := by
        intro n_138
        induction n_138 with
        | zero =>
          intro h hk138
          have ek138 : h = 24 := by omega
          subst h
          refine we (fun _ _ k => zw_iload dL_isSound_138 rfl k) ?_
          refine we (fun _ _ k => zw_bipush (v := nI 24) dL_isSound_140 (by decide) k) ?_
          refine we (fun _ _ k => zw_icmp_ge (tgt := 182) dL_isSound_142 (by decide) (fun _ => k) (fun c => absurd c (nI_nlt (Nat.le_refl _) (by omega)))) ?_
          refine we (fun _ _ k => zw_aload_n dL_isSound_182 rfl k) ?_
          refine we (fun _ _ k => zw_iload dL_isSound_183 rfl k) ?_
          refine we (fun _ _ k => zw_iconst (v := nI 1) dL_isSound_185 (by decide) k) ?_
          refine we (fun _ _ k => zw_cVi dL_isSound_186 (q_p1 hs hA hlt70) rfl okX4_person ml_L_22 hs.i hs.k (by decide) rfl (Nat.le_of_ble_eq_true rfl) (Nat.le_of_ble_eq_true rfl) k) ?_
          refine we_top (x2 := nI (k0 - hm M 1 p)) k4 ?_
          refine we (fun _ _ k => zw_if_lt (tgt := 226) dL_isSound_189 (by decide) (fun c => absurd c (nI_pos (by omega))) (fun _ => k)) ?_
          refine we (fun _ _ k => zw_aload_n dL_isSound_192 rfl k) ?_
          refine we (fun _ _ k => zw_iload dL_isSound_193 rfl k) ?_
          refine we (fun _ _ k => zw_iconst (v := nI 0) dL_isSound_195 (by decide) k) ?_
          refine we (fun _ _ k => zw_cVi dL_isSound_196 (q_p0 hs hA hlt70) rfl okX4_person ml_L_22 hs.i hs.k (by decide) rfl (Nat.le_of_ble_eq_true rfl) (Nat.le_of_ble_eq_true rfl) k) ?_
          refine we_top (x2 := nI k0) k1 ?_
          refine we (fun _ _ k => zw_aload_n dL_isSound_199 rfl k) ?_
          refine we (fun _ _ k => zw_iload dL_isSound_200 rfl k) ?_
          refine we (fun _ _ k => zw_iconst (v := nI 1) dL_isSound_202 (by decide) k) ?_
          refine we (fun _ _ k => zw_cVi dL_isSound_203 (q_p1 hs hA hlt70) rfl okX4_person ml_L_22 hs.i hs.k (by decide) rfl (Nat.le_of_ble_eq_true rfl) (Nat.le_of_ble_eq_true rfl) k) ?_
          refine we_top (x2 := nI (k0 - hm M 1 p)) k4 ?_
          refine we (fun _ _ k => zw_isubn dL_isSound_206 (Nat.sub_le _ _) k) ?_
          refine we (fun _ _ k => zw_iload dL_isSound_207 rfl k) ?_
          refine we (fun _ _ k => zw_icmp_lt (tgt := 226) dL_isSound_209 (by decide) (fun c => absurd c (nI_nlt (by omega) (by omega))) (fun _ => k)) ?_
          refine we (fun _ _ k => zw_aload_n dL_isSound_212 rfl k) ?_
          refine we (fun _ _ k => zw_iload dL_isSound_213 rfl k) ?_
          refine we (fun _ _ k => zw_iconst (v := nI 2) dL_isSound_215 (by decide) k) ?_
          refine we (fun _ _ k => zw_cVi dL_isSound_216 (q_p2 hs hA hlt70) rfl okX4_person ml_L_22 hs.i hs.k (by decide) rfl (Nat.le_of_ble_eq_true rfl) (Nat.le_of_ble_eq_true rfl) k) ?_
          refine we_top (x2 := nI dd) dd1 ?_
          refine we (fun _ _ k => zw_if_lt (tgt := 226) dL_isSound_219 (by decide) (fun c => absurd c (nI_pos (by omega))) (fun _ => k)) ?_
          refine we (fun _ _ k => zw_iconst (v := nI 1) dL_isSound_222 (by decide) k) ?_
          refine we (fun _ _ k => zw_goto (tgt := 227) dL_isSound_223 (by decide) k) ?_
          refine we (fun _ _ k => zw_istore dL_isSound_227 (by decide) k) ?_
          refine we (fun _ _ k => zw_iincn dL_isSound_229 rfl (by decide) k) ?_
          refine we (fun _ _ k => zw_goto (tgt := 70) dL_isSound_232 (by decide) k) ?_
          exact we_sub (ih70 (p + 1) (by omega)) ⟨rfl, rfl, rfl, rfl, hd_eq (Int32.add_assoc _ _ _), rfl, rfl, rfl, rfl, trivial⟩
        | succ n_138 ih138 =>
          intro h hk138
          have hlt138 : h < 24 := by omega
          obtain ⟨kb, hkb, hok⟩ := hA.1.1.mk (p := p) (s := st * 24 + h) (by omega) (by omega)
          have eam := amt_k hkb hok
          have esum : ns (fun h => amt M 1 p (st * 24 + h)) (h + 1) = ns (fun h => amt M 1 p (st * 24 + h)) h + amt M 1 p (st * 24 + h) := rfl
          unfold okm at hok
          refine we (fun _ _ k => zw_iload dL_isSound_138 rfl k) ?_
          refine we (fun _ _ k => zw_bipush (v := nI 24) dL_isSound_140 (by decide) k) ?_
          refine we (fun _ _ k => zw_icmp_ge (tgt := 182) dL_isSound_142 (by decide) (fun c => absurd (nI_lt (by omega) (by omega)) c) (fun _ => k)) ?_
          refine we (fun _ _ k => zw_aload_n dL_isSound_145 rfl k) ?_
          refine we (fun _ _ k => zw_iload dL_isSound_146 rfl k) ?_
          refine we (fun _ _ k => zw_iload_n dL_isSound_148 rfl k) ?_
          refine we (fun _ _ k => zw_iload dL_isSound_149 rfl k) ?_
          refine we (fun _ _ k => zw_cVi dL_isSound_151 (q_bo hs hA hlt70 hst hlt138) rfl okX4_bidOf ml_L_25 hs.i hs.k (by decide) rfl (Nat.le_of_ble_eq_true rfl) (Nat.le_of_ble_eq_true rfl) k) ?_
          rcases Nat.eq_zero_or_pos kb with hk0 | hk0
          · refine we_top (x2 := (-9)) (bv_0 (by rw [hkb, hk0])) ?_
            refine we (fun _ _ k => zw_istore dL_isSound_154 (by decide) k) ?_
            refine we (fun _ _ k => zw_iload dL_isSound_156 rfl k) ?_
            refine we (fun _ _ k => zw_iload dL_isSound_158 rfl k) ?_
            refine we (fun _ _ k => zw_if_ge (tgt := 167) dL_isSound_160 (by decide) (fun c => absurd (by decide) c) (fun _ => k)) ?_
            refine we (fun _ _ k => zw_iconst (v := nI 0) dL_isSound_163 (by decide) k) ?_
            refine we (fun _ _ k => zw_goto (tgt := 173) dL_isSound_164 (by decide) k) ?_
            refine we (fun _ _ k => zw_iaddn dL_isSound_173 k) ?_
            refine we (fun _ _ k => zw_istore dL_isSound_174 (by decide) k) ?_
            refine we (fun _ _ k => zw_iincn dL_isSound_176 rfl (by decide) k) ?_
            refine we (fun _ _ k => zw_goto (tgt := 138) dL_isSound_179 (by decide) k) ?_
            exact we_sub (ih138 (h + 1) (by omega)) ⟨rfl, rfl, rfl, rfl, rfl, rfl, rfl, rfl, rfl, hd_eq (congrArg nI (by omega)), rfl, trivial⟩
          · refine we_top (x2 := nI kb) (bv_p hkb hk0 (by omega)) ?_
            refine we (fun _ _ k => zw_istore dL_isSound_154 (by decide) k) ?_
            refine we (fun _ _ k => zw_iload dL_isSound_156 rfl k) ?_
            refine we (fun _ _ k => zw_iload dL_isSound_158 rfl k) ?_
            refine we (fun _ _ k => zw_if_ge (tgt := 167) dL_isSound_160 (by decide) (fun _ => k) (fun c => absurd c (nI_pos (by omega)))) ?_
            refine we (fun _ _ k => zw_iload dL_isSound_167 rfl k) ?_
            refine we (fun _ _ k => zw_sipush (v := nI 1000) dL_isSound_169 (by decide) k) ?_
            refine we (fun _ _ k => zw_iremn dL_isSound_172 (by omega) (by omega) (by omega) k) ?_
            refine we (fun _ _ k => zw_iaddn dL_isSound_173 k) ?_
            refine we (fun _ _ k => zw_istore dL_isSound_174 (by decide) k) ?_
            refine we (fun _ _ k => zw_iincn dL_isSound_176 rfl (by decide) k) ?_
            refine we (fun _ _ k => zw_goto (tgt := 138) dL_isSound_179 (by decide) k) ?_
            exact we_sub (ih138 (h + 1) (by omega)) ⟨rfl, rfl, rfl, rfl, rfl, rfl, rfl, rfl, rfl, hd_eq (congrArg nI (by omega)), rfl, trivial⟩
      exact we_sub (L138 24 0 (by omega)) ⟨rfl, rfl, rfl, rfl, rfl, rfl, rfl, rfl, rfl, rfl, rfl, trivial⟩
  exact we_sub (L70 P 0 (by omega)) ⟨rfl, rfl, hd_eq nI_0, rfl, hd_eq (Int32.add_zero _).symm, hd_eq nI_0, hd_eq nI_0, rfl, rfl, trivial⟩
