/-! THE LAW'S METHODS: settles. Winners as bits of a number. -/
theorem or_n (a b : Nat) : nI a ||| nI b = nI (a ||| b) := by
  apply Int32.toBitVec_inj.1
  show BitVec.ofNat 32 a ||| BitVec.ofNat 32 b = BitVec.ofNat 32 (a ||| b)
  apply BitVec.eq_of_getLsbD_eq
  intro i hi
  simp [BitVec.getLsbD_ofNat, hi, Nat.testBit_or]
theorem sh_k : ∀ k, k < 24 → ((nI k &&& 31).toBitVec.smod 32).toNat = k := by decide +kernel
/-- the winners of the first k hours, as bits -/
def wv (f : Nat → Nat) : Nat → Nat
  | 0 => 0
  | k + 1 => wv f k + f k * 2 ^ k
theorem wv_lt {f : Nat → Nat} (hf : ∀ k, f k ≤ 1) : ∀ k, wv f k < 2 ^ k
  | 0 => Nat.one_pos
  | k + 1 => by
    have h1 := wv_lt hf k
    have h2 : f k * 2 ^ k ≤ 1 * 2 ^ k := Nat.mul_le_mul_right _ (hf k)
    show wv f k + f k * 2 ^ k < 2 ^ (k + 1)
    rw [Nat.pow_succ]
    omega
theorem wv_s {f : Nat → Nat} (hf : ∀ k, f k ≤ 1) {k : Nat} (hk : k < 24) : nI (wv f k) ||| (nI (f k) <<< (nI k &&& 31)) = nI (wv f (k + 1)) := by
  have h1 := wv_lt hf k
  have h3 : 2 ^ k ≤ 2 ^ 24 := Nat.pow_le_pow_right (by decide) (by omega)
  have h2 : f k * 2 ^ k ≤ 1 * 2 ^ 24 := Nat.mul_le_mul (hf k) h3
  rw [pk_shlN (n := f k) (nI k &&& 31) k (sh_k k hk) (by omega), or_n]
  show _ = nI (wv f k + f k * 2 ^ k)
  congr 1
  have h4 := Nat.two_pow_add_eq_or_of_lt h1 (f k)
  rw [Nat.mul_comm (2 ^ k)] at h4
  rw [Nat.or_comm, ← h4, Nat.add_comm]
theorem wv_b {f : Nat → Nat} (hf : ∀ k, f k ≤ 1) {h : Nat} : ∀ n, h < n → wv f n / 2 ^ h % 2 = f h
  | 0, hn => absurd hn (Nat.not_lt_zero h)
  | n + 1, hn => by
    show (wv f n + f n * 2 ^ n) / 2 ^ h % 2 = f h
    by_cases e : h = n
    · subst e
      have h1 := wv_lt hf h
      rw [Nat.add_mul_div_right _ _ (Nat.two_pow_pos h), Nat.div_eq_of_lt h1, Nat.zero_add]
      have := hf h
      omega
    · have ih := wv_b hf (h := h) n (by omega)
      have e2 : f n * 2 ^ n = (f n * 2 ^ (n - h - 1) * 2) * 2 ^ h := by
        have : 2 ^ n = 2 ^ (n - h - 1) * 2 * 2 ^ h := by
          rw [← Nat.pow_succ, ← Nat.pow_add]
          congr 1
          omega
        rw [this]
        simp only [Nat.mul_assoc]
      rw [e2, Nat.add_mul_div_right _ _ (Nat.two_pow_pos h), Nat.add_mul_mod_self_right]
      exact ih
theorem wv_g {f : Nat → Nat} (hf : ∀ k, f k ≤ 1) {h : Nat} (hh : h < 24) : (nI (wv f 24) >>> (nI h &&& 31)) &&& nI 1 = nI (f h) := by
  have h1 := wv_lt hf 24
  have h2 := wv_b hf 24 hh
  have h3 : wv f 24 / 2 ^ h ≤ wv f 24 := Nat.div_le_self _ _
  rw [pk_shrN (n := wv f 24) (by omega) (nI h &&& 31) h (sh_k h hh), pk_andN (by omega) 1 (by decide), show 2 ^ 1 = 2 from rfl, h2]

set_option maxRecDepth 100000 in
set_option maxHeartbeats 4000000 in
theorem l_settles {sh : Sh} {M : Mem} {P t o z len w st : Nat} (hs : IsSH sh 0) (hA : At t M P o z len) (hP3 : 3 ≤ P) (ht : t < 500) (hst : st < 4) (hw0 : w < P) : ∃ x C, Calls mL_settles 7 0 0 [.inr (some 0), .inl (nI st), .inl (nI w)] sh M (some (.inl x)) sh C ∧ Ok (t + 1) x C := by
  have hP12 := hA.P12
  obtain ⟨M0, hpt, hM0⟩ := a_purseThen hs hA hw0
  have hA0 : At t M0 P o z len := hA.fr (fun a ha => hM0 a (by omega))
  obtain ⟨M1, o1, z1, hc, hA1, hmon, hown, hdeb, hday, hno, hheld, hpur⟩ := a_settle hs hA0 (by omega)
  obtain ⟨de, de2, hde⟩ := pick hdeb
  have hD1 := deb_n hP12 (fun r hr => (hde r hr).1)
  have hD2 := deb_n hP12 (fun r hr => (hde r hr).2.1)
  have hDb : ns de P ≤ 1000 * t * P := ns_b P (fun r hr => (hde r (by omega)).2.2.2)
  have hDb2 : 1000 * t * P ≤ 1000 * 500 * 12 := Nat.mul_le_mul (by omega) hP12
  have hDle : ns de2 P ≤ ns de P := ns_m P (fun r hr => (hde r (by omega)).2.2.1)
  have e4 : sm (fun p => M 4 p) P = sm (fun p => M0 4 p) P := by rw [hM0 4 (by decide)]
  have e5 : mon M 1 P = mon M0 1 P := (mon_c (hM0 2 (by decide)) (hM0 16 (by decide))).symm
  have e0 : M 1 0 = M0 1 0 := by rw [hM0 1 (by decide)]
  have eth : M1 2 w = sdD (cpM M 1 17) 17 P 18 w := hpur _ 17 ((SE.fr (fun a _ h => (hM0 a (by omega)).symm)).tr (SE.cp (by decide))) w (by omega)
  have efr : fM M1 1 w = sdD (cpM M 1 17) 17 P 18 w := by
    show M1 2 w - M1 3 w = _
    rw [hheld w (by omega), eth, nI_0, Int32.sub_zero]
  obtain ⟨f, hf⟩ : ∃ f : Nat → Nat, f = fun h => if oT M0 1 P (st * 24 + h) = nI 1 then 1 else 0 := ⟨_, rfl⟩
  have hf1 : ∀ h, f h ≤ 1 := fun h => by rw [hf]; show (if _ then _ else _) ≤ 1; split <;> omega
  have hfo : ∀ h, h < 24 → oT M0 1 P (st * 24 + h) = nI (f h) := fun h hh => by
    rw [hf]
    show _ = nI (if _ then _ else _)
    rcases hA0.1.1.o01 (show st * 24 + h < 96 by omega) with e | e
    · rw [e, if_neg (by decide)]
    · rw [e, if_pos rfl]
  have hnB : ∀ s, s < 96 → nB M1 1 P s = 0 := fun s hss => sm_z P (fun r hr => by rw [hno r s (by omega) hss]; decide)
  have hcB : sm (fun p => sm (fun s => n01 (bm M1 1 p s)) 96) P = 0 := sm_z P (fun r hr => sm_z 96 (fun s hss => by rw [hno r s (by omega) hss]; decide))
  suffices hw : WE mL_settles 7 0 [some (.inr (some 0)), some (.inl (nI st)), some (.inl (nI w)), none, none, none, none, none, none, none, none] [] sh M (Ok (t + 1)) from we_calls plL (Nat.le_of_ble_eq_true rfl) hw
  refine we (fun _ _ k => zw_aload_n dL_settles_0 rfl k) ?_
  refine we (fun _ _ k => zw_iconst (v := nI 5) dL_settles_1 (by decide) k) ?_
  refine we (fun _ _ k => zw_cVi dL_settles_2 (q_c5 hs hA) rfl okX4_count ml_L_15 hs.i hs.k (by decide) rfl (Nat.le_of_ble_eq_true rfl) (Nat.le_of_ble_eq_true rfl) k) ?_
  refine we (fun _ _ k => zw_istore_n dL_settles_5 (by decide) k) ?_
  refine we (fun _ _ k => zw_aload_n dL_settles_6 rfl k) ?_
  refine we (fun _ _ k => zw_bipush (v := nI 6) dL_settles_7 (by decide) k) ?_
  refine we (fun _ _ k => zw_cVi dL_settles_9 (q_c6 hs hA) rfl okX4_count ml_L_15 hs.i hs.k (by decide) rfl (Nat.le_of_ble_eq_true rfl) (Nat.le_of_ble_eq_true rfl) k) ?_
  refine we_top (x2 := nI (ns de P)) (e4.trans hD1) ?_
  refine we (fun _ _ k => zw_istore dL_settles_12 (by decide) k) ?_
  refine we (fun _ _ k => zw_aload_n dL_settles_14 rfl k) ?_
  refine we (fun _ _ k => zw_iconst (v := nI 0) dL_settles_15 (by decide) k) ?_
  refine we (fun _ _ k => zw_cVi dL_settles_16 (q_c0 hs hA) rfl okX4_count ml_L_15 hs.i hs.k (by decide) rfl (Nat.le_of_ble_eq_true rfl) (Nat.le_of_ble_eq_true rfl) k) ?_
  refine we (fun _ _ k => zw_istore dL_settles_19 (by decide) k) ?_
  refine we (fun _ _ k => zw_aload_n dL_settles_21 rfl k) ?_
  refine we (fun _ _ k => zw_iload_n dL_settles_22 rfl k) ?_
  refine we (fun _ _ k => zw_cVi dL_settles_23 (hpt) rfl okX4_purseThen ml_L_51 hs.i hs.k (by decide) rfl (Nat.le_of_ble_eq_true rfl) (Nat.le_of_ble_eq_true rfl) k) ?_
  refine we (fun _ _ k => zw_istore dL_settles_26 (by decide) k) ?_
  refine we (fun _ _ k => zw_iconst (v := nI 0) dL_settles_28 (by decide) k) ?_
  refine we (fun _ _ k => zw_istore dL_settles_29 (by decide) k) ?_
  refine we (fun _ _ k => zw_iconst (v := nI 0) dL_settles_31 (by decide) k) ?_
  refine we (fun _ _ k => zw_istore dL_settles_32 (by decide) k) ?_
  have L34 : ∀ (n_34 k : Nat), k + n_34 = 24 → WE mL_settles 7 34 [some (.inr (some 0)), some (.inl (nI st)), some (.inl (nI w)), some (.inl (mon M 1 P)), some (.inl (nI (ns de P))), some (.inl (M 1 0)), some (.inl (sdD (cpM M 1 17) 17 P 18 w)), some (.inl (nI (wv f k))), some (.inl (nI k)), none, none] [] sh M0 (Ok (t + 1)) := by
    intro n_34
    induction n_34 with
    | zero =>
      intro k hk34
      have ek34 : k = 24 := by omega
      subst k
      refine we (fun _ _ k => zw_iload dL_settles_34 rfl k) ?_
      refine we (fun _ _ k => zw_bipush (v := nI 24) dL_settles_36 (by decide) k) ?_
      refine we (fun _ _ k => zw_icmp_ge (tgt := 62) dL_settles_38 (by decide) (fun _ => k) (fun c => absurd c (nI_nlt (Nat.le_refl _) (by omega)))) ?_
      refine we (fun _ _ k => zw_aload_n dL_settles_62 rfl k) ?_
      refine we (fun _ _ k => zw_cVi dL_settles_63 (hc) rfl okX4_settle ml_L_54 hs.i hs.k (by decide) rfl (Nat.le_of_ble_eq_true rfl) (Nat.le_of_ble_eq_true rfl) k) ?_
      refine we (fun _ _ k => zw_istore dL_settles_66 (by decide) k) ?_
      refine we (fun _ _ k => zw_iload dL_settles_68 rfl k) ?_
      refine we (fun _ _ k => zw_aload_n dL_settles_70 rfl k) ?_
      refine we (fun _ _ k => zw_iconst (v := nI 3) dL_settles_71 (by decide) k) ?_
      refine we (fun _ _ k => zw_cVi dL_settles_72 (q_c3 hs hA1) rfl okX4_count ml_L_15 hs.i hs.k (by decide) rfl (Nat.le_of_ble_eq_true rfl) (Nat.le_of_ble_eq_true rfl) k) ?_
      refine we (fun _ _ k => zw_icmp_ne (tgt := 144) dL_settles_75 (by decide) (fun c => absurd rfl c) (fun _ => k)) ?_
      refine we (fun _ _ k => zw_aload_n dL_settles_78 rfl k) ?_
      refine we (fun _ _ k => zw_iconst (v := nI 0) dL_settles_79 (by decide) k) ?_
      refine we (fun _ _ k => zw_cVi dL_settles_80 (q_c0 hs hA1) rfl okX4_count ml_L_15 hs.i hs.k (by decide) rfl (Nat.le_of_ble_eq_true rfl) (Nat.le_of_ble_eq_true rfl) k) ?_
      refine we (fun _ _ k => zw_iload dL_settles_83 rfl k) ?_
      refine we (fun _ _ k => zw_iconst (v := nI 1) dL_settles_85 (by decide) k) ?_
      refine we (fun _ _ k => zw_iadd dL_settles_86 k) ?_
      refine we (fun _ _ k => zw_icmp_ne (tgt := 144) dL_settles_87 (by decide) (fun c => absurd (hday.trans (by rw [e0])) c) (fun _ => k)) ?_
      refine we (fun _ _ k => zw_aload_n dL_settles_90 rfl k) ?_
      refine we (fun _ _ k => zw_iconst (v := nI 2) dL_settles_91 (by decide) k) ?_
      refine we (fun _ _ k => zw_cVi dL_settles_92 (q_c2 hs hA1) rfl okX4_count ml_L_15 hs.i hs.k (by decide) rfl (Nat.le_of_ble_eq_true rfl) (Nat.le_of_ble_eq_true rfl) k) ?_
      refine we (fun _ _ k => zw_if_ne (tgt := 144) dL_settles_95 (by decide) (fun c => absurd hcB c) (fun _ => k)) ?_
      refine we (fun _ _ k => zw_aload_n dL_settles_98 rfl k) ?_
      refine we (fun _ _ k => zw_iload_n dL_settles_99 rfl k) ?_
      refine we (fun _ _ k => zw_iconst (v := nI 0) dL_settles_100 (by decide) k) ?_
      refine we (fun _ _ k => zw_cVi dL_settles_101 (q_p0 hs hA1 hw0) rfl okX4_person ml_L_22 hs.i hs.k (by decide) rfl (Nat.le_of_ble_eq_true rfl) (Nat.le_of_ble_eq_true rfl) k) ?_
      refine we (fun _ _ k => zw_iload dL_settles_104 rfl k) ?_
      refine we (fun _ _ k => zw_icmp_ne (tgt := 144) dL_settles_106 (by decide) (fun c => absurd eth c) (fun _ => k)) ?_
      refine we (fun _ _ k => zw_aload_n dL_settles_109 rfl k) ?_
      refine we (fun _ _ k => zw_iload_n dL_settles_110 rfl k) ?_
      refine we (fun _ _ k => zw_iconst (v := nI 1) dL_settles_111 (by decide) k) ?_
      refine we (fun _ _ k => zw_cVi dL_settles_112 (q_p1 hs hA1 hw0) rfl okX4_person ml_L_22 hs.i hs.k (by decide) rfl (Nat.le_of_ble_eq_true rfl) (Nat.le_of_ble_eq_true rfl) k) ?_
      refine we (fun _ _ k => zw_iload dL_settles_115 rfl k) ?_
      refine we (fun _ _ k => zw_icmp_ne (tgt := 144) dL_settles_117 (by decide) (fun c => absurd efr c) (fun _ => k)) ?_
      refine we (fun _ _ k => zw_aload_n dL_settles_120 rfl k) ?_
      refine we (fun _ _ k => zw_bipush (v := nI 6) dL_settles_121 (by decide) k) ?_
      refine we (fun _ _ k => zw_cVi dL_settles_123 (q_c6 hs hA1) rfl okX4_count ml_L_15 hs.i hs.k (by decide) rfl (Nat.le_of_ble_eq_true rfl) (Nat.le_of_ble_eq_true rfl) k) ?_
      refine we_top (x2 := nI (ns de2 P)) hD2 ?_
      refine we (fun _ _ k => zw_iload dL_settles_126 rfl k) ?_
      refine we (fun _ _ k => zw_icmp_gt (tgt := 144) dL_settles_128 (by decide) (fun c => absurd c (nI_nlt hDle (by omega))) (fun _ => k)) ?_
      refine we (fun _ _ k => zw_aload_n dL_settles_131 rfl k) ?_
      refine we (fun _ _ k => zw_iconst (v := nI 5) dL_settles_132 (by decide) k) ?_
      refine we (fun _ _ k => zw_cVi dL_settles_133 (q_c5 hs hA1) rfl okX4_count ml_L_15 hs.i hs.k (by decide) rfl (Nat.le_of_ble_eq_true rfl) (Nat.le_of_ble_eq_true rfl) k) ?_
      refine we (fun _ _ k => zw_iload_n dL_settles_136 rfl k) ?_
      refine we (fun _ _ k => zw_icmp_ne (tgt := 144) dL_settles_137 (by decide) (fun c => absurd (hmon.trans e5.symm) c) (fun _ => k)) ?_
      refine we (fun _ _ k => zw_iconst (v := nI 1) dL_settles_140 (by decide) k) ?_
      refine we (fun _ _ k => zw_goto (tgt := 145) dL_settles_141 (by decide) k) ?_
      refine we (fun _ _ k => zw_istore dL_settles_145 (by decide) k) ?_
      refine we (fun _ _ k => zw_iconst (v := nI 0) dL_settles_147 (by decide) k) ?_
      refine we (fun _ _ k => zw_istore dL_settles_148 (by decide) k) ?_
      have L150 : ∀ (n_150 k : Nat), k + n_150 = 24 → WE mL_settles 7 150 [some (.inr (some 0)), some (.inl (nI st)), some (.inl (nI w)), some (.inl (mon M 1 P)), some (.inl (nI (ns de P))), some (.inl (M 1 0)), some (.inl (sdD (cpM M 1 17) 17 P 18 w)), some (.inl (nI (wv f 24))), some (.inl (sm (fun st => nI 24 - qh M1 1 st) 4)), some (.inl (nI 1)), some (.inl (nI k))] [] sh M1 (Ok (t + 1)) := by
        intro n_150
        induction n_150 with
        | zero =>
          intro k hk150
          have ek150 : k = 24 := by omega
          subst k
          refine we (fun _ _ k => zw_iload dL_settles_150 rfl k) ?_
          refine we (fun _ _ k => zw_bipush (v := nI 24) dL_settles_152 (by decide) k) ?_
          refine we (fun _ _ k => zw_icmp_ge (tgt := 204) dL_settles_154 (by decide) (fun _ => k) (fun c => absurd c (nI_nlt (Nat.le_refl _) (by omega)))) ?_
          refine we (fun _ _ k => zw_iload dL_settles_204 rfl k) ?_
          exact we_ret dL_settles_206 rfl (Or.inr rfl) ⟨rfl, P, o1, z1, len, hP3, hA1⟩
        | succ n_150 ih150 =>
          intro k hk150
          have hlt150 : k < 24 := by omega
          refine we (fun _ _ k => zw_iload dL_settles_150 rfl k) ?_
          refine we (fun _ _ k => zw_bipush (v := nI 24) dL_settles_152 (by decide) k) ?_
          refine we (fun _ _ k => zw_icmp_ge (tgt := 204) dL_settles_154 (by decide) (fun c => absurd (nI_lt (by omega) (by omega)) c) (fun _ => k)) ?_
          refine we (fun _ _ k => zw_iload dL_settles_157 rfl k) ?_
          refine we (fun _ _ k => zw_if_eq (tgt := 204) dL_settles_159 (by decide) (fun c => absurd c (by decide)) (fun _ => k)) ?_
          refine we (fun _ _ k => zw_aload_n dL_settles_162 rfl k) ?_
          refine we (fun _ _ k => zw_iload_n dL_settles_163 rfl k) ?_
          refine we (fun _ _ k => zw_iload dL_settles_164 rfl k) ?_
          refine we (fun _ _ k => zw_iconst (v := nI 0) dL_settles_166 (by decide) k) ?_
          refine we (fun _ _ k => zw_cVi dL_settles_167 (q_s0 hs hA1 hst hlt150) rfl okX4_slot ml_L_32 hs.i hs.k (by decide) rfl (Nat.le_of_ble_eq_true rfl) (Nat.le_of_ble_eq_true rfl) k) ?_
          refine we_top (x2 := nI (f k)) ((hown _ (by omega)).trans (hfo k hlt150)) ?_
          refine we (fun _ _ k => zw_iload dL_settles_170 rfl k) ?_
          refine we (fun _ _ k => zw_iload dL_settles_172 rfl k) ?_
          refine we (fun _ _ k => zw_ishr dL_settles_174 k) ?_
          refine we (fun _ _ k => zw_iconst (v := nI 1) dL_settles_175 (by decide) k) ?_
          refine we (fun _ _ k => zw_iand dL_settles_176 k) ?_
          refine we_top (x2 := nI (f k)) (wv_g hf1 hlt150) ?_
          refine we (fun _ _ k => zw_icmp_ne (tgt := 195) dL_settles_177 (by decide) (fun c => absurd rfl c) (fun _ => k)) ?_
          refine we (fun _ _ k => zw_aload_n dL_settles_180 rfl k) ?_
          refine we (fun _ _ k => zw_iload_n dL_settles_181 rfl k) ?_
          refine we (fun _ _ k => zw_iload dL_settles_182 rfl k) ?_
          refine we (fun _ _ k => zw_iconst (v := nI 4) dL_settles_184 (by decide) k) ?_
          refine we (fun _ _ k => zw_cVi dL_settles_185 (q_s4 hs hA1 hst hlt150) rfl okX4_slot ml_L_32 hs.i hs.k (by decide) rfl (Nat.le_of_ble_eq_true rfl) (Nat.le_of_ble_eq_true rfl) k) ?_
          refine we (fun _ _ k => zw_if_ne (tgt := 195) dL_settles_188 (by decide) (fun c => absurd (hnB _ (by omega)) c) (fun _ => k)) ?_
          refine we (fun _ _ k => zw_iconst (v := nI 1) dL_settles_191 (by decide) k) ?_
          refine we (fun _ _ k => zw_goto (tgt := 196) dL_settles_192 (by decide) k) ?_
          refine we (fun _ _ k => zw_istore dL_settles_196 (by decide) k) ?_
          refine we (fun _ _ k => zw_iincn dL_settles_198 rfl (by decide) k) ?_
          refine we (fun _ _ k => zw_goto (tgt := 150) dL_settles_201 (by decide) k) ?_
          exact we_sub (ih150 (k + 1) (by omega)) ⟨rfl, rfl, rfl, rfl, rfl, rfl, rfl, rfl, rfl, rfl, rfl, trivial⟩
      exact we_sub (L150 24 0 (by omega)) ⟨rfl, rfl, rfl, rfl, rfl, rfl, rfl, rfl, rfl, rfl, rfl, trivial⟩
    | succ n_34 ih34 =>
      intro k hk34
      have hlt34 : k < 24 := by omega
      refine we (fun _ _ k => zw_iload dL_settles_34 rfl k) ?_
      refine we (fun _ _ k => zw_bipush (v := nI 24) dL_settles_36 (by decide) k) ?_
      refine we (fun _ _ k => zw_icmp_ge (tgt := 62) dL_settles_38 (by decide) (fun c => absurd (nI_lt (by omega) (by omega)) c) (fun _ => k)) ?_
      refine we (fun _ _ k => zw_iload dL_settles_41 rfl k) ?_
      refine we (fun _ _ k => zw_aload_n dL_settles_43 rfl k) ?_
      refine we (fun _ _ k => zw_iload_n dL_settles_44 rfl k) ?_
      refine we (fun _ _ k => zw_iload dL_settles_45 rfl k) ?_
      refine we (fun _ _ k => zw_cVi dL_settles_47 (q_wi hs hA0 hst hlt34) rfl okX4_winner ml_L_29 hs.i hs.k (by decide) rfl (Nat.le_of_ble_eq_true rfl) (Nat.le_of_ble_eq_true rfl) k) ?_
      refine we_top (x2 := nI (f k)) (hfo k hlt34) ?_
      refine we (fun _ _ k => zw_iload dL_settles_50 rfl k) ?_
      refine we (fun _ _ k => zw_ishl dL_settles_52 k) ?_
      refine we (fun _ _ k => zw_ior dL_settles_53 k) ?_
      refine we_top (x2 := nI (wv f (k + 1))) (wv_s hf1 hlt34) ?_
      refine we (fun _ _ k => zw_istore dL_settles_54 (by decide) k) ?_
      refine we (fun _ _ k => zw_iincn dL_settles_56 rfl (by decide) k) ?_
      refine we (fun _ _ k => zw_goto (tgt := 34) dL_settles_59 (by decide) k) ?_
      exact we_sub (ih34 (k + 1) (by omega)) ⟨rfl, rfl, rfl, rfl, rfl, rfl, rfl, rfl, rfl, trivial⟩
  exact we_sub (L34 24 0 (by omega)) ⟨rfl, rfl, rfl, rfl, rfl, rfl, rfl, rfl, rfl, trivial⟩
