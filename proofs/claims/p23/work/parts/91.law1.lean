/-! THE LAW. -/
theorem zl_pick {b L : Nat} {xs : Nat → Int32} {k n pc : Nat} {ls ls2 : List (Nat × LV)} {stk : List LV} {sh : Sh} {C : Mem} (ks : List Nat) (h : ∀ n0 b, lv_pick (encV n0 b ls) ks = encV n0 b ls2) (kk : LWP b L xs k n pc ls2 stk sh C) : LWP b L xs k n pc ls stk sh C := fun n0 G cs p l e s m below meth c H locs cells slots arr hc hkm hnm hl => kk n0 G cs p l e s m below meth c H locs cells slots arr hc hkm hnm (lv_sub hl ks (h n0 b))
/-! the object that is made -/
def sh00 : Sh := (0, fun _ => 0, fun _ => 0, fun _ _ => none)
def sh1A : Sh := pushS sh00 4 0
def shZ : Sh := cSH 0 sh1A
def mem0 : Mem := fun _ _ => 0
def memZ : Mem := cSM mem0 0
theorem shZ_n : shZ.1 = 134 := (cSH_f (i := 0) (sh := sh1A) rfl pushS_k).1
theorem shZ_s : IsSH shZ 0 := (cSH_f (i := 0) (sh := sh1A) rfl pushS_k).2.2
theorem mem0_z (b : Nat) : Zr mem0 b := fun _ _ _ => rfl
theorem memZ_lo {a : Nat} (h1 : 2 ≤ a) (h2 : a ≤ 16) : memZ a = mem0 a := by
  unfold memZ cSM plM hiM hiM hiM hiM hiM hiM
  repeat rw [up_ne (by omega)]
theorem memZ_1 : memZ 1 = up mem0 1 1 (nI 20) 1 := by
  unfold memZ cSM plM hiM hiM hiM hiM hiM hiM
  repeat rw [up_ne (by omega)]
theorem memZ_o {a : Nat} (h : a = 33 ∨ a = 133 ∨ a = 116) : memZ a = mem0 a := by
  unfold memZ cSM plM hiM hiM hiM hiM hiM hiM
  repeat rw [up_ne (by omega)]
theorem memZ_115 : memZ 115 1 = 0 := by
  unfold memZ cSM plM
  rw [up_ne (by omega), up_ne2 (by omega)]
  unfold hiM hiM hiM hiM hiM hiM
  repeat rw [up_ne (by omega)]
  rfl
theorem memZ_118 : memZ 118 0 = nI 1 := by
  unfold memZ cSM plM
  exact up_eq
theorem mz {a j : Nat} (h1 : 2 ≤ a) (h2 : a ≤ 16) : memZ a j = 0 := congrFun (memZ_lo h1 h2) j
theorem at_0 : At 0 memZ 0 0 0 0 := by
  have hb : ∀ p s, bm memZ 1 p s = nI 0 := fun p s => (mz (a := 10) (by decide) (by decide)).trans nI_0.symm
  have hh : ∀ p, hm memZ 1 p = 0 := fun p => hm_0 (fun s _ => hb p s)
  refine ⟨⟨⟨⟨?_, by decide, fun p hp => ?_⟩, fun p s hp hs => ⟨0, hb p s, Or.inl (by decide)⟩, fun p h1 h2 => ⟨fun i h3 h4 => mz (by omega) (by omega), fun s hs => mz (a := 10) (by decide) (by decide)⟩, fun s hs => ⟨Or.inl ((mz (a := 11) (by decide) (by decide)).trans nI_0.symm), Or.inl ((mz (a := 13) (by decide) (by decide)).trans nI_0.symm), ⟨0, (mz (a := 12) (by decide) (by decide)).trans nI_0.symm, by decide⟩, ⟨0, (mz (a := 14) (by decide) (by decide)).trans nI_0.symm, by decide⟩⟩, ⟨20, by rw [memZ_1]; exact up_eq, by decide⟩, fun p hp => ⟨0, (mz (a := 4) (by decide) (by decide)).trans nI_0.symm, Nat.zero_le _⟩⟩, fun p hp => ⟨0, (mz (a := 2) (by decide) (by decide)).trans nI_0.symm, by show hm memZ 1 p ≤ 0; rw [hh p]; exact Nat.le_refl 0, Nat.zero_le _⟩, fun p hp => ?_, ⟨0, ?_, Nat.le_refl 0⟩, ?_⟩, ⟨⟨by rw [memZ_o (Or.inl rfl)]; rfl, by decide⟩, ⟨by rw [memZ_o (Or.inl rfl)]; rfl, by decide⟩, fun i hi => absurd hi (Nat.not_lt_zero i)⟩, ⟨memZ_115, by decide⟩, memZ_118⟩
  · rw [memZ_1]; exact up_ne2 (by decide)
  · rw [show memZ (1 + 4) p = 0 from mz (by decide) (by decide)]; unfold vp_in; decide
  · rw [hh p]; exact (mz (a := 3) (by decide) (by decide)).trans nI_0.symm
  · rw [memZ_1]; exact up_ne2 (by decide)
  · rw [memZ_1]; exact up_ne2 (by decide)
theorem ow_0 {st : Nat} : owr memZ 1 st = fun _ => 0 := by
  funext h
  exact mz (a := 11) (by decide) (by decide)
theorem lq_0 : nI (lqn (owr memZ 1 0) 24) = nI 24 := by rw [ow_0]; decide
theorem ls_0 : lqs (owr memZ 1 0) 24 = nI 0 := by rw [ow_0]; decide
theorem oT_0 {s : Nat} : oT memZ 1 0 s = nI 0 := by
  unfold oT
  rw [if_pos (by rfl)]
  exact (mz (a := 11) (by decide) (by decide)).trans nI_0.symm
abbrev lws (k : Nat) : List (Nat × LV) := [(3, .inl (.inl (nI k))), (2, .inl (.inl (nI 1))), (1, .inl (.inr (some 0))), (0, .inr ())]

theorem law_c {b L : Nat} {xs : Nat → Int32} (hL : L ≤ 260) {k t P o z len : Nat} {M : Mem} (hA : At t M P o z len) (hP3 : 3 ≤ P) (ht : t < 400) : LWP b L xs 0 0 176 (lws k) [] shZ M := by
  obtain ⟨z1, ez1, hz1⟩ := cellV_n (L := L) (k := 21) (xs := xs)
  obtain ⟨z2, ez2, hz2⟩ := cellV_n (L := L) (k := 22) (xs := xs)
  obtain ⟨x1, M1, hc1, hx1, hM1⟩ := l_isSound shZ_s hA (by omega) (show z1 % 4 < 4 by omega)
  subst hx1
  subst hM1
  obtain ⟨x2, M2, hc2, hx2, P2, o2, w2, len2, hP2, hA2⟩ := l_settles shZ_s hA hP3 (by omega) (show z2 % 4 < 4 by omega) (show 0 < P by omega)
  subst hx2
  obtain ⟨x3, M3, hc3, hx3, hok3⟩ := l_refuses shZ_s hA2 hP2
  subst hx3
  refine zl_iload_n (j := 1) dL_law_176 rfl ?_
  refine zl_if_eq (tgt := 222) dL_law_177 (by decide) (fun c => absurd c (by decide)) (fun _ => ?_)
  refine zl_aload_n (j := 2) dL_law_180 rfl ?_
  refine zl_aload_s (j := 3) dL_law_181 rfl ?_
  refine zl_bipush (v := nI 21) dL_law_182 (by decide) ?_
  refine zl_cell (j := 21) dL_law_184 ml_L_97 hL (by decide) (Nat.le_of_ble_eq_true rfl) ?_
  refine zl_top (x2 := nI z1) ez1 ?_
  refine zl_iconst (v := nI 3) dL_law_187 (by decide) ?_
  refine zl_iand dL_law_188 ?_
  refine zl_top (x2 := nI (z1 % 4)) (pk_andN (by omega) 2 (by decide)) ?_
  refine zl_invS (k2 := 0) (k3 := 0) (n2 := 0) (n3 := 0) (args2 := [.inr (some 0), .inl (nI (z1 % 4))]) (stk := []) dL_law_189 okL_isSound ml_L_105 (by decide) rfl (Nat.le_of_ble_eq_true rfl) rfl rfl rfl (hc1) ?_
  refine zl_if_eq (tgt := 222) dL_law_192 (by decide) (fun c => absurd c (by decide)) (fun _ => ?_)
  refine zl_aload_n (j := 2) dL_law_195 rfl ?_
  refine zl_aload_s (j := 3) dL_law_196 rfl ?_
  refine zl_bipush (v := nI 22) dL_law_197 (by decide) ?_
  refine zl_cell (j := 22) dL_law_199 ml_L_97 hL (by decide) (Nat.le_of_ble_eq_true rfl) ?_
  refine zl_top (x2 := nI z2) ez2 ?_
  refine zl_iconst (v := nI 3) dL_law_202 (by decide) ?_
  refine zl_iand dL_law_203 ?_
  refine zl_top (x2 := nI (z2 % 4)) (pk_andN (by omega) 2 (by decide)) ?_
  refine zl_iconst (v := nI 0) dL_law_204 (by decide) ?_
  refine zl_invS (k2 := 0) (k3 := 0) (n2 := 0) (n3 := 0) (args2 := [.inr (some 0), .inl (nI (z2 % 4)), .inl (nI 0)]) (stk := []) dL_law_205 okL_settles ml_L_85 (by decide) rfl (Nat.le_of_ble_eq_true rfl) rfl rfl rfl (hc2) ?_
  refine zl_if_eq (tgt := 222) dL_law_208 (by decide) (fun c => absurd c (by decide)) (fun _ => ?_)
  refine zl_aload_n (j := 2) dL_law_211 rfl ?_
  refine zl_invS (k2 := 0) (k3 := 0) (n2 := 0) (n3 := 0) (args2 := [.inr (some 0)]) (stk := []) dL_law_212 okL_refuses ml_L_108 (by decide) rfl (Nat.le_of_ble_eq_true rfl) rfl rfl rfl (hc3) ?_
  refine zl_if_eq (tgt := 222) dL_law_215 (by decide) (fun c => absurd c (by decide)) (fun _ => ?_)
  refine zl_iconst (v := nI 1) dL_law_218 (by decide) ?_
  refine zl_goto (tgt := 223) dL_law_219 (by decide) ?_
  exact zl_ret (stk := []) dL_law_223

theorem law_b {b L : Nat} {xs : Nat → Int32} (hL : L ≤ 260) : ∀ (n k : Nat) (M : Mem) (P o z len : Nat), k + n = 21 → 3 ≤ k → At k M P o z len → 3 ≤ P → LWP b L xs 0 0 119 (lws k) [] shZ M := by
  intro n
  induction n with
  | zero =>
    intro k M P o z len hk h3 hA hP3
    refine zl_iload_n (j := 0) dL_law_119 rfl ?_
    refine zl_bipush (v := nI 21) dL_law_120 (by decide) ?_
    refine zl_icmp_ge (tgt := 176) dL_law_122 (by decide) (fun _ => ?_) (fun c => absurd c (nI_nlt (by omega) (by omega)))
    exact law_c hL hA hP3 (by omega)
  | succ n ih =>
    intro k M P o z len hk h3 hA hP3
    obtain ⟨z1, ez1, hz1⟩ := cellV_n (L := L) (k := k) (xs := xs)
    obtain ⟨x1, M1, hc1, hx1, P1, o1, w1, len1, hP1, hA1⟩ := l_acts shZ_s hA hP3 (by omega) hz1
    subst hx1
    refine zl_iload_n (j := 0) dL_law_119 rfl ?_
    refine zl_bipush (v := nI 21) dL_law_120 (by decide) ?_
    refine zl_icmp_ge (tgt := 176) dL_law_122 (by decide) (fun c => absurd (nI_lt (by omega) (by omega)) c) (fun _ => ?_)
    refine zl_iload_n (j := 1) dL_law_125 rfl ?_
    refine zl_if_eq (tgt := 176) dL_law_126 (by decide) (fun c => absurd c (by decide)) (fun _ => ?_)
    refine zl_aload_n (j := 2) dL_law_129 rfl ?_
    refine zl_aload_s (j := 3) dL_law_130 rfl ?_
    refine zl_iload_n (j := 0) dL_law_131 rfl ?_
    refine zl_cell (j := k) dL_law_132 ml_L_97 hL (by omega) (Nat.le_of_ble_eq_true rfl) ?_
    refine zl_top (x2 := nI z1) ez1 ?_
    refine zl_invS (k2 := 0) (k3 := 0) (n2 := 0) (n3 := 0) (args2 := [.inr (some 0), .inl (nI z1)]) (stk := []) dL_law_135 okL_acts ml_L_101 (by decide) rfl (Nat.le_of_ble_eq_true rfl) rfl rfl rfl (hc1) ?_
    refine zl_if_eq (tgt := 168) dL_law_138 (by decide) (fun c => absurd c (by decide)) (fun _ => ?_)
    refine zl_iload_n (j := 0) dL_law_141 rfl ?_
    refine zl_iconst (v := nI 3) dL_law_142 (by decide) ?_
    refine zl_iremn dL_law_143 (by omega) (by decide) (by decide) ?_
    have htail : LWP b L xs 0 0 164 (lws k) [] shZ M1 := by
      refine zl_iconst (v := nI 1) dL_law_164 (by decide) ?_
      refine zl_goto (tgt := 169) dL_law_165 (by decide) ?_
      refine zl_istore_n (i := 2) (ls2 := [(2, .inl (.inl (nI 1))), (3, .inl (.inl (nI k))), (1, .inl (.inr (some 0))), (0, .inr ())]) dL_law_169 rfl (fun _ _ => rfl) ?_
      refine zl_iinc (j := 1) (v := nI (k + 1)) (ls2 := [(3, .inl (.inl (nI (k + 1)))), (2, .inl (.inl (nI 1))), (1, .inl (.inr (some 0))), (0, .inr ())]) dL_law_170 rfl (by decide) (nI_add _ 1) (fun _ _ => rfl) ?_
      refine zl_goto (tgt := 119) dL_law_173 (by decide) ?_
      exact ih (k + 1) M1 P1 o1 w1 len1 (by omega) (by omega) hA1 hP1
    by_cases hk3 : k % 3 = 0
    · obtain ⟨x2, M2, hc2, hx2, hM2⟩ := l_isSound shZ_s hA1 (by omega) (show z1 / 128 % 4 < 4 by omega)
      subst hx2
      subst hM2
      refine zl_if_ne (tgt := 164) dL_law_144 (by decide) (fun c => absurd (by rw [hk3]; exact nI_0) c) (fun _ => ?_)
      refine zl_aload_n (j := 2) dL_law_147 rfl ?_
      refine zl_aload_s (j := 3) dL_law_148 rfl ?_
      refine zl_iload_n (j := 0) dL_law_149 rfl ?_
      refine zl_cell (j := k) dL_law_150 ml_L_97 hL (by omega) (Nat.le_of_ble_eq_true rfl) ?_
      refine zl_top (x2 := nI z1) ez1 ?_
      refine zl_bipush (v := nI 7) dL_law_153 (by decide) ?_
      refine zl_ishr dL_law_155 ?_
      refine zl_top (x2 := nI (z1 / 128)) (pk_shrN hz1 (nI 7 &&& 31) 7 (by decide)) ?_
      refine zl_iconst (v := nI 3) dL_law_156 (by decide) ?_
      refine zl_iand dL_law_157 ?_
      refine zl_top (x2 := nI (z1 / 128 % 4)) (pk_andN (by omega) 2 (by decide)) ?_
      refine zl_invS (k2 := 0) (k3 := 0) (n2 := 0) (n3 := 0) (args2 := [.inr (some 0), .inl (nI (z1 / 128 % 4))]) (stk := []) dL_law_158 okL_isSound ml_L_105 (by decide) rfl (Nat.le_of_ble_eq_true rfl) rfl rfl rfl (hc2) ?_
      refine zl_if_eq (tgt := 168) dL_law_161 (by decide) (fun c => absurd c (by decide)) (fun _ => ?_)
      exact htail
    · refine zl_if_ne (tgt := 164) dL_law_144 (by decide) (fun _ => ?_) (fun c => absurd c (nI_ne0 (by omega) (by omega)))
      exact htail

theorem law_a {b L : Nat} {xs : Nat → Int32} (hL : L ≤ 260) : ∀ (n k : Nat) (M : Mem) (o z len : Nat), k + n = 3 → At k M k o z len → LWP b L xs 0 0 75 (lws k) [] shZ M := by
  intro n
  induction n with
  | zero =>
    intro k M o z len hk hA
    have hk3 : k = 3 := by omega
    subst hk3
    refine zl_iload_n (j := 0) dL_law_75 rfl ?_
    refine zl_iconst (v := nI 3) dL_law_76 (by decide) ?_
    refine zl_icmp_ge (tgt := 117) dL_law_77 (by decide) (fun _ => ?_) (fun c => absurd c (nI_nlt (by decide) (by decide)))
    refine zl_iconst (v := nI 3) dL_law_117 (by decide) ?_
    refine zl_istore_n (i := 3) (ls2 := [(3, .inl (.inl (nI 3))), (2, .inl (.inl (nI 1))), (1, .inl (.inr (some 0))), (0, .inr ())]) dL_law_118 rfl (fun _ _ => rfl) ?_
    exact law_b hL 18 3 M 3 o z len (by decide) (by decide) hA (by decide)
  | succ n ih =>
    intro k M o z len hk hA
    obtain ⟨z1, ez1, hz1⟩ := cellV_n (L := L) (k := k) (xs := xs)
    obtain ⟨M1, hj, hA1, -⟩ := a_join_ok shZ_s hA (by omega) (k := 200 + z1 % 3000) (by omega)
    refine zl_iload_n (j := 0) dL_law_75 rfl ?_
    refine zl_iconst (v := nI 3) dL_law_76 (by decide) ?_
    refine zl_icmp_ge (tgt := 117) dL_law_77 (by decide) (fun c => absurd (nI_lt (by omega) (by omega)) c) (fun _ => ?_)
    refine zl_iload_n (j := 1) dL_law_80 rfl ?_
    refine zl_if_eq (tgt := 117) dL_law_81 (by decide) (fun c => absurd c (by decide)) (fun _ => ?_)
    refine zl_aload_n (j := 2) dL_law_84 rfl ?_
    refine zl_sipush (v := nI 200) dL_law_85 (by decide) ?_
    refine zl_aload_s (j := 3) dL_law_88 rfl ?_
    refine zl_iload_n (j := 0) dL_law_89 rfl ?_
    refine zl_cell (j := k) dL_law_90 ml_L_97 hL (by omega) (Nat.le_of_ble_eq_true rfl) ?_
    refine zl_top (x2 := nI z1) ez1 ?_
    refine zl_sipush (v := nI 3000) dL_law_93 (by decide) ?_
    refine zl_iremn dL_law_96 hz1 (by decide) (by decide) ?_
    refine zl_iaddn dL_law_97 ?_
    refine zl_invV (k2 := 0) (k3 := 0) (n2 := 0) (n3 := 0) (args2 := [.inl (nI (200 + z1 % 3000))]) (stk := []) (i := 0) (ci := 4) dL_law_98 okX4_join ml_L_39 shZ_s.i shZ_s.k (by decide) rfl (by decide) rfl (Nat.le_of_ble_eq_true rfl) rfl rfl rfl (hj) ?_
    refine zl_iload_n (j := 0) dL_law_101 rfl ?_
    refine zl_icmp_ne (tgt := 109) dL_law_102 (by decide) (fun c => absurd rfl c) (fun _ => ?_)
    refine zl_iconst (v := nI 1) dL_law_105 (by decide) ?_
    refine zl_goto (tgt := 110) dL_law_106 (by decide) ?_
    refine zl_istore_n (i := 2) (ls2 := [(2, .inl (.inl (nI 1))), (3, .inl (.inl (nI k))), (1, .inl (.inr (some 0))), (0, .inr ())]) dL_law_110 rfl (fun _ _ => rfl) ?_
    refine zl_iinc (j := 1) (v := nI (k + 1)) (ls2 := [(3, .inl (.inl (nI (k + 1)))), (2, .inl (.inl (nI 1))), (1, .inl (.inr (some 0))), (0, .inr ())]) dL_law_111 rfl (by decide) (nI_add _ 1) (fun _ _ => rfl) ?_
    refine zl_goto (tgt := 75) dL_law_114 (by decide) ?_
    exact ih (k + 1) M1 _ _ len (by omega) hA1

theorem law_go {p : Program} {e : Env} {s : State} {m : MethodId} {below : List Frame} {meth : Method} {c : Code} (l : Launch) {b L : Nat} {xs : Nat → Int32} (hL : L ≤ 260) (C0 : lw_At p s m meth c b L xs) : W p l e room_1 s m #[Value.ref b] below meth c s.heap [] 0 0 (lw_Z below #[Value.ref b] s) (entryFrame m ([Value.ref b] : List Value).toArray 4) := by
  obtain ⟨hx, hb, hr, hml, hown, hts, hX, hbl, hlocks, hgv⟩ := C0
  obtain ⟨G, cs, hK⟩ := KF_0 hts
  have hl := lv_entry ([.ref b]) (n := 4) (Nat.le_of_ble_eq_true rfl)
  rw [lg_entry_eq]
  generalize (lg_sl ([.ref b]) ++ List.replicate (4 - (lg_sl ([.ref b])).length) Slot.unset).toArray = arr at hl ⊢
  have hl : lv_has arr 4 (encV s.heap.size b [(0, .inr ())]) := hl
  have key : LWP b L xs 134 12500 0 [(0, .inr ())] [] sh00 mem0 := by
    refine zl_new (kd := 4) dL_law_0 (by decide) cl_L_10 it_X4 in_X4 (by decide) (by decide) (by decide) ?_
    rw [(mem0_z 0).push (Nat.zero_le _)]
    refine zl_dup dL_law_3 ?_
    refine zl_invI (k2 := 133) (n2 := 12495) (k3 := 0) (n3 := 0) dL_law_4 okX4_init ml_L_96 (by decide) (Nat.le_of_ble_eq_true rfl) rfl rfl shZ_n (k_X4_init (i := 0) rfl pushS_k (mem0_z _)) ?_
    refine zl_astore_n (i := 1) (ls2 := [(1, .inl (.inr (some 0))), (0, .inr ())]) dL_law_7 rfl (fun _ _ => rfl) ?_
    show LWP b L xs 0 0 8 [(1, .inl (.inr (some 0))), (0, .inr ())] [] shZ memZ
    refine zl_aload_n (j := 0) dL_law_8 rfl ?_
    refine zl_invV (k2 := 0) (k3 := 0) (n2 := 0) (n3 := 0) (args2 := []) (stk := []) (i := 0) (ci := 4) dL_law_9 okX4_undo ml_L_42 shZ_s.i shZ_s.k (by decide) rfl (by decide) rfl (Nat.le_of_ble_eq_true rfl) rfl rfl rfl (c_undo_ill (b := 0) shZ_s at_0.wf at_0.ho at_0.hz at_0.o5 at_0.z5 rfl) ?_
    refine zl_bipush (v := (-2)) dL_law_12 (by decide) ?_
    refine zl_icmp_ne (tgt := 71) dL_law_14 (by decide) (fun c => absurd rfl c) (fun _ => ?_)
    refine zl_aload_n (j := 0) dL_law_17 rfl ?_
    refine zl_iconst (v := nI 4) dL_law_18 (by decide) ?_
    refine zl_invV (k2 := 0) (k3 := 0) (n2 := 0) (n3 := 0) (args2 := [.inl (nI 4)]) (stk := []) (i := 0) (ci := 4) dL_law_19 okX4_count ml_L_15 shZ_s.i shZ_s.k (by decide) rfl (by decide) rfl (Nat.le_of_ble_eq_true rfl) rfl rfl rfl (q_c4 shZ_s at_0) ?_
    refine zl_top (x2 := nI 20) (by rw [memZ_1]; exact up_eq) ?_
    refine zl_bipush (v := nI 20) dL_law_22 (by decide) ?_
    refine zl_icmp_ne (tgt := 71) dL_law_24 (by decide) (fun c => absurd rfl c) (fun _ => ?_)
    refine zl_aload_n (j := 0) dL_law_27 rfl ?_
    refine zl_iconst (v := nI 0) dL_law_28 (by decide) ?_
    refine zl_invV (k2 := 0) (k3 := 0) (n2 := 0) (n3 := 0) (args2 := [.inl (nI 0)]) (stk := []) (i := 0) (ci := 4) dL_law_29 okX4_failure ml_L_69 shZ_s.i shZ_s.k (by decide) rfl (by decide) rfl (Nat.le_of_ble_eq_true rfl) rfl rfl rfl (c_failure_none (b := 0) shZ_s (i := 0) (by decide) (congrFun (memZ_o (Or.inr (Or.inl rfl))) 0)) ?_
    refine zl_bipush (v := (-9)) dL_law_32 (by decide) ?_
    refine zl_icmp_ne (tgt := 71) dL_law_34 (by decide) (fun c => absurd rfl c) (fun _ => ?_)
    refine zl_aload_n (j := 0) dL_law_37 rfl ?_
    refine zl_iconst (v := nI 0) dL_law_38 (by decide) ?_
    refine zl_iconst (v := nI 1) dL_law_39 (by decide) ?_
    refine zl_invV (k2 := 0) (k3 := 0) (n2 := 0) (n3 := 0) (args2 := [.inl (nI 0), .inl (nI 1)]) (stk := []) (i := 0) (ci := 4) dL_law_40 okX4_quiet ml_L_18 shZ_s.i shZ_s.k (by decide) rfl (by decide) rfl (Nat.le_of_ble_eq_true rfl) rfl rfl rfl (q_q1 shZ_s (st := 0) (by decide)) ?_
    refine zl_top (x2 := nI 24) lq_0 ?_
    refine zl_bipush (v := nI 24) dL_law_43 (by decide) ?_
    refine zl_icmp_ne (tgt := 71) dL_law_45 (by decide) (fun c => absurd rfl c) (fun _ => ?_)
    refine zl_aload_n (j := 0) dL_law_48 rfl ?_
    refine zl_iconst (v := nI 0) dL_law_49 (by decide) ?_
    refine zl_iconst (v := nI 2) dL_law_50 (by decide) ?_
    refine zl_invV (k2 := 0) (k3 := 0) (n2 := 0) (n3 := 0) (args2 := [.inl (nI 0), .inl (nI 2)]) (stk := []) (i := 0) (ci := 4) dL_law_51 okX4_quiet ml_L_18 shZ_s.i shZ_s.k (by decide) rfl (by decide) rfl (Nat.le_of_ble_eq_true rfl) rfl rfl rfl (c_quiet_2 (b := 0) shZ_s (st := 0) (by decide)) ?_
    refine zl_top (x2 := nI 0) ls_0 ?_
    refine zl_if_ne (tgt := 71) dL_law_54 (by decide) (fun c => absurd nI_0 c) (fun _ => ?_)
    refine zl_aload_n (j := 0) dL_law_57 rfl ?_
    refine zl_iconst (v := nI 3) dL_law_58 (by decide) ?_
    refine zl_bipush (v := nI 23) dL_law_59 (by decide) ?_
    refine zl_invV (k2 := 0) (k3 := 0) (n2 := 0) (n3 := 0) (args2 := [.inl (nI 3), .inl (nI 23)]) (stk := []) (i := 0) (ci := 4) dL_law_61 okX4_winner ml_L_29 shZ_s.i shZ_s.k (by decide) rfl (by decide) rfl (Nat.le_of_ble_eq_true rfl) rfl rfl rfl (q_wi shZ_s at_0 (st := 3) (h := 23) (by decide) (by decide)) ?_
    refine zl_top (x2 := nI 0) oT_0 ?_
    refine zl_if_ne (tgt := 71) dL_law_64 (by decide) (fun c => absurd nI_0 c) (fun _ => ?_)
    refine zl_iconst (v := nI 1) dL_law_67 (by decide) ?_
    refine zl_goto (tgt := 72) dL_law_68 (by decide) ?_
    refine zl_istore_n (i := 2) (ls2 := [(2, .inl (.inl (nI 1))), (1, .inl (.inr (some 0))), (0, .inr ())]) dL_law_72 rfl (fun _ _ => rfl) ?_
    refine zl_iconst (v := nI 0) dL_law_73 (by decide) ?_
    refine zl_istore_n (i := 3) (ls2 := [(3, .inl (.inl (nI 0))), (2, .inl (.inl (nI 1))), (1, .inl (.inr (some 0))), (0, .inr ())]) dL_law_74 rfl (fun _ _ => rfl) ?_
    exact law_a hL 3 0 memZ 0 0 0 (by decide) at_0
  exact key s.heap.size G cs p l e s m below meth c s.heap [] 0 0 arr ⟨hx, hb, hml, hr, hts, hown, hlocks, hK, fun k q h => by simp [wsl, sh00] at h, va_S.rf, rfl, rfl, hX, hbl⟩ (by decide) (by decide) hl
