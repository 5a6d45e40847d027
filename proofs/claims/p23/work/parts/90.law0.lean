/-! THE LAW'S OWN LAYER: a frame with the script in it. -/
def RL_law : String := "SilenceHoursLaw"
theorem KF_0 {s : State} {args : Array Value} (hts : ∀ w ∈ lw_tbl, w.before args s = true) : ∃ (G : va_G) (cs : Cs), KF G cs s := by
  have hin : ∀ k, k < 5 → Cond.instantiable (RK k) (nF k) ∈ zWS := fun k hk => by
    match k, hk with
    | 0, _ => exact it_X0
    | 1, _ => exact it_X1
    | 2, _ => exact it_X2
    | 3, _ => exact it_X3
    | 4, _ => exact it_X4
  have hk : ∀ k, k < 5 → ∃ (cC : ClassId) (iS : Nat → Nat), u_Kn s (RK k) (TK k) (nF k) cC iS := fun k h => u_known hts (fun w hw => zWS_tbl (K_in h w hw)) (hts _ (zWS_tbl (hin k h)))
  obtain ⟨c0, i0, h0⟩ := hk 0 (by decide)
  obtain ⟨c1, i1, h1⟩ := hk 1 (by decide)
  obtain ⟨c2, i2, h2⟩ := hk 2 (by decide)
  obtain ⟨c3, i3, h3⟩ := hk 3 (by decide)
  obtain ⟨c4, i4, h4⟩ := hk 4 (by decide)
  have aS : va_AO "SilenceHours$State" s := va_AO.of (hts _ (List.mem_of_getElem? (i := 124) (by decide +kernel)))
  have aP : va_AO "SilenceHours$Part" s := va_AO.of (hts _ (List.mem_of_getElem? (i := 144) (by decide +kernel)))
  obtain ⟨cA, kA, comp, a1, a2, a3⟩ := Cond.arrayClass_spec (hts _ (zWS_tbl ac_int))
  obtain ⟨sm, sc, sk, s1, s2, s3, s4, s5⟩ := Cond.arrayOver_spec aS
  obtain ⟨pm, pc, pk, p1, p2, p3, p4, p5⟩ := Cond.arrayOver_spec aP
  refine ⟨(fun k => match k with | 0 => c0 | 1 => c1 | 2 => c2 | 3 => c3 | _ => c4, fun k => match k with | 0 => i0 | 1 => i1 | 2 => i2 | 3 => i3 | _ => i4), (cA, pc, sc), ⟨fun k q hq => ?_, fun k q hq => ?_⟩, fun w hw => ?_, aS, aP⟩
  · have hk6 : k < 5 := (List.getElem?_eq_some_iff.mp hq).1
    rw [K_cl hk6] at hq
    cases hq
    match k, hk6 with
    | 0, _ => exact h0
    | 1, _ => exact h1
    | 2, _ => exact h2
    | 3, _ => exact h3
    | 4, _ => exact h4
  · match k, hq with
    | 0, hq => cases hq; exact ⟨fun n z => ⟨fun k h => (by cases h), kA, a2, comp, a3⟩, a1⟩
    | 1, hq => cases hq; exact ⟨fun n z => ⟨fun k h => (by cases h), pk, p3, pm, p4⟩, pk, pm, p3, p4, p1, p5⟩
    | 2, hq => cases hq; exact ⟨fun n z => ⟨fun k h => (by cases h), sk, s3, sm, s4⟩, sk, sm, s3, s4, s1, s5⟩
    | k + 3, hq => simp [tysOf] at hq
  · have hm : ∀ x ∈ nestWs, x ∈ lw_tbl ∧ x.onTables = true := by
      intro x hx
      simp only [nestWs, List.mem_cons, List.not_mem_nil, or_false] at hx
      rcases hx with rfl | rfl | rfl | rfl | rfl | rfl | rfl | rfl
      · exact ⟨List.mem_of_getElem? (i := 40) (by decide +kernel), rfl⟩
      · exact ⟨List.mem_of_getElem? (i := 125) (by decide +kernel), rfl⟩
      · exact ⟨List.mem_of_getElem? (i := 146) (by decide +kernel), rfl⟩
      · exact ⟨List.mem_of_getElem? (i := 461) (by decide +kernel), rfl⟩
      · exact ⟨List.mem_of_getElem? (i := 391) (by decide +kernel), rfl⟩
      · exact ⟨List.mem_of_getElem? (i := 281) (by decide +kernel), rfl⟩
      · exact ⟨List.mem_of_getElem? (i := 539) (by decide +kernel), rfl⟩
      · exact ⟨List.mem_of_getElem? (i := 556) (by decide +kernel), rfl⟩
    exact va_Nw.of (hm w hw).2 (hts w (hm w hw).1)
abbrev LV : Type := AV ⊕ Unit
def rvL (n0 b : Nat) (v : LV) : Value := match v with
  | .inl a => rv n0 a
  | .inr _ => .ref b
theorem rvL_cat (n0 b : Nat) (v : LV) : (rvL n0 b v).category = 1 := by
  cases v with
  | inl a => exact rv_cat n0 a
  | inr _ => rfl
def encV (n0 b : Nat) (ls : List (Nat × LV)) : List (Nat × Value) := ls.map (fun q => (q.1, rvL n0 b q.2))
theorem encV_at {n0 b j i : Nat} {ls : List (Nat × LV)} {v : LV} (h : ls[j]? = some (i, v)) : (encV n0 b ls)[j]? = some (i, rvL n0 b v) := by
  simp [encV, h]
theorem rvL_sum {n0 b : Nat} (stk : List LV) : ((stk.map (rvL n0 b)).map fun v => v.category).sum = stk.length := by
  induction stk with
  | nil => rfl
  | cons a t ih => simp only [List.map_cons, List.sum_cons, List.length_cons, ih, rvL_cat]; omega
/-- what holds in the law's body -/
def Lx (b L : Nat) (xs : Nat → Int32) (n0 : Nat) (G : va_G) (cs : Cs) (p : Program) (s : State) (m : MethodId) (meth : Method) (c : Code) (H : Heap) (locs : List Loc) (cells : Nat) (sh : Sh) (C : Mem) : Prop :=
  p.tables.exec = Jvm.exec ∧ c.code = cL_law ∧ c.maxLocals = 4 ∧ meth.sig.returnType = ret ∧ (∀ w ∈ lw_tbl, w.before #[Value.ref b] s = true) ∧ s.vm.findClass RL = some m.cls ∧ meth.locks = false ∧ KF G cs s ∧ HW n0 G cs sh C H ∧ va_S (fun q => n0 ≤ q) s.heap H locs ∧ s.heap.size = n0 ∧ cells = sh.1 ∧ va_X b L xs s s.heap ∧ b < s.heap.size
def LWP (b L : Nat) (xs : Nat → Int32) (k n pc : Nat) (ls : List (Nat × LV)) (stk : List LV) (sh : Sh) (C : Mem) : Prop :=
  ∀ (n0 : Nat) (G : va_G) (cs : Cs) (p : Program) (l : Launch) (e : Env) (s : State) (m : MethodId) (below : List Frame) (meth : Method) (c : Code) (H : Heap) (locs : List Loc) (cells slots : Nat) (arr : Array Slot),
    Lx b L xs n0 G cs p s m meth c H locs cells sh C → cells + k ≤ 600000 → slots + n ≤ 7302250 → lv_has arr 4 (encV n0 b ls) →
    W p l e room_1 s m #[Value.ref b] below meth c H locs cells slots (lw_Z below #[Value.ref b] s) (F0 m pc arr (stk.map (rvL n0 b)))
theorem zl_aload_n {b L : Nat} {xs : Nat → Int32} {k n pc : Nat} {ls : List (Nat × LV)} {stk : List LV} {sh : Sh} {C : Mem} {i : Fin 4} {j t : Nat} (hd : decode cL_law pc = .ok (.aload_n i, 1)) (hk : ls[j]? = some ((i : Nat), .inl (.inr (some t)))) (kk : LWP b L xs k n (pc + 1) ls (.inl (.inr (some t)) :: stk) sh C) : LWP b L xs k n pc ls (stk) sh C := by
  intro n0 G cs p l e s m below meth c H locs cells slots arr hc hkm hnm hl
  have hc0 := hc
  obtain ⟨hx, hb, hml, hr, hts, hown, hlk, hK, hH, hS, hn0, hz, hX, hbl⟩ := hc
  have hbA : ¬ (fun q : Nat => n0 ≤ q) b := by rw [← hn0]; exact Nat.not_le.mpr hbl
  exact lv_aload_n hx hb hd rfl (lv_at hl j (encV_at hk)) (kk n0 G cs p l e s m below meth c H locs cells slots arr hc0 hkm hnm hl)
theorem zl_aload_s {b L : Nat} {xs : Nat → Int32} {k n pc : Nat} {ls : List (Nat × LV)} {stk : List LV} {sh : Sh} {C : Mem} {i : Fin 4} {j : Nat} (hd : decode cL_law pc = .ok (.aload_n i, 1)) (hk : ls[j]? = some ((i : Nat), .inr ())) (kk : LWP b L xs k n (pc + 1) ls (.inr () :: stk) sh C) : LWP b L xs k n pc ls (stk) sh C := by
  intro n0 G cs p l e s m below meth c H locs cells slots arr hc hkm hnm hl
  have hc0 := hc
  obtain ⟨hx, hb, hml, hr, hts, hown, hlk, hK, hH, hS, hn0, hz, hX, hbl⟩ := hc
  have hbA : ¬ (fun q : Nat => n0 ≤ q) b := by rw [← hn0]; exact Nat.not_le.mpr hbl
  exact lv_aload_n hx hb hd rfl (lv_at hl j (encV_at hk)) (kk n0 G cs p l e s m below meth c H locs cells slots arr hc0 hkm hnm hl)
theorem zl_iload_n {b L : Nat} {xs : Nat → Int32} {k n pc : Nat} {ls : List (Nat × LV)} {stk : List LV} {sh : Sh} {C : Mem} {i : Fin 4} {j : Nat} {x : Int32} (hd : decode cL_law pc = .ok (.iload_n i, 1)) (hk : ls[j]? = some ((i : Nat), .inl (.inl x))) (kk : LWP b L xs k n (pc + 1) ls (.inl (.inl x) :: stk) sh C) : LWP b L xs k n pc ls (stk) sh C := by
  intro n0 G cs p l e s m below meth c H locs cells slots arr hc hkm hnm hl
  have hc0 := hc
  obtain ⟨hx, hb, hml, hr, hts, hown, hlk, hK, hH, hS, hn0, hz, hX, hbl⟩ := hc
  have hbA : ¬ (fun q : Nat => n0 ≤ q) b := by rw [← hn0]; exact Nat.not_le.mpr hbl
  exact lv_iload_n hx hb hd rfl (lv_at hl j (encV_at hk)) (kk n0 G cs p l e s m below meth c H locs cells slots arr hc0 hkm hnm hl)
theorem zl_iconst {b L : Nat} {xs : Nat → Int32} {k n pc : Nat} {ls : List (Nat × LV)} {stk : List LV} {sh : Sh} {C : Mem} {z : Int} {v : Int32} (hd : decode cL_law pc = .ok (.iconst z, 1)) (hv : Int32.ofInt z = v) (kk : LWP b L xs k n (pc + 1) ls (.inl (.inl v) :: stk) sh C) : LWP b L xs k n pc ls (stk) sh C := by
  intro n0 G cs p l e s m below meth c H locs cells slots arr hc hkm hnm hl
  have hc0 := hc
  obtain ⟨hx, hb, hml, hr, hts, hown, hlk, hK, hH, hS, hn0, hz, hX, hbl⟩ := hc
  have hbA : ¬ (fun q : Nat => n0 ≤ q) b := by rw [← hn0]; exact Nat.not_le.mpr hbl
  exact lv_iconst hx hb hd hv (kk n0 G cs p l e s m below meth c H locs cells slots arr hc0 hkm hnm hl)
theorem zl_bipush {b L : Nat} {xs : Nat → Int32} {k n pc : Nat} {ls : List (Nat × LV)} {stk : List LV} {sh : Sh} {C : Mem} {z : Int} {v : Int32} (hd : decode cL_law pc = .ok (.bipush z, 2)) (hv : (Int8.ofInt z).toInt32 = v) (kk : LWP b L xs k n (pc + 2) ls (.inl (.inl v) :: stk) sh C) : LWP b L xs k n pc ls (stk) sh C := by
  intro n0 G cs p l e s m below meth c H locs cells slots arr hc hkm hnm hl
  have hc0 := hc
  obtain ⟨hx, hb, hml, hr, hts, hown, hlk, hK, hH, hS, hn0, hz, hX, hbl⟩ := hc
  have hbA : ¬ (fun q : Nat => n0 ≤ q) b := by rw [← hn0]; exact Nat.not_le.mpr hbl
  exact lv_bipush hx hb hd hv (kk n0 G cs p l e s m below meth c H locs cells slots arr hc0 hkm hnm hl)
theorem zl_iadd {b L : Nat} {xs : Nat → Int32} {k n pc : Nat} {ls : List (Nat × LV)} {stk : List LV} {sh : Sh} {C : Mem} {x z : Int32} (hd : decode cL_law pc = .ok (.iadd, 1)) (kk : LWP b L xs k n (pc + 1) ls (.inl (.inl (x + z)) :: stk) sh C) : LWP b L xs k n pc ls (.inl (.inl z) :: .inl (.inl x) :: stk) sh C := by
  intro n0 G cs p l e s m below meth c H locs cells slots arr hc hkm hnm hl
  have hc0 := hc
  obtain ⟨hx, hb, hml, hr, hts, hown, hlk, hK, hH, hS, hn0, hz, hX, hbl⟩ := hc
  have hbA : ¬ (fun q : Nat => n0 ≤ q) b := by rw [← hn0]; exact Nat.not_le.mpr hbl
  exact lv_iadd hx hb hd (kk n0 G cs p l e s m below meth c H locs cells slots arr hc0 hkm hnm hl)
theorem zl_isub {b L : Nat} {xs : Nat → Int32} {k n pc : Nat} {ls : List (Nat × LV)} {stk : List LV} {sh : Sh} {C : Mem} {x z : Int32} (hd : decode cL_law pc = .ok (.isub, 1)) (kk : LWP b L xs k n (pc + 1) ls (.inl (.inl (x - z)) :: stk) sh C) : LWP b L xs k n pc ls (.inl (.inl z) :: .inl (.inl x) :: stk) sh C := by
  intro n0 G cs p l e s m below meth c H locs cells slots arr hc hkm hnm hl
  have hc0 := hc
  obtain ⟨hx, hb, hml, hr, hts, hown, hlk, hK, hH, hS, hn0, hz, hX, hbl⟩ := hc
  have hbA : ¬ (fun q : Nat => n0 ≤ q) b := by rw [← hn0]; exact Nat.not_le.mpr hbl
  exact lv_isub hx hb hd (kk n0 G cs p l e s m below meth c H locs cells slots arr hc0 hkm hnm hl)
theorem zl_iand {b L : Nat} {xs : Nat → Int32} {k n pc : Nat} {ls : List (Nat × LV)} {stk : List LV} {sh : Sh} {C : Mem} {x z : Int32} (hd : decode cL_law pc = .ok (.iand, 1)) (kk : LWP b L xs k n (pc + 1) ls (.inl (.inl (x &&& z)) :: stk) sh C) : LWP b L xs k n pc ls (.inl (.inl z) :: .inl (.inl x) :: stk) sh C := by
  intro n0 G cs p l e s m below meth c H locs cells slots arr hc hkm hnm hl
  have hc0 := hc
  obtain ⟨hx, hb, hml, hr, hts, hown, hlk, hK, hH, hS, hn0, hz, hX, hbl⟩ := hc
  have hbA : ¬ (fun q : Nat => n0 ≤ q) b := by rw [← hn0]; exact Nat.not_le.mpr hbl
  exact lv_iand hx hb hd (kk n0 G cs p l e s m below meth c H locs cells slots arr hc0 hkm hnm hl)
theorem zl_dup {b L : Nat} {xs : Nat → Int32} {k n pc : Nat} {ls : List (Nat × LV)} {stk : List LV} {sh : Sh} {C : Mem} {v : LV} (hd : decode cL_law pc = .ok (.dup, 1)) (kk : LWP b L xs k n (pc + 1) ls (v :: v :: stk) sh C) : LWP b L xs k n pc ls (v :: stk) sh C := by
  intro n0 G cs p l e s m below meth c H locs cells slots arr hc hkm hnm hl
  have hc0 := hc
  obtain ⟨hx, hb, hml, hr, hts, hown, hlk, hK, hH, hS, hn0, hz, hX, hbl⟩ := hc
  have hbA : ¬ (fun q : Nat => n0 ≤ q) b := by rw [← hn0]; exact Nat.not_le.mpr hbl
  exact lv_dup hx hb hd (rvL_cat n0 b v) (kk n0 G cs p l e s m below meth c H locs cells slots arr hc0 hkm hnm hl)
theorem zl_goto {b L : Nat} {xs : Nat → Int32} {k n pc : Nat} {ls : List (Nat × LV)} {stk : List LV} {sh : Sh} {C : Mem} {off : Int} {tgt : Nat} (hd : decode cL_law pc = .ok (.goto off, 3)) (ht : (pc : Int) + off = (tgt : Int)) (kk : LWP b L xs k n (tgt) ls (stk) sh C) : LWP b L xs k n pc ls (stk) sh C := by
  intro n0 G cs p l e s m below meth c H locs cells slots arr hc hkm hnm hl
  have hc0 := hc
  obtain ⟨hx, hb, hml, hr, hts, hown, hlk, hK, hH, hS, hn0, hz, hX, hbl⟩ := hc
  have hbA : ¬ (fun q : Nat => n0 ≤ q) b := by rw [← hn0]; exact Nat.not_le.mpr hbl
  exact lv_goto hx hb hd ht (kk n0 G cs p l e s m below meth c H locs cells slots arr hc0 hkm hnm hl)
theorem zl_icmp_gt {b L : Nat} {xs : Nat → Int32} {k n pc : Nat} {ls : List (Nat × LV)} {stk : List LV} {sh : Sh} {C : Mem} {x z : Int32} {off : Int} {tgt : Nat} (hd : decode cL_law pc = .ok (.if_icmp .gt off, 3)) (ht : (pc : Int) + off = (tgt : Int)) (kt : z < x → LWP b L xs k n tgt ls stk sh C) (kf : ¬ z < x → LWP b L xs k n (pc + 3) ls stk sh C) : LWP b L xs k n pc ls (.inl (.inl z) :: .inl (.inl x) :: stk) sh C := by
  intro n0 G cs p l e s m below meth c H locs cells slots arr hc hkm hnm hl
  have hc0 := hc
  obtain ⟨hx, hb, hml, hr, hts, hown, hlk, hK, hH, hS, hn0, hz, hX, hbl⟩ := hc
  have hbA : ¬ (fun q : Nat => n0 ≤ q) b := by rw [← hn0]; exact Nat.not_le.mpr hbl
  exact lv_icmp_gt hx hb hd ht (fun q => kt q n0 G cs p l e s m below meth c H locs cells slots arr hc0 hkm hnm hl) (fun q => kf q n0 G cs p l e s m below meth c H locs cells slots arr hc0 hkm hnm hl)
theorem zl_icmp_eq {b L : Nat} {xs : Nat → Int32} {k n pc : Nat} {ls : List (Nat × LV)} {stk : List LV} {sh : Sh} {C : Mem} {x z : Int32} {off : Int} {tgt : Nat} (hd : decode cL_law pc = .ok (.if_icmp .eq off, 3)) (ht : (pc : Int) + off = (tgt : Int)) (kt : x = z → LWP b L xs k n tgt ls stk sh C) (kf : ¬ x = z → LWP b L xs k n (pc + 3) ls stk sh C) : LWP b L xs k n pc ls (.inl (.inl z) :: .inl (.inl x) :: stk) sh C := by
  intro n0 G cs p l e s m below meth c H locs cells slots arr hc hkm hnm hl
  have hc0 := hc
  obtain ⟨hx, hb, hml, hr, hts, hown, hlk, hK, hH, hS, hn0, hz, hX, hbl⟩ := hc
  have hbA : ¬ (fun q : Nat => n0 ≤ q) b := by rw [← hn0]; exact Nat.not_le.mpr hbl
  exact lv_icmp_eq hx hb hd ht (fun q => kt q n0 G cs p l e s m below meth c H locs cells slots arr hc0 hkm hnm hl) (fun q => kf q n0 G cs p l e s m below meth c H locs cells slots arr hc0 hkm hnm hl)
theorem zl_tswIn {b L : Nat} {xs : Nat → Int32} {k n pc : Nat} {ls : List (Nat × LV)} {stk : List LV} {sh : Sh} {C : Mem} {dflt lo hi : Int} {offs : Array Int} {len : Nat} {x : Int32} {off : Int} {tgt : Nat} (hd : decode cL_law pc = .ok (.tableswitch dflt lo hi offs, len)) (h1 : ¬ x.toInt < lo) (h2 : ¬ hi < x.toInt) (ho : offs[(x.toInt - lo).toNat]? = some off) (ht : (pc : Int) + off = (tgt : Int)) (kk : LWP b L xs k n (tgt) ls (stk) sh C) : LWP b L xs k n pc ls (.inl (.inl x) :: stk) sh C := by
  intro n0 G cs p l e s m below meth c H locs cells slots arr hc hkm hnm hl
  have hc0 := hc
  obtain ⟨hx, hb, hml, hr, hts, hown, hlk, hK, hH, hS, hn0, hz, hX, hbl⟩ := hc
  have hbA : ¬ (fun q : Nat => n0 ≤ q) b := by rw [← hn0]; exact Nat.not_le.mpr hbl
  exact lv_tableIn hx hb hd h1 h2 ho ht (kk n0 G cs p l e s m below meth c H locs cells slots arr hc0 hkm hnm hl)
theorem zl_tswOut {b L : Nat} {xs : Nat → Int32} {k n pc : Nat} {ls : List (Nat × LV)} {stk : List LV} {sh : Sh} {C : Mem} {dflt lo hi : Int} {offs : Array Int} {len : Nat} {x : Int32} {tgt : Nat} (hd : decode cL_law pc = .ok (.tableswitch dflt lo hi offs, len)) (h : x.toInt < lo ∨ hi < x.toInt) (ht : (pc : Int) + dflt = (tgt : Int)) (kk : LWP b L xs k n (tgt) ls (stk) sh C) : LWP b L xs k n pc ls (.inl (.inl x) :: stk) sh C := by
  intro n0 G cs p l e s m below meth c H locs cells slots arr hc hkm hnm hl
  have hc0 := hc
  obtain ⟨hx, hb, hml, hr, hts, hown, hlk, hK, hH, hS, hn0, hz, hX, hbl⟩ := hc
  have hbA : ¬ (fun q : Nat => n0 ≤ q) b := by rw [← hn0]; exact Nat.not_le.mpr hbl
  exact lv_tableOut hx hb hd h ht (kk n0 G cs p l e s m below meth c H locs cells slots arr hc0 hkm hnm hl)
theorem zl_istore_n {b L : Nat} {xs : Nat → Int32} {k n pc : Nat} {ls : List (Nat × LV)} {stk : List LV} {sh : Sh} {C : Mem} {j : Fin 4} {i : Nat} {x : Int32} {ls2 : List (Nat × LV)} (hd : decode cL_law pc = .ok (.istore_n j, 1)) (hj : (j : Nat) = i) (hl2 : ∀ n0 b, (i, rvL n0 b (.inl (.inl x))) :: (encV n0 b ls).filter (fun q => !(q.1 == i) && !(q.1 + 1 == i && q.2.category == 2)) = encV n0 b ls2) (kk : LWP b L xs k n (pc + 1) ls2 (stk) sh C) : LWP b L xs k n pc ls (.inl (.inl x) :: stk) sh C := by
  intro n0 G cs p l e s m below meth c H locs cells slots arr hc hkm hnm hl
  have hc0 := hc
  obtain ⟨hx, hb, hml, hr, hts, hown, hlk, hK, hH, hS, hn0, hz, hX, hbl⟩ := hc
  have hbA : ¬ (fun q : Nat => n0 ≤ q) b := by rw [← hn0]; exact Nat.not_le.mpr hbl
  exact lv_istore_n hx hb hd hj hl (by rw [← hj]; exact j.2) (hl2 n0 b) (fun arr1 hh => kk n0 G cs p l e s m below meth c H locs cells slots arr1 hc0 hkm hnm hh)
theorem zl_astore_n {b L : Nat} {xs : Nat → Int32} {k n pc : Nat} {ls : List (Nat × LV)} {stk : List LV} {sh : Sh} {C : Mem} {j : Fin 4} {i t : Nat} {ls2 : List (Nat × LV)} (hd : decode cL_law pc = .ok (.astore_n j, 1)) (hj : (j : Nat) = i) (hl2 : ∀ n0 b, (i, rvL n0 b (.inl (.inr (some t)))) :: (encV n0 b ls).filter (fun q => !(q.1 == i) && !(q.1 + 1 == i && q.2.category == 2)) = encV n0 b ls2) (kk : LWP b L xs k n (pc + 1) ls2 (stk) sh C) : LWP b L xs k n pc ls (.inl (.inr (some t)) :: stk) sh C := by
  intro n0 G cs p l e s m below meth c H locs cells slots arr hc hkm hnm hl
  have hc0 := hc
  obtain ⟨hx, hb, hml, hr, hts, hown, hlk, hK, hH, hS, hn0, hz, hX, hbl⟩ := hc
  have hbA : ¬ (fun q : Nat => n0 ≤ q) b := by rw [← hn0]; exact Nat.not_le.mpr hbl
  exact lv_astore_n hx hb hd hj hl (by rw [← hj]; exact j.2) (hl2 n0 b) (fun arr1 hh => kk n0 G cs p l e s m below meth c H locs cells slots arr1 hc0 hkm hnm hh)
theorem zl_iinc {b L : Nat} {xs : Nat → Int32} {k n pc : Nat} {ls : List (Nat × LV)} {stk : List LV} {sh : Sh} {C : Mem} {i j : Nat} {z : Int} {x v : Int32} {ls2 : List (Nat × LV)} (hd : decode cL_law pc = .ok (.iinc i z, 3)) (hk : ls[j]? = some (i, .inl (.inl x))) (hi : i < 4) (hv : x + Int32.ofInt z = v) (hl2 : ∀ n0 b, (i, rvL n0 b (.inl (.inl v))) :: (encV n0 b ls).filter (fun q => !(q.1 == i) && !(q.1 + 1 == i && q.2.category == 2)) = encV n0 b ls2) (kk : LWP b L xs k n (pc + 3) ls2 (stk) sh C) : LWP b L xs k n pc ls (stk) sh C := by
  intro n0 G cs p l e s m below meth c H locs cells slots arr hc hkm hnm hl
  have hc0 := hc
  obtain ⟨hx, hb, hml, hr, hts, hown, hlk, hK, hH, hS, hn0, hz, hX, hbl⟩ := hc
  have hbA : ¬ (fun q : Nat => n0 ≤ q) b := by rw [← hn0]; exact Nat.not_le.mpr hbl
  exact lv_iinc hx hb hd hl (encV_at hk) hv hi (hl2 n0 b) (fun arr1 hh => kk n0 G cs p l e s m below meth c H locs cells slots arr1 hc0 hkm hnm hh)
theorem zl_slen {b L : Nat} {xs : Nat → Int32} {k n pc : Nat} {ls : List (Nat × LV)} {stk : List LV} {sh : Sh} {C : Mem} (hd : decode cL_law pc = .ok (.arraylength, 1)) (kk : LWP b L xs k n (pc + 1) ls (.inl (.inl (nI L)) :: stk) sh C) : LWP b L xs k n pc ls (.inr () :: stk) sh C := by
  intro n0 G cs p l e s m below meth c H locs cells slots arr hc hkm hnm hl
  have hc0 := hc
  obtain ⟨hx, hb, hml, hr, hts, hown, hlk, hK, hH, hS, hn0, hz, hX, hbl⟩ := hc
  have hbA : ¬ (fun q : Nat => n0 ≤ q) b := by rw [← hn0]; exact Nat.not_le.mpr hbl
  exact va_slen hx hb hX hbl hbA hS hd (kk n0 G cs p l e s m below meth c H locs cells slots arr hc0 hkm hnm hl)
theorem zl_sld {b L : Nat} {xs : Nat → Int32} {k n pc : Nat} {ls : List (Nat × LV)} {stk : List LV} {sh : Sh} {C : Mem} {j : Nat} {x : Int32} (hd : decode cL_law pc = .ok (.iaload, 1)) (hxj : x = nI j) (hj : j < L) (hL : L < 2 ^ 31) (kk : LWP b L xs k n (pc + 1) ls (.inl (.inl (xs j)) :: stk) sh C) : LWP b L xs k n pc ls (.inl (.inl x) :: .inr () :: stk) sh C := by
  intro n0 G cs p l e s m below meth c H locs cells slots arr hc hkm hnm hl
  have hc0 := hc
  obtain ⟨hx, hb, hml, hr, hts, hown, hlk, hK, hH, hS, hn0, hz, hX, hbl⟩ := hc
  have hbA : ¬ (fun q : Nat => n0 ≤ q) b := by rw [← hn0]; exact Nat.not_le.mpr hbl
  subst hxj
  refine va_sld hx hb hX hbl hbA hS (vp_in_nI hj hL) hd ?_
  rw [nI_clamp (by omega)]
  exact kk n0 G cs p l e s m below meth c H locs cells slots arr hc0 hkm hnm hl
theorem zl_after {b L : Nat} {xs : Nat → Int32} {k n pc : Nat} {ls : List (Nat × LV)} {stk : List LV} {sh sh2 : Sh} {C C2 : Mem} {k2 n2 k3 n3 : Nat} {r2 : Option AV} {n0 : Nat} {G : va_G} {cs : Cs} {p : Program} {l : Launch} {e : Env} {s : State} {m : MethodId} {a2 : Array Value} {below : List Frame} {meth : Method} {c : Code} {H : Heap} {locs : List Loc} {cells slots : Nat} {arr : Array Slot} {st0 : List Value}
    (hc : Lx b L xs n0 G cs p s m meth c H locs cells sh C) (hkm : cells + k ≤ 600000) (hnm : slots + n ≤ 7302250) (hl : lv_has arr 4 (encV n0 b ls)) (hkk : k = k2 + k3) (hnn : n = n2 + n3) (hs2 : sh2.1 = sh.1 + k2)
    (hr : va_Run p l e room_1 s m #[Value.ref b] below meth c H locs cells slots k2 n2 (F0 m pc arr st0) (stk.map (rvL n0 b)) (Qcc n0 G cs r2 sh2 C2 a2) (fun q => n0 ≤ q))
    (kk : LWP b L xs k3 n3 (pc + 3) ls ((r2.toList.map Sum.inl) ++ stk) sh2 C2) :
    W p l e room_1 s m #[Value.ref b] below meth c H locs cells slots (lw_Z below #[Value.ref b] s) (F0 m pc arr st0) := by
  obtain ⟨hx, hb, hml, hr0, hts, hown, hlk, hK, hH, hS, hn0, hz, hX, hbl⟩ := hc
  intro T hT X
  obtain ⟨v, st₀, t, T', L', h0, X', hL, e1, e2, ⟨hv, hW2, hz2, hk2⟩, st⟩ := hr T hT X
  have hv2 : v = r2.map (rv n0) := by injection hv
  subst hv2
  rw [h0] at hz2 hk2
  have hS2 : va_S (fun q => n0 ≤ q) s.heap T'.heap (locs ++ L') := ⟨Nat.le_trans hS.1 (by rw [e1]; exact hz2), fun q h1 h2 => by rw [e1, hk2 q (Nat.lt_of_lt_of_le h1 hS.1) h2]; exact hS.2.1 q h1 h2, fun q hq => by
    rcases List.mem_append.mp hq with h | h
    · exact hS.2.2 q h
    · exact hL q h⟩
  obtain ⟨t2, a1, b1⟩ := kk n0 G cs p l e s m below meth c T'.heap (locs ++ L') (cells + k2) (slots + n2) arr ⟨hx, hb, hml, hr0, hts, hown, hlk, hK, by rw [e1]; exact hW2, hS2, hn0, by omega, hX, hbl⟩ (by omega) (by omega) hl T' rfl X'
  refine ⟨t2, st t2 ?_, b1⟩
  have hst : ((r2.toList.map Sum.inl) ++ stk).map (rvL n0 b) = (r2.map (rv n0)).toList ++ stk.map (rvL n0 b) := by cases r2 <;> rfl
  rw [hst] at a1
  exact a1
theorem goodIn_zl {L : List Cond} (h : ∀ w ∈ L, w ∈ zWS) : GoodIn lw_tbl L := fun w hw => ⟨zWS_tbl (h w hw), good_of_word (List.mem_filter.mp (h w hw)).2⟩
theorem zl_invV {b L : Nat} {xs : Nat → Int32} {k n pc : Nat} {ls : List (Nat × LV)} {stk : List LV} {sh sh2 : Sh} {C C2 : Mem} {d2 k2 n2 k3 n3 idx i : Nat} {y2 : MI} {args2 : List AV} {stk0 : List LV} {r2 : Option AV} {ci : Nat} (hd : decode cL_law pc = .ok (.invokevirtual idx, 3)) (hok : okV y2 args2.length) (hlw : Cond.methodLink RL idx y2.1 ∈ zWS) (hi : i < sh.1) (hk : sh.2.1 i = ci) (hci : ci < 5) (hcl : RK ci = y2.1.cls) (hR : d2 ≤ 8) (hstk : stk0 = (args2.reverse.map Sum.inl) ++ .inl (.inr (some i)) :: stk) (hst : stk.length ≤ 8) (hkk : k = k2 + k3) (hnn : n = n2 + n3) (hs2 : sh2.1 = sh.1 + k2) (hc2 : Calls y2 d2 k2 n2 (.inr (some i) :: args2) sh C r2 sh2 C2) (kk : LWP b L xs k3 n3 (pc + 3) ls ((r2.toList.map Sum.inl) ++ stk) sh2 C2) : LWP b L xs k n pc ls stk0 sh C := by
  intro n0 G cs p l e s m below meth c H locs cells slots arr hc hkm hnm hl
  have hc0 := hc
  obtain ⟨hx, hb, hml, hr, hts, hown, hlk, hK, hH, hS, hn0, hz, hX, hbl⟩ := hc
  have hbA : ¬ (fun q : Nat => n0 ≤ q) b := by rw [← hn0]; exact Nat.not_le.mpr hbl
  intro T hT X
  have hsz := HW.size hH X hT (by omega) (by omega)
  subst hstk
  have hat : (wsl n0 cs sh C)[i]? = some (n0 + i, .inr (ci, flds n0 ci (C i) (sh.2.2.2 i))) := by
    rw [wsl_at hi, entS, ent_obj (by rw [hk]; exact hci), hk]
  have hM := hc2 l n0 G cs
  have hrecv : ∃ cell : Cell, H[n0 + i]? = some cell ∧ cell.vm.isStatics = false ∧ s.vm.findClass y2.1.cls = some cell.cls := by
    have h9 := va_recv hK.1 hH (K_cl hci) hat
    rw [hcl] at h9
    exact h9
  have hPV : PreV s H y2.1.cls (n0 + i) (Pcc n0 G cs (.inr (some i) :: args2) sh C) (args2.map (rv n0)) := ⟨Pcc.blind, hrecv, fun U hU hW => ⟨rfl, hK.moved hW, by rw [hU]; exact hsz, by rw [hU]; exact hH⟩⟩
  have hsk : ((args2.reverse.map Sum.inl : List LV) ++ (Sum.inl (Sum.inr (some i)) : LV) :: stk).map (rvL n0 b) = (args2.map (rv n0)).reverse ++ .ref (n0 + i) :: stk.map (rvL n0 b) := by
    rw [List.map_append, List.map_map, List.map_reverse]
    rfl
  refine zl_after hc0 hkm hnm hl hkk hnn hs2 (va_runV (nL := 4) (own := RL) (C := y2.1.cls) (As := args2.map (rv n0)) (rest := stk.map (rvL n0 b)) ⟨hx, hb, hml, hown, hts⟩ hM (cwV args2.length hts (goodIn_zl (fun w hw => by
      simp only [wsV, List.mem_append, List.mem_cons, List.not_mem_nil, or_false] at hw
      rcases hw with (rfl | rfl | rfl | rfl) | hw
      · exact hlw
      · exact hok.2.1
      · exact hok.2.2
      · exact hok.1.1
      · exact good_callee (y := mX4_init) hok.1.2.1 w hw)) rfl rfl rfl ⟨rfl, hok.1.2.2.1⟩ ⟨by show d2 + 1 ≤ 11; omega, by have := hok.1.2.2.2; show 8 + (y2.2.2.1 + 11) + 37 * d2 ≤ 448; omega⟩) hPV rfl (by simp) hl.1 hsk (lv_room (by rw [rvL_sum]; exact hst)) (by exact hd) ⟨by show cells + k2 ≤ 600000; omega, by show slots + n2 ≤ 7302250; omega⟩) kk T hT X
theorem zl_invI {b L : Nat} {xs : Nat → Int32} {k n pc : Nat} {ls : List (Nat × LV)} {stk : List LV} {sh sh2 : Sh} {C C2 : Mem} {d2 k2 n2 k3 n3 idx i : Nat} {b2 : MethodName} {c2 : ByteArray} {L2 : Nat} (hd : decode cL_law pc = .ok (.invokespecial idx, 3)) (hok : okI (b2, c2, L2, none)) (hlw : Cond.methodLink RL idx b2 ∈ zWS) (hR : d2 ≤ 8) (hst : stk.length ≤ 8) (hkk : k = k2 + k3) (hnn : n = n2 + n3) (hs2 : sh2.1 = sh.1 + k2) (hc2 : Calls (b2, c2, L2, none) d2 k2 n2 [.inr (some i)] sh C none sh2 C2) (kk : LWP b L xs k3 n3 (pc + 3) ls stk sh2 C2) : LWP b L xs k n pc ls (.inl (.inr (some i)) :: stk) sh C := by
  intro n0 G cs p l e s m below meth c H locs cells slots arr hc hkm hnm hl
  have hc0 := hc
  obtain ⟨hx, hb, hml, hr, hts, hown, hlk, hK, hH, hS, hn0, hz, hX, hbl⟩ := hc
  have hbA : ¬ (fun q : Nat => n0 ≤ q) b := by rw [← hn0]; exact Nat.not_le.mpr hbl
  intro T hT X
  have hsz := HW.size hH X hT (by omega) (by omega)
  have hM := hc2 l n0 G cs
  have hPS : PreS s H (Pcc n0 G cs [.inr (some i)] sh C) [.ref (n0 + i)] := ⟨Pcc.blind, fun U hU hW => ⟨rfl, hK.moved hW, by rw [hU]; exact hsz, by rw [hU]; exact hH⟩⟩
  refine zl_after hc0 hkm hnm hl hkk hnn hs2 (va_runI (nL := 4) (own := RL) (As := []) (rest := stk.map (rvL n0 b)) ⟨hx, hb, hml, hown, hts⟩ hM (cwI 0 hts (goodIn_zl (good_callee (y := mX4_init) hok.1.2.1)) rfl rfl rfl (hts _ (zWS_tbl hok.1.1)) (hts _ (zWS_tbl hlw)) (hts _ (zWS_tbl hok.2.1)) hok.2.2.1 hok.1.2.2.1 ⟨by show d2 + 1 ≤ 11; omega, by have h7 : L2 ≤ 18 := hok.1.2.2.2; show 8 + (L2 + 11) + 37 * d2 ≤ 448; omega⟩) hPS rfl rfl hl.1 rfl (lv_room (by rw [rvL_sum]; exact hst)) (by exact hd) ⟨by show cells + k2 ≤ 600000; omega, by show slots + n2 ≤ 7302250; omega⟩) kk T hT X
theorem zl_new {b L : Nat} {xs : Nat → Int32} {k n pc : Nat} {ls : List (Nat × LV)} {stk : List LV} {sh : Sh} {C : Mem} {idx kd : Nat} (hd : decode cL_law pc = .ok (.new idx, 3)) (hkd : kd < 5) (hlw : Cond.classLink RL idx (RK kd) ∈ zWS) (hit : Cond.instantiable (RK kd) (nF kd) ∈ zWS) (hin : Cond.initialized (RK kd) ∈ zWS) (hdf : ∀ j, j < nF kd → defaultValue (tyK kd j) = fv 0 (rF kd j) 0 none) (hk1 : 1 ≤ k) (hn1 : nF kd ≤ n) (kk : LWP b L xs (k - 1) (n - nF kd) (pc + 3) ls (.inl (.inr (some sh.1)) :: stk) (pushS sh kd 0) (pushC C sh.1)) : LWP b L xs k n pc ls stk sh C := by
  intro n0 G cs p l e s m below meth c H locs cells slots arr hc hkm hnm hl
  have hc0 := hc
  obtain ⟨hx, hb, hml, hr, hts, hown, hlk, hK, hH, hS, hn0, hz, hX, hbl⟩ := hc
  have hbA : ¬ (fun q : Nat => n0 ≤ q) b := by rw [← hn0]; exact Nat.not_le.mpr hbl
  intro T hT X
  have hsz := HW.size hH X hT (by omega) (by omega)
  have hgo : W p l e room_1 s m #[Value.ref b] below meth c H locs cells slots (lw_Z below #[Value.ref b] s) (F0 m pc arr (stk.map (rvL n0 b))) := by
    refine W.newcK hx hb hown (hts _ (zWS_tbl hlw)) (hts _ (zWS_tbl hit)) (hts _ (zWS_tbl hin)) rfl hd (by show cells + 1 ≤ 600000; omega) (by show slots + nF kd ≤ 7302250; omega) (hK.1.1 kd _ (K_cl hkd)).2.1 rfl (fun H1 kC hkC e1 z1 o1 => ?_)
    rw [hsz] at e1 ⊢
    have hP1 : va_P G vwCl (wsl n0 cs (pushS sh kd 0) (pushC C sh.1)) H1 := by
      rw [← wsl_push]
      refine (hH.kept (fun q x hx => o1 x.1 ((hH q x hx).lt))).app (fun q x hx => ?_)
      have hq : q < 1 := (List.getElem?_eq_some_iff.mp hx).1
      rw [show q = 0 by omega] at hx
      cases hx
      rw [ent_obj hkd]
      exact ⟨_, K_cl hkd, (u_born (tyK kd) hts (fun w h => zWS_tbl (K_in hkd w h)) (hK.1.1 kd _ (K_cl hkd)) hkC e1 (K_ty hkd)).to (fun j hj => by
        rw [hdf j hj]
        have h9 : (flds n0 kd (fun _ => 0) (fun _ => none))[j]? = some (fv n0 (rF kd j) 0 none) := flds_at hj
        show _ = (flds n0 kd (fun _ => 0) (fun _ => none)).getD j .null
        rw [List.getD_eq_getElem?_getD, h9]
        cases rF kd j <;> rfl)⟩
    exact kk n0 G cs p l e s m below meth c H1 locs (cells + 1) (slots + nF kd) arr ⟨hx, hb, hml, hr, hts, hown, hlk, hK, hP1, ⟨Nat.le_trans hS.1 (by omega), fun x h1 h2 => (o1 x (Nat.lt_of_lt_of_le h1 hS.1)).trans (hS.2.1 x h1 h2), hS.2.2⟩, hn0, by show cells + 1 = sh.1 + 1; omega, hX, hbl⟩ (by omega) (by omega) hl
  exact hgo T hT X
theorem zl_ret {b L : Nat} {xs : Nat → Int32} {k n pc : Nat} {ls : List (Nat × LV)} {stk : List LV} {sh : Sh} {C : Mem} (hd : decode cL_law pc = .ok (.ireturn, 1)) : LWP b L xs k n pc ls [.inl (.inl 1)] sh C := by
  intro n0 G cs p l e s m below meth c H locs cells slots arr hc hkm hnm hl
  have hc0 := hc
  obtain ⟨hx, hb, hml, hr, hts, hown, hlk, hK, hH, hS, hn0, hz, hX, hbl⟩ := hc
  have hbA : ¬ (fun q : Nat => n0 ≤ q) b := by rw [← hn0]; exact Nat.not_le.mpr hbl
  refine va_forget (fun q hq => by rw [hn0]; exact hS.2.2 q hq) ?_
  refine W.widen (k := 600000) (n := 7302250) (by omega) (by omega) ?_
  exact lw_ret hx hb hr hlk hd
theorem zl_W {b L : Nat} {xs : Nat → Int32} {k n pc : Nat} {ls : List (Nat × LV)} {stk : List LV} {sh : Sh} {C : Mem} {k2 n2 : Nat} (hk : k2 ≤ k) (hn : n2 ≤ n) (kk : LWP b L xs k2 n2 pc ls stk sh C) : LWP b L xs k n pc ls stk sh C := fun n0 G cs p l e s m below meth c H locs cells slots arr hc hkm hnm hl => kk n0 G cs p l e s m below meth c H locs cells slots arr hc (by omega) (by omega) hl
theorem zl_sipush {b L : Nat} {xs : Nat → Int32} {k n pc : Nat} {ls : List (Nat × LV)} {stk : List LV} {sh : Sh} {C : Mem} {z : Int} {v : Int32} (hd : decode cL_law pc = .ok (.sipush z, 3)) (hv : (Int16.ofInt z).toInt32 = v) (kk : LWP b L xs k n (pc + 3) ls (.inl (.inl v) :: stk) sh C) : LWP b L xs k n pc ls (stk) sh C := by
  intro n0 G cs p l e s m below meth c H locs cells slots arr hc hkm hnm hl
  have hc0 := hc
  obtain ⟨hx, hb, hml, hr, hts, hown, hlk, hK, hH, hS, hn0, hz, hX, hbl⟩ := hc
  exact lv_sipush hx hb hd hv (kk n0 G cs p l e s m below meth c H locs cells slots arr hc0 hkm hnm hl)
theorem zl_ishr {b L : Nat} {xs : Nat → Int32} {k n pc : Nat} {ls : List (Nat × LV)} {stk : List LV} {sh : Sh} {C : Mem} {x z : Int32} (hd : decode cL_law pc = .ok (.ishr, 1)) (kk : LWP b L xs k n (pc + 1) ls (.inl (.inl (x >>> (z &&& 31))) :: stk) sh C) : LWP b L xs k n pc ls (.inl (.inl z) :: .inl (.inl x) :: stk) sh C := by
  intro n0 G cs p l e s m below meth c H locs cells slots arr hc hkm hnm hl
  have hc0 := hc
  obtain ⟨hx, hb, hml, hr, hts, hown, hlk, hK, hH, hS, hn0, hz, hX, hbl⟩ := hc
  exact lv_ishr hx hb hd (kk n0 G cs p l e s m below meth c H locs cells slots arr hc0 hkm hnm hl)
theorem zl_irem {b L : Nat} {xs : Nat → Int32} {k n pc : Nat} {ls : List (Nat × LV)} {stk : List LV} {sh : Sh} {C : Mem} {x z : Int32} (hd : decode cL_law pc = .ok (.irem, 1)) (hne : ¬ z = 0) (kk : LWP b L xs k n (pc + 1) ls (.inl (.inl (x - x / z * z)) :: stk) sh C) : LWP b L xs k n pc ls (.inl (.inl z) :: .inl (.inl x) :: stk) sh C := by
  intro n0 G cs p l e s m below meth c H locs cells slots arr hc hkm hnm hl
  have hc0 := hc
  obtain ⟨hx, hb, hml, hr, hts, hown, hlk, hK, hH, hS, hn0, hz, hX, hbl⟩ := hc
  exact lv_irem hx hb hd hne (kk n0 G cs p l e s m below meth c H locs cells slots arr hc0 hkm hnm hl)
theorem zl_iremn {b L : Nat} {xs : Nat → Int32} {k n pc : Nat} {ls : List (Nat × LV)} {stk : List LV} {sh : Sh} {C : Mem} {a d : Nat} (hd : decode cL_law pc = .ok (.irem, 1)) (ha : a < 2 ^ 31) (h0 : 0 < d) (hd2 : d < 2 ^ 31) (kk : LWP b L xs k n (pc + 1) ls (.inl (.inl (nI (a % d))) :: stk) sh C) : LWP b L xs k n pc ls (.inl (.inl (nI d)) :: .inl (.inl (nI a)) :: stk) sh C := by
  refine zl_irem hd (nI_ne0 h0 hd2) ?_
  rw [pk_rem ha h0 hd2]
  exact kk
theorem zl_iaddn {b L : Nat} {xs : Nat → Int32} {k n pc : Nat} {ls : List (Nat × LV)} {stk : List LV} {sh : Sh} {C : Mem} {i j : Nat} (hd : decode cL_law pc = .ok (.iadd, 1)) (kk : LWP b L xs k n (pc + 1) ls (.inl (.inl (nI (i + j))) :: stk) sh C) : LWP b L xs k n pc ls (.inl (.inl (nI j)) :: .inl (.inl (nI i)) :: stk) sh C := by
  refine zl_iadd hd ?_
  rw [nI_add]
  exact kk
theorem zl_top {b L : Nat} {xs : Nat → Int32} {k n pc : Nat} {ls : List (Nat × LV)} {stk : List LV} {sh : Sh} {C : Mem} {x x2 : Int32} (h : x = x2) (kk : LWP b L xs k n pc ls (.inl (.inl x2) :: stk) sh C) : LWP b L xs k n pc ls (.inl (.inl x) :: stk) sh C := h ▸ kk
theorem zl_icmp_ne {b L : Nat} {xs : Nat → Int32} {k n pc : Nat} {ls : List (Nat × LV)} {stk : List LV} {sh : Sh} {C : Mem} {x z : Int32} {off : Int} {tgt : Nat} (hd : decode cL_law pc = .ok (.if_icmp .ne off, 3)) (ht : (pc : Int) + off = (tgt : Int)) (kt : ¬ x = z → LWP b L xs k n tgt ls stk sh C) (kf : x = z → LWP b L xs k n (pc + 3) ls stk sh C) : LWP b L xs k n pc ls (.inl (.inl z) :: .inl (.inl x) :: stk) sh C := by
  intro n0 G cs p l e s m below meth c H locs cells slots arr hc hkm hnm hl
  have hc0 := hc
  obtain ⟨hx, hb, hml, hr, hts, hown, hlk, hK, hH, hS, hn0, hz, hX, hbl⟩ := hc
  exact lv_icmp_ne hx hb hd ht (fun q => kt q n0 G cs p l e s m below meth c H locs cells slots arr hc0 hkm hnm hl) (fun q => kf q n0 G cs p l e s m below meth c H locs cells slots arr hc0 hkm hnm hl)
theorem zl_icmp_ge {b L : Nat} {xs : Nat → Int32} {k n pc : Nat} {ls : List (Nat × LV)} {stk : List LV} {sh : Sh} {C : Mem} {x z : Int32} {off : Int} {tgt : Nat} (hd : decode cL_law pc = .ok (.if_icmp .ge off, 3)) (ht : (pc : Int) + off = (tgt : Int)) (kt : ¬ x < z → LWP b L xs k n tgt ls stk sh C) (kf : x < z → LWP b L xs k n (pc + 3) ls stk sh C) : LWP b L xs k n pc ls (.inl (.inl z) :: .inl (.inl x) :: stk) sh C := by
  intro n0 G cs p l e s m below meth c H locs cells slots arr hc hkm hnm hl
  have hc0 := hc
  obtain ⟨hx, hb, hml, hr, hts, hown, hlk, hK, hH, hS, hn0, hz, hX, hbl⟩ := hc
  exact lv_icmp_ge hx hb hd ht (fun q => kt (Int32.not_lt.mpr q) n0 G cs p l e s m below meth c H locs cells slots arr hc0 hkm hnm hl) (fun q => kf (Int32.not_le.mp q) n0 G cs p l e s m below meth c H locs cells slots arr hc0 hkm hnm hl)
theorem zl_if_eq {b L : Nat} {xs : Nat → Int32} {k n pc : Nat} {ls : List (Nat × LV)} {stk : List LV} {sh : Sh} {C : Mem} {x : Int32} {off : Int} {tgt : Nat} (hd : decode cL_law pc = .ok (.ifCond .eq off, 3)) (ht : (pc : Int) + off = (tgt : Int)) (kt : x = 0 → LWP b L xs k n tgt ls stk sh C) (kf : ¬ x = 0 → LWP b L xs k n (pc + 3) ls stk sh C) : LWP b L xs k n pc ls (.inl (.inl x) :: stk) sh C := by
  intro n0 G cs p l e s m below meth c H locs cells slots arr hc hkm hnm hl
  have hc0 := hc
  obtain ⟨hx, hb, hml, hr, hts, hown, hlk, hK, hH, hS, hn0, hz, hX, hbl⟩ := hc
  exact lv_if_eq hx hb hd ht (fun q => kt q n0 G cs p l e s m below meth c H locs cells slots arr hc0 hkm hnm hl) (fun q => kf q n0 G cs p l e s m below meth c H locs cells slots arr hc0 hkm hnm hl)
theorem zl_if_ne {b L : Nat} {xs : Nat → Int32} {k n pc : Nat} {ls : List (Nat × LV)} {stk : List LV} {sh : Sh} {C : Mem} {x : Int32} {off : Int} {tgt : Nat} (hd : decode cL_law pc = .ok (.ifCond .ne off, 3)) (ht : (pc : Int) + off = (tgt : Int)) (kt : ¬ x = 0 → LWP b L xs k n tgt ls stk sh C) (kf : x = 0 → LWP b L xs k n (pc + 3) ls stk sh C) : LWP b L xs k n pc ls (.inl (.inl x) :: stk) sh C := by
  intro n0 G cs p l e s m below meth c H locs cells slots arr hc hkm hnm hl
  have hc0 := hc
  obtain ⟨hx, hb, hml, hr, hts, hown, hlk, hK, hH, hS, hn0, hz, hX, hbl⟩ := hc
  exact lv_if_ne hx hb hd ht (fun q => kt q n0 G cs p l e s m below meth c H locs cells slots arr hc0 hkm hnm hl) (fun q => kf q n0 G cs p l e s m below meth c H locs cells slots arr hc0 hkm hnm hl)
theorem zl_invS {b L : Nat} {xs : Nat → Int32} {k n pc : Nat} {ls : List (Nat × LV)} {stk : List LV} {sh sh2 : Sh} {C C2 : Mem} {d2 k2 n2 k3 n3 idx : Nat} {y2 : MI} {args2 : List AV} {stk0 : List LV} {r2 : Option AV} (hd : decode cL_law pc = .ok (.invokestatic idx, 3)) (hok : okS y2 args2.length) (hlw : Cond.methodLink RL idx y2.1 ∈ zWS) (hR : d2 ≤ 8) (hstk : stk0 = (args2.reverse.map Sum.inl) ++ stk) (hst : stk.length ≤ 8) (hkk : k = k2 + k3) (hnn : n = n2 + n3) (hs2 : sh2.1 = sh.1 + k2) (hc2 : Calls y2 d2 k2 n2 args2 sh C r2 sh2 C2) (kk : LWP b L xs k3 n3 (pc + 3) ls ((r2.toList.map Sum.inl) ++ stk) sh2 C2) : LWP b L xs k n pc ls stk0 sh C := by
  intro n0 G cs p l e s m below meth c H locs cells slots arr hc hkm hnm hl
  have hc0 := hc
  obtain ⟨hx, hb, hml, hr, hts, hown, hlk, hK, hH, hS, hn0, hz, hX, hbl⟩ := hc
  intro T hT X
  have hsz := HW.size hH X hT (by omega) (by omega)
  subst hstk
  have hM := hc2 l n0 G cs
  have hPS : PreS s H (Pcc n0 G cs args2 sh C) (args2.map (rv n0)) := ⟨Pcc.blind, fun U hU hW => ⟨rfl, hK.moved hW, by rw [hU]; exact hsz, by rw [hU]; exact hH⟩⟩
  have hsk : ((args2.reverse.map Sum.inl : List LV) ++ stk).map (rvL n0 b) = (args2.map (rv n0)).reverse ++ stk.map (rvL n0 b) := by
    rw [List.map_append, List.map_map, List.map_reverse]
    rfl
  refine zl_after hc0 hkm hnm hl hkk hnn hs2 (va_runS (nL := 4) (own := RL) (As := args2.map (rv n0)) (rest := stk.map (rvL n0 b)) ⟨hx, hb, hml, hown, hts⟩ hM (zcwS args2.length hts (goodIn_zl (good_callee (y := mX4_init) hok.1.2.1)) rfl rfl rfl (hts _ (zWS_tbl hok.1.1)) (hts _ (zWS_tbl hlw)) (hts _ (zWS_tbl hok.2)) hok.1.2.2.1 ⟨by show d2 + 1 ≤ 11; omega, by have := hok.1.2.2.2; show 8 + (y2.2.2.1 + 11) + 37 * d2 ≤ 448; omega⟩) hPS rfl (by simp) hl.1 hsk (lv_room (by rw [rvL_sum]; exact hst)) (by exact hd) ⟨by show cells + k2 ≤ 600000; omega, by show slots + n2 ≤ 7302250; omega⟩) kk T hT X
/-! cell: it reads the script -/
def cellV (L : Nat) (xs : Nat → Int32) (k : Nat) : Int32 := (if k < L then xs k else nI 15485803 * nI k + nI 149) &&& nI 2147483647
def Pcell (b L : Nat) (xs : Nat → Int32) (k n0 : Nat) (G : va_G) (cs : Cs) (sh : Sh) (C : Mem) : Array Value → State → Prop := va_Pc [.ref b, .int (nI k)] (fun U => va_X b L xs U U.heap ∧ b < n0 ∧ KF G cs U ∧ U.heap.size = n0 + sh.1 ∧ HW n0 G cs sh C U.heap)
theorem Pcell.blind {b L k n0 : Nat} {xs : Nat → Int32} {G : va_G} {cs : Cs} {sh : Sh} {C : Mem} : FrameBlind (Pcell b L xs k n0 G cs sh C) := fun a U g mk q => by
  obtain ⟨q0, q1, q2, q3, q4, q5⟩ := q
  exact ⟨q0, q1.moved (u := U) (U := U.calling g mk a) (Vm.Alike.refl _), q2, KF.same (u := U) (U := U.calling g mk a) rfl q3, q4, q5⟩
set_option maxRecDepth 100000 in
set_option maxHeartbeats 4000000 in
theorem m_cell {l : Launch} {b L k n0 : Nat} {xs : Nat → Int32} {G : va_G} {cs : Cs} {sh : Sh} {C : Mem} (hL : L ≤ 260) (hk : k < 1000) : Met l yL_cell (wsY mL_cell) (rmm 0 0 0) (Pcell b L xs k n0 G cs sh C) (Qcc n0 G cs (some (.inl (cellV L xs k))) sh C) 0 0 (fun q => n0 ≤ q) := by
  refine Met.ofW (cc := cL_cell) (maxL := 2) (ret := some .int) (ws' := zWS) plL rfl ?_
  intro p e s m args' below meth c s₁ B hml hv
  obtain ⟨rfl, hX, hbn, hK, hsz, hH⟩ := hv
  have hx := B.exec
  have hb := B.bytes
  have hr := B.returns
  have hts : ∀ w ∈ wsY mL_cell, w.before _ s = true := atoms_spec (ws := wsY mL_cell) B.pre
  have hown : s.vm.findClass RL = some m.cls := findClass_of_methodNamed B.named
  have hlocks := B.notSynchronized
  have hbl : b < s.heap.size := by omega
  have hbA : ¬ (fun q : Nat => n0 ≤ q) b := by show ¬ n0 ≤ b; omega
  have hS : va_S (fun q => n0 ≤ q) s.heap s.heap [] := va_S.rf
  rw [lg_entry_eq]
  have hl : lv_has _ 2 [(0, Value.ref b), (1, .int (nI k))] := lv_entry [.ref b, .int (nI k)] (n := 2) (Nat.le_of_ble_eq_true rfl)
  generalize (lg_sl [Value.ref b, .int (nI k)] ++ List.replicate (2 - (lg_sl [Value.ref b, .int (nI k)]).length) Slot.unset).toArray = arr at hl ⊢
  refine lv_iload_n hx hb dL_cell_0 rfl (lv_at hl 1 rfl) ?_
  refine lv_aload_n hx hb dL_cell_1 rfl (lv_at hl 0 rfl) ?_
  refine va_slen hx hb hX hbl hbA hS dL_cell_2 ?_
  have fin : ∀ v : Int32, v = (if k < L then xs k else nI 15485803 * nI k + nI 149) → W p l e (headSpec (wsY mL_cell) (rmm 0 0 0)).room s m #[Value.ref b, Value.int (nI k)] below meth c s.heap [] 0 0 (MQ below (Qcc n0 G cs (some (.inl (cellV L xs k))) sh C) #[Value.ref b, Value.int (nI k)] s 0 0 (fun q => n0 ≤ q)) (F0 m 20 arr [.int v]) := by
    intro v hv
    refine lv_ldc hx hb hown (v := nI 2147483647) (hts _ (List.mem_cons_of_mem _ cs_L_8)) dL_cell_20 ?_
    refine lv_iand hx hb dL_cell_22 ?_
    have e : v &&& nI 2147483647 = cellV L xs k := by rw [hv]; rfl
    rw [e]
    exact W.iret (v := cellV L xs k) hx hb hr (fun t ht hW => ⟨rfl, by rw [ht]; exact hH, hS.F ht⟩) hS.2.2 dL_cell_23
  refine lv_icmp_ge (tgt := 12) hx hb dL_cell_3 (by decide) (fun q => ?_) (fun q => ?_)
  · have hk2 : ¬ k < L := fun z => absurd q (nI_ge z (by omega))
    refine lv_ldc hx hb hown (v := nI 15485803) (hts _ (List.mem_cons_of_mem _ cs_L_7)) dL_cell_12 ?_
    refine lv_iload_n hx hb dL_cell_14 rfl (lv_at hl 1 rfl) ?_
    refine lv_imul hx hb dL_cell_15 ?_
    refine lv_sipush (v := nI 149) hx hb dL_cell_16 (by decide) ?_
    refine lv_iadd hx hb dL_cell_19 ?_
    exact fin _ (if_neg hk2).symm
  · have hk2 : k < L := Nat.lt_of_not_le (fun z => q (nI_le z (by omega)))
    refine lv_aload_n hx hb dL_cell_6 rfl (lv_at hl 0 rfl) ?_
    refine lv_iload_n hx hb dL_cell_7 rfl (lv_at hl 1 rfl) ?_
    refine va_sld hx hb hX hbl hbA hS (vp_in_nI hk2 (by omega)) dL_cell_8 ?_
    rw [nI_clamp (by omega)]
    refine lv_goto (tgt := 20) hx hb dL_cell_9 (by decide) ?_
    exact fin _ (if_pos hk2).symm
theorem cellV_n {L k : Nat} {xs : Nat → Int32} : ∃ z, cellV L xs k = nI z ∧ z < 2 ^ 31 := by
  obtain ⟨j, hj, e⟩ := pk_andE (if k < L then xs k else nI 15485803 * nI k + nI 149) (m := nI 2147483647) 31 (by decide)
  exact ⟨j, e, hj⟩
theorem zl_cell {b L : Nat} {xs : Nat → Int32} {k n pc idx j : Nat} {ls : List (Nat × LV)} {stk : List LV} {sh : Sh} {C : Mem} (hd : decode cL_law pc = .ok (.invokestatic idx, 3)) (hlw : Cond.methodLink RL idx yL_cell ∈ zWS) (hL : L ≤ 260) (hj : j < 1000) (hst : stk.length ≤ 8) (kk : LWP b L xs k n (pc + 3) ls (.inl (.inl (cellV L xs j)) :: stk) sh C) : LWP b L xs k n pc ls (.inl (.inl (nI j)) :: .inr () :: stk) sh C := by
  intro n0 G cs p l e s m below meth c H locs cells slots arr hc hkm hnm hl
  have hc0 := hc
  obtain ⟨hx, hb, hml, hr, hts, hown, hlk, hK, hH, hS, hn0, hz, hX, hbl⟩ := hc
  have hbA : ¬ (fun q : Nat => n0 ≤ q) b := by rw [← hn0]; exact Nat.not_le.mpr hbl
  intro T hT X
  have hsz := HW.size hH X hT (by omega) (by omega)
  have hM := m_cell (l := l) (b := b) (L := L) (k := j) (n0 := n0) (xs := xs) (G := G) (cs := cs) (sh := sh) (C := C) hL hj
  have hPS : PreS s H (Pcell b L xs j n0 G cs sh C) [.ref b, .int (nI j)] := ⟨Pcell.blind, fun U hU hW => ⟨rfl, ((hX.kept (by rw [hU]; exact hS.2.1 b hbl hbA)).moved hW.alike), by omega, hK.moved hW, by rw [hU]; exact hsz, by rw [hU]; exact hH⟩⟩
  exact zl_after (k2 := 0) (n2 := 0) (k3 := k) (n3 := n) (r2 := some (.inl (cellV L xs j))) hc0 hkm hnm hl (Nat.zero_add k).symm (Nat.zero_add n).symm rfl (va_runS (nL := 4) (own := RL) (As := [.ref b, .int (nI j)]) (rest := stk.map (rvL n0 b)) ⟨hx, hb, hml, hown, hts⟩ hM (zcwS 2 hts (goodIn_zl (good_callee (y := mX4_init) (y2 := mL_cell) okL_cell.1.2.1)) rfl rfl rfl (hts _ (zWS_tbl okL_cell.1.1)) (hts _ (zWS_tbl hlw)) (hts _ (zWS_tbl okL_cell.2)) okL_cell.1.2.2.1 ⟨by decide, by decide⟩) hPS rfl rfl hl.1 rfl (lv_room (by rw [rvL_sum]; exact hst)) (by exact hd) ⟨by show cells + 0 ≤ 600000; omega, by show slots + 0 ≤ 7302250; omega⟩) kk T hT X
