theorem stk_cat (n0 : Nat) (stk : List AV) : ((stk.map (rv n0)).map fun v => v.category).sum = stk.length := by
  induction stk with
  | nil => rfl
  | cons v t ih =>
    simp only [List.map_cons, List.sum_cons, List.length_cons, rv_cat]
    simp only [List.map_map] at ih ⊢
    omega
def cpy (C : Mem) (a b u v w : Nat) : Mem := fun q => if q = b then va_cpy (C a) (C b) u v w else C q
theorem nfw : nativeFrameWords "java/lang/System" "arraycopy" 5 = 7 := by decide +kernel
theorem zw_iadd {y : MI} {d k n pc : Nat} {ls : List (Option AV)} {stk : List AV} {sh sh' : Sh} {C C' : Mem} {r : Option AV} {x z : Int32} (hd : decode y.2.1 pc = .ok (.iadd, 1)) (kk : WP y d k n (pc + 1) ls (.inl (x + z) :: stk) sh C r sh' C') : WP y d k n pc ls (.inl z :: .inl x :: stk) sh C r sh' C' := by
  intro n0 G cs p l e s m args below meth c H locs cells slots mc ms arr hc
  have hc0 := hc
  obtain ⟨hx, hb, hml, hr, hts, hown, hlk, hnm, hK, hH, hS, hn0, hz, hcm, hsm, hl⟩ := hc
  exact lv_iadd hx hb hd (kk n0 G cs p l e s m args below meth c H locs cells slots mc ms arr hc0)
theorem zw_isub {y : MI} {d k n pc : Nat} {ls : List (Option AV)} {stk : List AV} {sh sh' : Sh} {C C' : Mem} {r : Option AV} {x z : Int32} (hd : decode y.2.1 pc = .ok (.isub, 1)) (kk : WP y d k n (pc + 1) ls (.inl (x - z) :: stk) sh C r sh' C') : WP y d k n pc ls (.inl z :: .inl x :: stk) sh C r sh' C' := by
  intro n0 G cs p l e s m args below meth c H locs cells slots mc ms arr hc
  have hc0 := hc
  obtain ⟨hx, hb, hml, hr, hts, hown, hlk, hnm, hK, hH, hS, hn0, hz, hcm, hsm, hl⟩ := hc
  exact lv_isub hx hb hd (kk n0 G cs p l e s m args below meth c H locs cells slots mc ms arr hc0)
theorem zw_imul {y : MI} {d k n pc : Nat} {ls : List (Option AV)} {stk : List AV} {sh sh' : Sh} {C C' : Mem} {r : Option AV} {x z : Int32} (hd : decode y.2.1 pc = .ok (.imul, 1)) (kk : WP y d k n (pc + 1) ls (.inl (x * z) :: stk) sh C r sh' C') : WP y d k n pc ls (.inl z :: .inl x :: stk) sh C r sh' C' := by
  intro n0 G cs p l e s m args below meth c H locs cells slots mc ms arr hc
  have hc0 := hc
  obtain ⟨hx, hb, hml, hr, hts, hown, hlk, hnm, hK, hH, hS, hn0, hz, hcm, hsm, hl⟩ := hc
  exact lv_imul hx hb hd (kk n0 G cs p l e s m args below meth c H locs cells slots mc ms arr hc0)
theorem zw_iand {y : MI} {d k n pc : Nat} {ls : List (Option AV)} {stk : List AV} {sh sh' : Sh} {C C' : Mem} {r : Option AV} {x z : Int32} (hd : decode y.2.1 pc = .ok (.iand, 1)) (kk : WP y d k n (pc + 1) ls (.inl (x &&& z) :: stk) sh C r sh' C') : WP y d k n pc ls (.inl z :: .inl x :: stk) sh C r sh' C' := by
  intro n0 G cs p l e s m args below meth c H locs cells slots mc ms arr hc
  have hc0 := hc
  obtain ⟨hx, hb, hml, hr, hts, hown, hlk, hnm, hK, hH, hS, hn0, hz, hcm, hsm, hl⟩ := hc
  exact lv_iand hx hb hd (kk n0 G cs p l e s m args below meth c H locs cells slots mc ms arr hc0)
theorem zw_ior {y : MI} {d k n pc : Nat} {ls : List (Option AV)} {stk : List AV} {sh sh' : Sh} {C C' : Mem} {r : Option AV} {x z : Int32} (hd : decode y.2.1 pc = .ok (.ior, 1)) (kk : WP y d k n (pc + 1) ls (.inl (x ||| z) :: stk) sh C r sh' C') : WP y d k n pc ls (.inl z :: .inl x :: stk) sh C r sh' C' := by
  intro n0 G cs p l e s m args below meth c H locs cells slots mc ms arr hc
  have hc0 := hc
  obtain ⟨hx, hb, hml, hr, hts, hown, hlk, hnm, hK, hH, hS, hn0, hz, hcm, hsm, hl⟩ := hc
  exact lv_ior hx hb hd (kk n0 G cs p l e s m args below meth c H locs cells slots mc ms arr hc0)
theorem zw_ishl {y : MI} {d k n pc : Nat} {ls : List (Option AV)} {stk : List AV} {sh sh' : Sh} {C C' : Mem} {r : Option AV} {x z : Int32} (hd : decode y.2.1 pc = .ok (.ishl, 1)) (kk : WP y d k n (pc + 1) ls (.inl (x <<< (z &&& 31)) :: stk) sh C r sh' C') : WP y d k n pc ls (.inl z :: .inl x :: stk) sh C r sh' C' := by
  intro n0 G cs p l e s m args below meth c H locs cells slots mc ms arr hc
  have hc0 := hc
  obtain ⟨hx, hb, hml, hr, hts, hown, hlk, hnm, hK, hH, hS, hn0, hz, hcm, hsm, hl⟩ := hc
  exact lv_ishl hx hb hd (kk n0 G cs p l e s m args below meth c H locs cells slots mc ms arr hc0)
theorem zw_ishr {y : MI} {d k n pc : Nat} {ls : List (Option AV)} {stk : List AV} {sh sh' : Sh} {C C' : Mem} {r : Option AV} {x z : Int32} (hd : decode y.2.1 pc = .ok (.ishr, 1)) (kk : WP y d k n (pc + 1) ls (.inl (x >>> (z &&& 31)) :: stk) sh C r sh' C') : WP y d k n pc ls (.inl z :: .inl x :: stk) sh C r sh' C' := by
  intro n0 G cs p l e s m args below meth c H locs cells slots mc ms arr hc
  have hc0 := hc
  obtain ⟨hx, hb, hml, hr, hts, hown, hlk, hnm, hK, hH, hS, hn0, hz, hcm, hsm, hl⟩ := hc
  exact lv_ishr hx hb hd (kk n0 G cs p l e s m args below meth c H locs cells slots mc ms arr hc0)
theorem zw_iushr {y : MI} {d k n pc : Nat} {ls : List (Option AV)} {stk : List AV} {sh sh' : Sh} {C C' : Mem} {r : Option AV} {x z : Int32} (hd : decode y.2.1 pc = .ok (.iushr, 1)) (kk : WP y d k n (pc + 1) ls (.inl ((x.toUInt32 >>> (z.toUInt32 &&& Int32.toUInt32 31)).toInt32) :: stk) sh C r sh' C') : WP y d k n pc ls (.inl z :: .inl x :: stk) sh C r sh' C' := by
  intro n0 G cs p l e s m args below meth c H locs cells slots mc ms arr hc
  have hc0 := hc
  obtain ⟨hx, hb, hml, hr, hts, hown, hlk, hnm, hK, hH, hS, hn0, hz, hcm, hsm, hl⟩ := hc
  exact lv_iushr hx hb hd rfl (kk n0 G cs p l e s m args below meth c H locs cells slots mc ms arr hc0)
theorem zw_ineg {y : MI} {d k n pc : Nat} {ls : List (Option AV)} {stk : List AV} {sh sh' : Sh} {C C' : Mem} {r : Option AV} {x : Int32} (hd : decode y.2.1 pc = .ok (.ineg, 1)) (kk : WP y d k n (pc + 1) ls (.inl (-x) :: stk) sh C r sh' C') : WP y d k n pc ls (.inl x :: stk) sh C r sh' C' := by
  intro n0 G cs p l e s m args below meth c H locs cells slots mc ms arr hc
  have hc0 := hc
  obtain ⟨hx, hb, hml, hr, hts, hown, hlk, hnm, hK, hH, hS, hn0, hz, hcm, hsm, hl⟩ := hc
  exact lv_ineg hx hb hd (kk n0 G cs p l e s m args below meth c H locs cells slots mc ms arr hc0)
theorem zw_idiv {y : MI} {d k n pc : Nat} {ls : List (Option AV)} {stk : List AV} {sh sh' : Sh} {C C' : Mem} {r : Option AV} {x z : Int32} (hd : decode y.2.1 pc = .ok (.idiv, 1)) (hne : ¬ z = 0) (kk : WP y d k n (pc + 1) ls (.inl (x / z) :: stk) sh C r sh' C') : WP y d k n pc ls (.inl z :: .inl x :: stk) sh C r sh' C' := by
  intro n0 G cs p l e s m args below meth c H locs cells slots mc ms arr hc
  have hc0 := hc
  obtain ⟨hx, hb, hml, hr, hts, hown, hlk, hnm, hK, hH, hS, hn0, hz, hcm, hsm, hl⟩ := hc
  exact lv_idiv hx hb hd hne (kk n0 G cs p l e s m args below meth c H locs cells slots mc ms arr hc0)
theorem zw_irem {y : MI} {d k n pc : Nat} {ls : List (Option AV)} {stk : List AV} {sh sh' : Sh} {C C' : Mem} {r : Option AV} {x z : Int32} (hd : decode y.2.1 pc = .ok (.irem, 1)) (hne : ¬ z = 0) (kk : WP y d k n (pc + 1) ls (.inl (x - x / z * z) :: stk) sh C r sh' C') : WP y d k n pc ls (.inl z :: .inl x :: stk) sh C r sh' C' := by
  intro n0 G cs p l e s m args below meth c H locs cells slots mc ms arr hc
  have hc0 := hc
  obtain ⟨hx, hb, hml, hr, hts, hown, hlk, hnm, hK, hH, hS, hn0, hz, hcm, hsm, hl⟩ := hc
  exact lv_irem hx hb hd hne (kk n0 G cs p l e s m args below meth c H locs cells slots mc ms arr hc0)
theorem zw_iconst {y : MI} {d k n pc : Nat} {ls : List (Option AV)} {stk : List AV} {sh sh' : Sh} {C C' : Mem} {r : Option AV} {z : Int} {v : Int32} (hd : decode y.2.1 pc = .ok (.iconst z, 1)) (hv : Int32.ofInt z = v) (kk : WP y d k n (pc + 1) ls (.inl v :: stk) sh C r sh' C') : WP y d k n pc ls stk sh C r sh' C' := by
  intro n0 G cs p l e s m args below meth c H locs cells slots mc ms arr hc
  have hc0 := hc
  obtain ⟨hx, hb, hml, hr, hts, hown, hlk, hnm, hK, hH, hS, hn0, hz, hcm, hsm, hl⟩ := hc
  exact lv_iconst hx hb hd hv (kk n0 G cs p l e s m args below meth c H locs cells slots mc ms arr hc0)
theorem zw_bipush {y : MI} {d k n pc : Nat} {ls : List (Option AV)} {stk : List AV} {sh sh' : Sh} {C C' : Mem} {r : Option AV} {z : Int} {v : Int32} (hd : decode y.2.1 pc = .ok (.bipush z, 2)) (hv : (Int8.ofInt z).toInt32 = v) (kk : WP y d k n (pc + 2) ls (.inl v :: stk) sh C r sh' C') : WP y d k n pc ls stk sh C r sh' C' := by
  intro n0 G cs p l e s m args below meth c H locs cells slots mc ms arr hc
  have hc0 := hc
  obtain ⟨hx, hb, hml, hr, hts, hown, hlk, hnm, hK, hH, hS, hn0, hz, hcm, hsm, hl⟩ := hc
  exact lv_bipush hx hb hd hv (kk n0 G cs p l e s m args below meth c H locs cells slots mc ms arr hc0)
theorem zw_sipush {y : MI} {d k n pc : Nat} {ls : List (Option AV)} {stk : List AV} {sh sh' : Sh} {C C' : Mem} {r : Option AV} {z : Int} {v : Int32} (hd : decode y.2.1 pc = .ok (.sipush z, 3)) (hv : (Int16.ofInt z).toInt32 = v) (kk : WP y d k n (pc + 3) ls (.inl v :: stk) sh C r sh' C') : WP y d k n pc ls stk sh C r sh' C' := by
  intro n0 G cs p l e s m args below meth c H locs cells slots mc ms arr hc
  have hc0 := hc
  obtain ⟨hx, hb, hml, hr, hts, hown, hlk, hnm, hK, hH, hS, hn0, hz, hcm, hsm, hl⟩ := hc
  exact lv_sipush hx hb hd hv (kk n0 G cs p l e s m args below meth c H locs cells slots mc ms arr hc0)
theorem zw_ldc {y : MI} {d k n pc : Nat} {ls : List (Option AV)} {stk : List AV} {sh sh' : Sh} {C C' : Mem} {r : Option AV} {idx : Nat} {v : Int32} (hd : decode y.2.1 pc = .ok (.ldc idx, 2)) (hw : Cond.constant y.1.cls idx v ∈ zWS) (kk : WP y d k n (pc + 2) ls (.inl v :: stk) sh C r sh' C') : WP y d k n pc ls stk sh C r sh' C' := by
  intro n0 G cs p l e s m args below meth c H locs cells slots mc ms arr hc
  have hc0 := hc
  obtain ⟨hx, hb, hml, hr, hts, hown, hlk, hnm, hK, hH, hS, hn0, hz, hcm, hsm, hl⟩ := hc
  exact lv_ldc hx hb hown (hts _ (List.mem_cons_of_mem _ hw)) hd (kk n0 G cs p l e s m args below meth c H locs cells slots mc ms arr hc0)
theorem zw_ldc_w {y : MI} {d k n pc : Nat} {ls : List (Option AV)} {stk : List AV} {sh sh' : Sh} {C C' : Mem} {r : Option AV} {idx : Nat} {v : Int32} (hd : decode y.2.1 pc = .ok (.ldc_w idx, 3)) (hw : Cond.constant y.1.cls idx v ∈ zWS) (kk : WP y d k n (pc + 3) ls (.inl v :: stk) sh C r sh' C') : WP y d k n pc ls stk sh C r sh' C' := by
  intro n0 G cs p l e s m args below meth c H locs cells slots mc ms arr hc
  have hc0 := hc
  obtain ⟨hx, hb, hml, hr, hts, hown, hlk, hnm, hK, hH, hS, hn0, hz, hcm, hsm, hl⟩ := hc
  exact lv_ldcw hx hb hown (hts _ (List.mem_cons_of_mem _ hw)) hd (kk n0 G cs p l e s m args below meth c H locs cells slots mc ms arr hc0)
theorem zw_iload {y : MI} {d k n pc : Nat} {ls : List (Option AV)} {stk : List AV} {sh sh' : Sh} {C C' : Mem} {r : Option AV} {i : Nat} {x : Int32} (hd : decode y.2.1 pc = .ok (.iload i, 2)) (hl0 : ls[i]? = some (some (.inl x))) (kk : WP y d k n (pc + 2) ls (.inl x :: stk) sh C r sh' C') : WP y d k n pc ls stk sh C r sh' C' := by
  intro n0 G cs p l e s m args below meth c H locs cells slots mc ms arr hc
  have hc0 := hc
  obtain ⟨hx, hb, hml, hr, hts, hown, hlk, hnm, hK, hH, hS, hn0, hz, hcm, hsm, hl⟩ := hc
  exact lv_iload hx hb hd (hl.2.2 _ _ hl0) (kk n0 G cs p l e s m args below meth c H locs cells slots mc ms arr hc0)
theorem zw_iload_n {y : MI} {d k n pc : Nat} {ls : List (Option AV)} {stk : List AV} {sh sh' : Sh} {C C' : Mem} {r : Option AV} {i : Fin 4} {x : Int32} (hd : decode y.2.1 pc = .ok (.iload_n i, 1)) (hl0 : ls[(i : Nat)]? = some (some (.inl x))) (kk : WP y d k n (pc + 1) ls (.inl x :: stk) sh C r sh' C') : WP y d k n pc ls stk sh C r sh' C' := by
  intro n0 G cs p l e s m args below meth c H locs cells slots mc ms arr hc
  have hc0 := hc
  obtain ⟨hx, hb, hml, hr, hts, hown, hlk, hnm, hK, hH, hS, hn0, hz, hcm, hsm, hl⟩ := hc
  exact lv_iload_n hx hb hd rfl (hl.2.2 _ _ hl0) (kk n0 G cs p l e s m args below meth c H locs cells slots mc ms arr hc0)
theorem zw_aload {y : MI} {d k n pc : Nat} {ls : List (Option AV)} {stk : List AV} {sh sh' : Sh} {C C' : Mem} {r : Option AV} {i : Nat} {t : Nat} (hd : decode y.2.1 pc = .ok (.aload i, 2)) (hl0 : ls[i]? = some (some (.inr (some t)))) (kk : WP y d k n (pc + 2) ls (.inr (some t) :: stk) sh C r sh' C') : WP y d k n pc ls stk sh C r sh' C' := by
  intro n0 G cs p l e s m args below meth c H locs cells slots mc ms arr hc
  have hc0 := hc
  obtain ⟨hx, hb, hml, hr, hts, hown, hlk, hnm, hK, hH, hS, hn0, hz, hcm, hsm, hl⟩ := hc
  exact lv_aload hx hb hd (hl.2.2 _ _ hl0) (kk n0 G cs p l e s m args below meth c H locs cells slots mc ms arr hc0)
theorem zw_aload_n {y : MI} {d k n pc : Nat} {ls : List (Option AV)} {stk : List AV} {sh sh' : Sh} {C C' : Mem} {r : Option AV} {i : Fin 4} {t : Nat} (hd : decode y.2.1 pc = .ok (.aload_n i, 1)) (hl0 : ls[(i : Nat)]? = some (some (.inr (some t)))) (kk : WP y d k n (pc + 1) ls (.inr (some t) :: stk) sh C r sh' C') : WP y d k n pc ls stk sh C r sh' C' := by
  intro n0 G cs p l e s m args below meth c H locs cells slots mc ms arr hc
  have hc0 := hc
  obtain ⟨hx, hb, hml, hr, hts, hown, hlk, hnm, hK, hH, hS, hn0, hz, hcm, hsm, hl⟩ := hc
  exact lv_aload_n hx hb hd rfl (hl.2.2 _ _ hl0) (kk n0 G cs p l e s m args below meth c H locs cells slots mc ms arr hc0)
theorem zw_istore {y : MI} {d k n pc : Nat} {ls : List (Option AV)} {stk : List AV} {sh sh' : Sh} {C C' : Mem} {r : Option AV} {i : Nat} {x : Int32} (hd : decode y.2.1 pc = .ok (.istore i, 2)) (hi : i < y.2.2.1) (kk : WP y d k n (pc + 2) (ls.set i (some (.inl x))) stk sh C r sh' C') : WP y d k n pc ls (.inl x :: stk) sh C r sh' C' := by
  intro n0 G cs p l e s m args below meth c H locs cells slots mc ms arr hc
  have hc0 := hc
  obtain ⟨hx, hb, hml, hr, hts, hown, hlk, hnm, hK, hH, hS, hn0, hz, hcm, hsm, hl⟩ := hc
  exact lv_istore hx hb hd (encL_has hl) hi rfl (fun arr1 hh => kk n0 G cs p l e s m args below meth c H locs cells slots mc ms arr1 ⟨hx, hb, hml, hr, hts, hown, hlk, hnm, hK, hH, hS, hn0, hz, hcm, hsm, LocOk.set hl (.inl x) hh⟩)
theorem zw_istore_n {y : MI} {d k n pc : Nat} {ls : List (Option AV)} {stk : List AV} {sh sh' : Sh} {C C' : Mem} {r : Option AV} {i : Fin 4} {x : Int32} (hd : decode y.2.1 pc = .ok (.istore_n i, 1)) (hi : (i : Nat) < y.2.2.1) (kk : WP y d k n (pc + 1) (ls.set (i : Nat) (some (.inl x))) stk sh C r sh' C') : WP y d k n pc ls (.inl x :: stk) sh C r sh' C' := by
  intro n0 G cs p l e s m args below meth c H locs cells slots mc ms arr hc
  have hc0 := hc
  obtain ⟨hx, hb, hml, hr, hts, hown, hlk, hnm, hK, hH, hS, hn0, hz, hcm, hsm, hl⟩ := hc
  exact lv_istore_n hx hb hd rfl (encL_has hl) hi rfl (fun arr1 hh => kk n0 G cs p l e s m args below meth c H locs cells slots mc ms arr1 ⟨hx, hb, hml, hr, hts, hown, hlk, hnm, hK, hH, hS, hn0, hz, hcm, hsm, LocOk.set hl (.inl x) hh⟩)
theorem zw_astore {y : MI} {d k n pc : Nat} {ls : List (Option AV)} {stk : List AV} {sh sh' : Sh} {C C' : Mem} {r : Option AV} {i : Nat} {t : Nat} (hd : decode y.2.1 pc = .ok (.astore i, 2)) (hi : i < y.2.2.1) (kk : WP y d k n (pc + 2) (ls.set i (some (.inr (some t)))) stk sh C r sh' C') : WP y d k n pc ls (.inr (some t) :: stk) sh C r sh' C' := by
  intro n0 G cs p l e s m args below meth c H locs cells slots mc ms arr hc
  have hc0 := hc
  obtain ⟨hx, hb, hml, hr, hts, hown, hlk, hnm, hK, hH, hS, hn0, hz, hcm, hsm, hl⟩ := hc
  exact lv_astore hx hb hd (encL_has hl) hi rfl (fun arr1 hh => kk n0 G cs p l e s m args below meth c H locs cells slots mc ms arr1 ⟨hx, hb, hml, hr, hts, hown, hlk, hnm, hK, hH, hS, hn0, hz, hcm, hsm, LocOk.set hl (.inr (some t)) hh⟩)
theorem zw_astore_n {y : MI} {d k n pc : Nat} {ls : List (Option AV)} {stk : List AV} {sh sh' : Sh} {C C' : Mem} {r : Option AV} {i : Fin 4} {t : Nat} (hd : decode y.2.1 pc = .ok (.astore_n i, 1)) (hi : (i : Nat) < y.2.2.1) (kk : WP y d k n (pc + 1) (ls.set (i : Nat) (some (.inr (some t)))) stk sh C r sh' C') : WP y d k n pc ls (.inr (some t) :: stk) sh C r sh' C' := by
  intro n0 G cs p l e s m args below meth c H locs cells slots mc ms arr hc
  have hc0 := hc
  obtain ⟨hx, hb, hml, hr, hts, hown, hlk, hnm, hK, hH, hS, hn0, hz, hcm, hsm, hl⟩ := hc
  exact lv_astore_n hx hb hd rfl (encL_has hl) hi rfl (fun arr1 hh => kk n0 G cs p l e s m args below meth c H locs cells slots mc ms arr1 ⟨hx, hb, hml, hr, hts, hown, hlk, hnm, hK, hH, hS, hn0, hz, hcm, hsm, LocOk.set hl (.inr (some t)) hh⟩)
theorem zw_iinc {y : MI} {d k n pc : Nat} {ls : List (Option AV)} {stk : List AV} {sh sh' : Sh} {C C' : Mem} {r : Option AV} {i : Nat} {z : Int} {x v : Int32} (hd : decode y.2.1 pc = .ok (.iinc i z, 3)) (hl0 : ls[i]? = some (some (.inl x))) (hv : x + Int32.ofInt z = v) (hi : i < y.2.2.1) (kk : WP y d k n (pc + 3) (ls.set i (some (.inl v))) stk sh C r sh' C') : WP y d k n pc ls stk sh C r sh' C' := by
  intro n0 G cs p l e s m args below meth c H locs cells slots mc ms arr hc
  have hc0 := hc
  obtain ⟨hx, hb, hml, hr, hts, hown, hlk, hnm, hK, hH, hS, hn0, hz, hcm, hsm, hl⟩ := hc
  obtain ⟨k9, hk9⟩ := encL_at (n0 := n0) hl0
  exact lv_iinc hx hb hd (encL_has hl) hk9 hv hi rfl (fun arr1 hh => kk n0 G cs p l e s m args below meth c H locs cells slots mc ms arr1 ⟨hx, hb, hml, hr, hts, hown, hlk, hnm, hK, hH, hS, hn0, hz, hcm, hsm, LocOk.set hl (.inl v) hh⟩)
theorem zw_dup {y : MI} {d k n pc : Nat} {ls : List (Option AV)} {stk : List AV} {sh sh' : Sh} {C C' : Mem} {r : Option AV} {v : AV} (hd : decode y.2.1 pc = .ok (.dup, 1)) (kk : WP y d k n (pc + 1) ls (v :: v :: stk) sh C r sh' C') : WP y d k n pc ls (v :: stk) sh C r sh' C' := by
  intro n0 G cs p l e s m args below meth c H locs cells slots mc ms arr hc
  have hc0 := hc
  obtain ⟨hx, hb, hml, hr, hts, hown, hlk, hnm, hK, hH, hS, hn0, hz, hcm, hsm, hl⟩ := hc
  exact lv_dup hx hb hd (rv_cat n0 v) (kk n0 G cs p l e s m args below meth c H locs cells slots mc ms arr hc0)
theorem zw_dup2 {y : MI} {d k n pc : Nat} {ls : List (Option AV)} {stk : List AV} {sh sh' : Sh} {C C' : Mem} {r : Option AV} {v w : AV} (hd : decode y.2.1 pc = .ok (.dup2, 1)) (kk : WP y d k n (pc + 1) ls (v :: w :: v :: w :: stk) sh C r sh' C') : WP y d k n pc ls (v :: w :: stk) sh C r sh' C' := by
  intro n0 G cs p l e s m args below meth c H locs cells slots mc ms arr hc
  have hc0 := hc
  obtain ⟨hx, hb, hml, hr, hts, hown, hlk, hnm, hK, hH, hS, hn0, hz, hcm, hsm, hl⟩ := hc
  exact lv_dup2_11 hx hb hd (rv_cat n0 v) (rv_cat n0 w) (kk n0 G cs p l e s m args below meth c H locs cells slots mc ms arr hc0)
theorem zw_pop {y : MI} {d k n pc : Nat} {ls : List (Option AV)} {stk : List AV} {sh sh' : Sh} {C C' : Mem} {r : Option AV} {v : AV} (hd : decode y.2.1 pc = .ok (.pop, 1)) (kk : WP y d k n (pc + 1) ls stk sh C r sh' C') : WP y d k n pc ls (v :: stk) sh C r sh' C' := by
  intro n0 G cs p l e s m args below meth c H locs cells slots mc ms arr hc
  have hc0 := hc
  obtain ⟨hx, hb, hml, hr, hts, hown, hlk, hnm, hK, hH, hS, hn0, hz, hcm, hsm, hl⟩ := hc
  exact lv_pop hx hb hd (rv_cat n0 v) (kk n0 G cs p l e s m args below meth c H locs cells slots mc ms arr hc0)
theorem zw_goto {y : MI} {d k n pc : Nat} {ls : List (Option AV)} {stk : List AV} {sh sh' : Sh} {C C' : Mem} {r : Option AV} {off : Int} {tgt : Nat} (hd : decode y.2.1 pc = .ok (.goto off, 3)) (ht : (pc : Int) + off = (tgt : Int)) (kk : WP y d k n tgt ls stk sh C r sh' C') : WP y d k n pc ls stk sh C r sh' C' := by
  intro n0 G cs p l e s m args below meth c H locs cells slots mc ms arr hc
  have hc0 := hc
  obtain ⟨hx, hb, hml, hr, hts, hown, hlk, hnm, hK, hH, hS, hn0, hz, hcm, hsm, hl⟩ := hc
  exact lv_goto hx hb hd ht (kk n0 G cs p l e s m args below meth c H locs cells slots mc ms arr hc0)
theorem zw_icmp_eq {y : MI} {d k n pc : Nat} {ls : List (Option AV)} {stk : List AV} {sh sh' : Sh} {C C' : Mem} {r : Option AV} {x z : Int32} {off : Int} {tgt : Nat} (hd : decode y.2.1 pc = .ok (.if_icmp .eq off, 3)) (ht : (pc : Int) + off = (tgt : Int)) (kt : x = z → WP y d k n tgt ls stk sh C r sh' C') (kf : ¬ x = z → WP y d k n (pc + 3) ls stk sh C r sh' C') : WP y d k n pc ls (.inl z :: .inl x :: stk) sh C r sh' C' := by
  intro n0 G cs p l e s m args below meth c H locs cells slots mc ms arr hc
  have hc0 := hc
  obtain ⟨hx, hb, hml, hr, hts, hown, hlk, hnm, hK, hH, hS, hn0, hz, hcm, hsm, hl⟩ := hc
  exact lv_icmp_eq hx hb hd ht (fun q => kt q n0 G cs p l e s m args below meth c H locs cells slots mc ms arr hc0) (fun q => kf q n0 G cs p l e s m args below meth c H locs cells slots mc ms arr hc0)
theorem zw_if_eq {y : MI} {d k n pc : Nat} {ls : List (Option AV)} {stk : List AV} {sh sh' : Sh} {C C' : Mem} {r : Option AV} {x : Int32} {off : Int} {tgt : Nat} (hd : decode y.2.1 pc = .ok (.ifCond .eq off, 3)) (ht : (pc : Int) + off = (tgt : Int)) (kt : x = 0 → WP y d k n tgt ls stk sh C r sh' C') (kf : ¬ x = 0 → WP y d k n (pc + 3) ls stk sh C r sh' C') : WP y d k n pc ls (.inl x :: stk) sh C r sh' C' := by
  intro n0 G cs p l e s m args below meth c H locs cells slots mc ms arr hc
  have hc0 := hc
  obtain ⟨hx, hb, hml, hr, hts, hown, hlk, hnm, hK, hH, hS, hn0, hz, hcm, hsm, hl⟩ := hc
  exact lv_if_eq hx hb hd ht (fun q => kt q n0 G cs p l e s m args below meth c H locs cells slots mc ms arr hc0) (fun q => kf q n0 G cs p l e s m args below meth c H locs cells slots mc ms arr hc0)
theorem zw_icmp_ne {y : MI} {d k n pc : Nat} {ls : List (Option AV)} {stk : List AV} {sh sh' : Sh} {C C' : Mem} {r : Option AV} {x z : Int32} {off : Int} {tgt : Nat} (hd : decode y.2.1 pc = .ok (.if_icmp .ne off, 3)) (ht : (pc : Int) + off = (tgt : Int)) (kt : ¬ x = z → WP y d k n tgt ls stk sh C r sh' C') (kf : x = z → WP y d k n (pc + 3) ls stk sh C r sh' C') : WP y d k n pc ls (.inl z :: .inl x :: stk) sh C r sh' C' := by
  intro n0 G cs p l e s m args below meth c H locs cells slots mc ms arr hc
  have hc0 := hc
  obtain ⟨hx, hb, hml, hr, hts, hown, hlk, hnm, hK, hH, hS, hn0, hz, hcm, hsm, hl⟩ := hc
  exact lv_icmp_ne hx hb hd ht (fun q => kt q n0 G cs p l e s m args below meth c H locs cells slots mc ms arr hc0) (fun q => kf q n0 G cs p l e s m args below meth c H locs cells slots mc ms arr hc0)
theorem zw_if_ne {y : MI} {d k n pc : Nat} {ls : List (Option AV)} {stk : List AV} {sh sh' : Sh} {C C' : Mem} {r : Option AV} {x : Int32} {off : Int} {tgt : Nat} (hd : decode y.2.1 pc = .ok (.ifCond .ne off, 3)) (ht : (pc : Int) + off = (tgt : Int)) (kt : ¬ x = 0 → WP y d k n tgt ls stk sh C r sh' C') (kf : x = 0 → WP y d k n (pc + 3) ls stk sh C r sh' C') : WP y d k n pc ls (.inl x :: stk) sh C r sh' C' := by
  intro n0 G cs p l e s m args below meth c H locs cells slots mc ms arr hc
  have hc0 := hc
  obtain ⟨hx, hb, hml, hr, hts, hown, hlk, hnm, hK, hH, hS, hn0, hz, hcm, hsm, hl⟩ := hc
  exact lv_if_ne hx hb hd ht (fun q => kt q n0 G cs p l e s m args below meth c H locs cells slots mc ms arr hc0) (fun q => kf q n0 G cs p l e s m args below meth c H locs cells slots mc ms arr hc0)
theorem zw_icmp_lt {y : MI} {d k n pc : Nat} {ls : List (Option AV)} {stk : List AV} {sh sh' : Sh} {C C' : Mem} {r : Option AV} {x z : Int32} {off : Int} {tgt : Nat} (hd : decode y.2.1 pc = .ok (.if_icmp .lt off, 3)) (ht : (pc : Int) + off = (tgt : Int)) (kt : x < z → WP y d k n tgt ls stk sh C r sh' C') (kf : ¬ x < z → WP y d k n (pc + 3) ls stk sh C r sh' C') : WP y d k n pc ls (.inl z :: .inl x :: stk) sh C r sh' C' := by
  intro n0 G cs p l e s m args below meth c H locs cells slots mc ms arr hc
  have hc0 := hc
  obtain ⟨hx, hb, hml, hr, hts, hown, hlk, hnm, hK, hH, hS, hn0, hz, hcm, hsm, hl⟩ := hc
  exact lv_icmp_lt hx hb hd ht (fun q => kt q n0 G cs p l e s m args below meth c H locs cells slots mc ms arr hc0) (fun q => kf q n0 G cs p l e s m args below meth c H locs cells slots mc ms arr hc0)
theorem zw_if_lt {y : MI} {d k n pc : Nat} {ls : List (Option AV)} {stk : List AV} {sh sh' : Sh} {C C' : Mem} {r : Option AV} {x : Int32} {off : Int} {tgt : Nat} (hd : decode y.2.1 pc = .ok (.ifCond .lt off, 3)) (ht : (pc : Int) + off = (tgt : Int)) (kt : x < 0 → WP y d k n tgt ls stk sh C r sh' C') (kf : ¬ x < 0 → WP y d k n (pc + 3) ls stk sh C r sh' C') : WP y d k n pc ls (.inl x :: stk) sh C r sh' C' := by
  intro n0 G cs p l e s m args below meth c H locs cells slots mc ms arr hc
  have hc0 := hc
  obtain ⟨hx, hb, hml, hr, hts, hown, hlk, hnm, hK, hH, hS, hn0, hz, hcm, hsm, hl⟩ := hc
  exact lv_if_lt hx hb hd ht (fun q => kt q n0 G cs p l e s m args below meth c H locs cells slots mc ms arr hc0) (fun q => kf q n0 G cs p l e s m args below meth c H locs cells slots mc ms arr hc0)
theorem zw_icmp_ge {y : MI} {d k n pc : Nat} {ls : List (Option AV)} {stk : List AV} {sh sh' : Sh} {C C' : Mem} {r : Option AV} {x z : Int32} {off : Int} {tgt : Nat} (hd : decode y.2.1 pc = .ok (.if_icmp .ge off, 3)) (ht : (pc : Int) + off = (tgt : Int)) (kt : ¬ x < z → WP y d k n tgt ls stk sh C r sh' C') (kf : x < z → WP y d k n (pc + 3) ls stk sh C r sh' C') : WP y d k n pc ls (.inl z :: .inl x :: stk) sh C r sh' C' := by
  intro n0 G cs p l e s m args below meth c H locs cells slots mc ms arr hc
  have hc0 := hc
  obtain ⟨hx, hb, hml, hr, hts, hown, hlk, hnm, hK, hH, hS, hn0, hz, hcm, hsm, hl⟩ := hc
  exact lv_icmp_ge hx hb hd ht (fun q => kt (Int32.not_lt.mpr q) n0 G cs p l e s m args below meth c H locs cells slots mc ms arr hc0) (fun q => kf (Int32.not_le.mp q) n0 G cs p l e s m args below meth c H locs cells slots mc ms arr hc0)
theorem zw_if_ge {y : MI} {d k n pc : Nat} {ls : List (Option AV)} {stk : List AV} {sh sh' : Sh} {C C' : Mem} {r : Option AV} {x : Int32} {off : Int} {tgt : Nat} (hd : decode y.2.1 pc = .ok (.ifCond .ge off, 3)) (ht : (pc : Int) + off = (tgt : Int)) (kt : ¬ x < 0 → WP y d k n tgt ls stk sh C r sh' C') (kf : x < 0 → WP y d k n (pc + 3) ls stk sh C r sh' C') : WP y d k n pc ls (.inl x :: stk) sh C r sh' C' := by
  intro n0 G cs p l e s m args below meth c H locs cells slots mc ms arr hc
  have hc0 := hc
  obtain ⟨hx, hb, hml, hr, hts, hown, hlk, hnm, hK, hH, hS, hn0, hz, hcm, hsm, hl⟩ := hc
  exact lv_if_ge hx hb hd ht (fun q => kt (Int32.not_lt.mpr q) n0 G cs p l e s m args below meth c H locs cells slots mc ms arr hc0) (fun q => kf (Int32.not_le.mp q) n0 G cs p l e s m args below meth c H locs cells slots mc ms arr hc0)
theorem zw_icmp_gt {y : MI} {d k n pc : Nat} {ls : List (Option AV)} {stk : List AV} {sh sh' : Sh} {C C' : Mem} {r : Option AV} {x z : Int32} {off : Int} {tgt : Nat} (hd : decode y.2.1 pc = .ok (.if_icmp .gt off, 3)) (ht : (pc : Int) + off = (tgt : Int)) (kt : z < x → WP y d k n tgt ls stk sh C r sh' C') (kf : ¬ z < x → WP y d k n (pc + 3) ls stk sh C r sh' C') : WP y d k n pc ls (.inl z :: .inl x :: stk) sh C r sh' C' := by
  intro n0 G cs p l e s m args below meth c H locs cells slots mc ms arr hc
  have hc0 := hc
  obtain ⟨hx, hb, hml, hr, hts, hown, hlk, hnm, hK, hH, hS, hn0, hz, hcm, hsm, hl⟩ := hc
  exact lv_icmp_gt hx hb hd ht (fun q => kt q n0 G cs p l e s m args below meth c H locs cells slots mc ms arr hc0) (fun q => kf q n0 G cs p l e s m args below meth c H locs cells slots mc ms arr hc0)
theorem zw_if_gt {y : MI} {d k n pc : Nat} {ls : List (Option AV)} {stk : List AV} {sh sh' : Sh} {C C' : Mem} {r : Option AV} {x : Int32} {off : Int} {tgt : Nat} (hd : decode y.2.1 pc = .ok (.ifCond .gt off, 3)) (ht : (pc : Int) + off = (tgt : Int)) (kt : 0 < x → WP y d k n tgt ls stk sh C r sh' C') (kf : ¬ 0 < x → WP y d k n (pc + 3) ls stk sh C r sh' C') : WP y d k n pc ls (.inl x :: stk) sh C r sh' C' := by
  intro n0 G cs p l e s m args below meth c H locs cells slots mc ms arr hc
  have hc0 := hc
  obtain ⟨hx, hb, hml, hr, hts, hown, hlk, hnm, hK, hH, hS, hn0, hz, hcm, hsm, hl⟩ := hc
  exact lv_if_gt hx hb hd ht (fun q => kt q n0 G cs p l e s m args below meth c H locs cells slots mc ms arr hc0) (fun q => kf q n0 G cs p l e s m args below meth c H locs cells slots mc ms arr hc0)
theorem zw_icmp_le {y : MI} {d k n pc : Nat} {ls : List (Option AV)} {stk : List AV} {sh sh' : Sh} {C C' : Mem} {r : Option AV} {x z : Int32} {off : Int} {tgt : Nat} (hd : decode y.2.1 pc = .ok (.if_icmp .le off, 3)) (ht : (pc : Int) + off = (tgt : Int)) (kt : ¬ z < x → WP y d k n tgt ls stk sh C r sh' C') (kf : z < x → WP y d k n (pc + 3) ls stk sh C r sh' C') : WP y d k n pc ls (.inl z :: .inl x :: stk) sh C r sh' C' := by
  intro n0 G cs p l e s m args below meth c H locs cells slots mc ms arr hc
  have hc0 := hc
  obtain ⟨hx, hb, hml, hr, hts, hown, hlk, hnm, hK, hH, hS, hn0, hz, hcm, hsm, hl⟩ := hc
  exact lv_icmp_le hx hb hd ht (fun q => kt (Int32.not_lt.mpr q) n0 G cs p l e s m args below meth c H locs cells slots mc ms arr hc0) (fun q => kf (Int32.not_le.mp q) n0 G cs p l e s m args below meth c H locs cells slots mc ms arr hc0)
theorem zw_if_le {y : MI} {d k n pc : Nat} {ls : List (Option AV)} {stk : List AV} {sh sh' : Sh} {C C' : Mem} {r : Option AV} {x : Int32} {off : Int} {tgt : Nat} (hd : decode y.2.1 pc = .ok (.ifCond .le off, 3)) (ht : (pc : Int) + off = (tgt : Int)) (kt : ¬ 0 < x → WP y d k n tgt ls stk sh C r sh' C') (kf : 0 < x → WP y d k n (pc + 3) ls stk sh C r sh' C') : WP y d k n pc ls (.inl x :: stk) sh C r sh' C' := by
  intro n0 G cs p l e s m args below meth c H locs cells slots mc ms arr hc
  have hc0 := hc
  obtain ⟨hx, hb, hml, hr, hts, hown, hlk, hnm, hK, hH, hS, hn0, hz, hcm, hsm, hl⟩ := hc
  exact lv_if_le hx hb hd ht (fun q => kt (Int32.not_lt.mpr q) n0 G cs p l e s m args below meth c H locs cells slots mc ms arr hc0) (fun q => kf (Int32.not_le.mp q) n0 G cs p l e s m args below meth c H locs cells slots mc ms arr hc0)
theorem zw_tswIn {y : MI} {d k n pc : Nat} {ls : List (Option AV)} {stk : List AV} {sh sh' : Sh} {C C' : Mem} {r : Option AV} {dflt lo hi : Int} {offs : Array Int} {len : Nat} {x : Int32} {off : Int} {tgt : Nat} (hd : decode y.2.1 pc = .ok (.tableswitch dflt lo hi offs, len)) (h1 : ¬ x.toInt < lo) (h2 : ¬ hi < x.toInt) (ho : offs[(x.toInt - lo).toNat]? = some off) (ht : (pc : Int) + off = (tgt : Int)) (kk : WP y d k n tgt ls stk sh C r sh' C') : WP y d k n pc ls (.inl x :: stk) sh C r sh' C' := by
  intro n0 G cs p l e s m args below meth c H locs cells slots mc ms arr hc
  have hc0 := hc
  obtain ⟨hx, hb, hml, hr, hts, hown, hlk, hnm, hK, hH, hS, hn0, hz, hcm, hsm, hl⟩ := hc
  exact lv_tableIn hx hb hd h1 h2 ho ht (kk n0 G cs p l e s m args below meth c H locs cells slots mc ms arr hc0)
theorem zw_tswOut {y : MI} {d k n pc : Nat} {ls : List (Option AV)} {stk : List AV} {sh sh' : Sh} {C C' : Mem} {r : Option AV} {dflt lo hi : Int} {offs : Array Int} {len : Nat} {x : Int32} {tgt : Nat} (hd : decode y.2.1 pc = .ok (.tableswitch dflt lo hi offs, len)) (h : x.toInt < lo ∨ hi < x.toInt) (ht : (pc : Int) + dflt = (tgt : Int)) (kk : WP y d k n tgt ls stk sh C r sh' C') : WP y d k n pc ls (.inl x :: stk) sh C r sh' C' := by
  intro n0 G cs p l e s m args below meth c H locs cells slots mc ms arr hc
  have hc0 := hc
  obtain ⟨hx, hb, hml, hr, hts, hown, hlk, hnm, hK, hH, hS, hn0, hz, hcm, hsm, hl⟩ := hc
  exact lv_tableOut hx hb hd h ht (kk n0 G cs p l e s m args below meth c H locs cells slots mc ms arr hc0)
theorem zw_getI {y : MI} {d k n pc : Nat} {ls : List (Option AV)} {stk : List AV} {sh sh' : Sh} {C C' : Mem} {r : Option AV} {i j kd idx : Nat} (hd : decode y.2.1 pc = .ok (.getfield idx, 3)) (hi : i < sh.1) (hk : sh.2.1 i = kd) (hkd : kd < 5) (hj : j < nF kd) (hw : Cond.fieldLink y.1.cls idx (TK kd j).1 (TK kd j).2.1 (TK kd j).2.2.1 ∈ zWS) (hf : rF kd j = false) (kk : WP y d k n (pc + 3) ls (.inl (C i j) :: stk) sh C r sh' C') : WP y d k n pc ls (.inr (some i) :: stk) sh C r sh' C' := by
  intro n0 G cs p l e s m args below meth c H locs cells slots mc ms arr hc
  have hc0 := hc
  obtain ⟨hx, hb, hml, hr, hts, hown, hlk, hnm, hK, hH, hS, hn0, hz, hcm, hsm, hl⟩ := hc
  have hat : (wsl n0 cs sh C)[i]? = some (n0 + i, .inr (kd, flds n0 kd (C i) (sh.2.2.2 i))) := by
    rw [wsl_at hi, entS, ent_obj (by rw [hk]; exact hkd), hk]
  exact va_get (D := G) (tys := tysOf cs) (C := RK kd) (T := TK kd) (N := nF kd) (v := .int (C i j)) hx hb hts (fun w h => List.mem_cons_of_mem _ (K_in hkd w h)) hown hK.1 hH i hat (K_cl hkd) j hj (hts _ (List.mem_cons_of_mem _ hw)) (fun _ h9 => h9) (by rw [flds_at hj, hf]; rfl) hd (kk n0 G cs p l e s m args below meth c H locs cells slots mc ms arr hc0)
theorem zw_getR {y : MI} {d k n pc : Nat} {ls : List (Option AV)} {stk : List AV} {sh sh' : Sh} {C C' : Mem} {r : Option AV} {i j kd idx t : Nat} (hd : decode y.2.1 pc = .ok (.getfield idx, 3)) (hi : i < sh.1) (hk : sh.2.1 i = kd) (hkd : kd < 5) (hj : j < nF kd) (hw : Cond.fieldLink y.1.cls idx (TK kd j).1 (TK kd j).2.1 (TK kd j).2.2.1 ∈ zWS) (hf : rF kd j = true) (ht : sh.2.2.2 i j = some t) (kk : WP y d k n (pc + 3) ls (.inr (some t) :: stk) sh C r sh' C') : WP y d k n pc ls (.inr (some i) :: stk) sh C r sh' C' := by
  intro n0 G cs p l e s m args below meth c H locs cells slots mc ms arr hc
  have hc0 := hc
  obtain ⟨hx, hb, hml, hr, hts, hown, hlk, hnm, hK, hH, hS, hn0, hz, hcm, hsm, hl⟩ := hc
  have hat : (wsl n0 cs sh C)[i]? = some (n0 + i, .inr (kd, flds n0 kd (C i) (sh.2.2.2 i))) := by
    rw [wsl_at hi, entS, ent_obj (by rw [hk]; exact hkd), hk]
  exact va_get (D := G) (tys := tysOf cs) (C := RK kd) (T := TK kd) (N := nF kd) (v := .ref (n0 + t)) hx hb hts (fun w h => List.mem_cons_of_mem _ (K_in hkd w h)) hown hK.1 hH i hat (K_cl hkd) j hj (hts _ (List.mem_cons_of_mem _ hw)) (fun _ h9 => h9) (by rw [flds_at hj, hf, ht]; rfl) hd (kk n0 G cs p l e s m args below meth c H locs cells slots mc ms arr hc0)
theorem pd_I : parseFieldDescriptor "I" = some .int := by decide +kernel
theorem pd_Z : parseFieldDescriptor "Z" = some .boolean := by decide +kernel
theorem zw_putI {y : MI} {d k n pc : Nat} {ls : List (Option AV)} {stk : List AV} {sh sh' : Sh} {C C' : Mem} {r : Option AV} {i j kd idx : Nat} {x : Int32} (hd : decode y.2.1 pc = .ok (.putfield idx, 3)) (hi : i < sh.1) (hk : sh.2.1 i = kd) (hkd : kd < 5) (hj : j < nF kd) (hw : Cond.fieldLink y.1.cls idx (TK kd j).1 (TK kd j).2.1 (TK kd j).2.2.1 ∈ zWS) (hf : rF kd j = false) (hds : (TK kd j).2.2.1 = "I") (hfn : (TK kd j).2.2.2 = false) (kk : WP y d k n (pc + 3) ls stk sh (up C i j x) r sh' C') : WP y d k n pc ls (.inl x :: .inr (some i) :: stk) sh C r sh' C' := by
  intro n0 G cs p l e s m args below meth c H locs cells slots mc ms arr hc
  have hc0 := hc
  obtain ⟨hx, hb, hml, hr, hts, hown, hlk, hnm, hK, hH, hS, hn0, hz, hcm, hsm, hl⟩ := hc
  have hat : (wsl n0 cs sh C)[i]? = some (n0 + i, .inr (kd, flds n0 kd (C i) (sh.2.2.2 i))) := by
    rw [wsl_at hi, entS, ent_obj (by rw [hk]; exact hkd), hk]
  have hset : (wsl n0 cs sh C).set i (n0 + i, .inr (kd, (flds n0 kd (C i) (sh.2.2.2 i)).set j (.int x))) = wsl n0 cs sh (up C i j x) := by
    refine wsl_set hi rfl ?_ (fun b hb => ?_)
    · show ent n0 cs (sh.2.1 i) (sh.2.2.1 i) _ _ = _
      rw [ent_obj (by rw [hk]; exact hkd), hk]
      congr 2
      exact (flds_set hj (by rw [hf]; simp [fv, up, upd, setR, va_rf]) (fun b hb => by simp [up, upd, setR, hb])).symm
    · simp [entS, up, setR, hb]
  exact va_put (D := G) (tys := tysOf cs) (C := RK kd) (T := TK kd) (N := nF kd) (v := .int x) (ty := .int) hx hb hts (fun w h => List.mem_cons_of_mem _ (K_in hkd w h)) (tyK kd) (K_ty hkd) (K_nm hkd) hown hK.1 hH wsl_D hS i hat (K_cl hkd) j hj (hts _ (List.mem_cons_of_mem _ hw)) (fun _ h9 => h9) hfn (by rw [hds]; exact pd_I) rfl rfl (by rw [flds_len]; exact hj) hd (fun H1 locs1 hP1 _ hS1 => kk n0 G cs p l e s m args below meth c H1 locs1 cells slots mc ms arr ⟨hx, hb, hml, hr, hts, hown, hlk, hnm, hK, (show va_P G vwCl _ H1 by rw [← hset]; exact hP1), hS1, hn0, hz, hcm, hsm, hl⟩)
theorem zw_putZ {y : MI} {d k n pc : Nat} {ls : List (Option AV)} {stk : List AV} {sh sh' : Sh} {C C' : Mem} {r : Option AV} {i j kd idx : Nat} {x : Int32} (hd : decode y.2.1 pc = .ok (.putfield idx, 3)) (hi : i < sh.1) (hk : sh.2.1 i = kd) (hkd : kd < 5) (hj : j < nF kd) (hw : Cond.fieldLink y.1.cls idx (TK kd j).1 (TK kd j).2.1 (TK kd j).2.2.1 ∈ zWS) (hf : rF kd j = false) (hds : (TK kd j).2.2.1 = "Z") (hfn : (TK kd j).2.2.2 = false) (hxb : x = 0 ∨ x = 1) (kk : WP y d k n (pc + 3) ls stk sh (up C i j x) r sh' C') : WP y d k n pc ls (.inl x :: .inr (some i) :: stk) sh C r sh' C' := by
  intro n0 G cs p l e s m args below meth c H locs cells slots mc ms arr hc
  have hc0 := hc
  obtain ⟨hx, hb, hml, hr, hts, hown, hlk, hnm, hK, hH, hS, hn0, hz, hcm, hsm, hl⟩ := hc
  have hat : (wsl n0 cs sh C)[i]? = some (n0 + i, .inr (kd, flds n0 kd (C i) (sh.2.2.2 i))) := by
    rw [wsl_at hi, entS, ent_obj (by rw [hk]; exact hkd), hk]
  have hset : (wsl n0 cs sh C).set i (n0 + i, .inr (kd, (flds n0 kd (C i) (sh.2.2.2 i)).set j (.int x))) = wsl n0 cs sh (up C i j x) := by
    refine wsl_set hi rfl ?_ (fun b hb => ?_)
    · show ent n0 cs (sh.2.1 i) (sh.2.2.1 i) _ _ = _
      rw [ent_obj (by rw [hk]; exact hkd), hk]
      congr 2
      exact (flds_set hj (by rw [hf]; simp [fv, up, upd, setR, va_rf]) (fun b hb => by simp [up, upd, setR, hb])).symm
    · simp [entS, up, setR, hb]
  exact va_put (D := G) (tys := tysOf cs) (C := RK kd) (T := TK kd) (N := nF kd) (v := .int x) (ty := .boolean) hx hb hts (fun w h => List.mem_cons_of_mem _ (K_in hkd w h)) (tyK kd) (K_ty hkd) (K_nm hkd) hown hK.1 hH wsl_D hS i hat (K_cl hkd) j hj (hts _ (List.mem_cons_of_mem _ hw)) (fun _ h9 => h9) hfn (by rw [hds]; exact pd_Z) (by rcases hxb with rfl | rfl <;> rfl) (by rcases hxb with rfl | rfl <;> rfl) (by rw [flds_len]; exact hj) hd (fun H1 locs1 hP1 _ hS1 => kk n0 G cs p l e s m args below meth c H1 locs1 cells slots mc ms arr ⟨hx, hb, hml, hr, hts, hown, hlk, hnm, hK, (show va_P G vwCl _ H1 by rw [← hset]; exact hP1), hS1, hn0, hz, hcm, hsm, hl⟩)
theorem zw_putR {y : MI} {d k n pc : Nat} {ls : List (Option AV)} {stk : List AV} {sh sh' : Sh} {C C' : Mem} {r : Option AV} {i j kd idx t : Nat} (hd : decode y.2.1 pc = .ok (.putfield idx, 3)) (hi : i < sh.1) (hk : sh.2.1 i = kd) (hkd : kd < 5) (hj : j < nF kd) (hw : Cond.fieldLink y.1.cls idx (TK kd j).1 (TK kd j).2.1 (TK kd j).2.2.1 ∈ zWS) (hf : rF kd j = true) (hfn : (TK kd j).2.2.2 = true) (hnn : y.1.name = "<init>") (hde : (TK kd j).1 = y.1.cls) (hna : ∀ a, narrow (tyK kd j) (.ref a) = .ref a) (hfi : ∀ a, fits (tyK kd j) (.ref a) = true) (kk : WP y d k n (pc + 3) ls stk (setR sh i j (some t)) C r sh' C') : WP y d k n pc ls (.inr (some t) :: .inr (some i) :: stk) sh C r sh' C' := by
  intro n0 G cs p l e s m args below meth c H locs cells slots mc ms arr hc
  have hc0 := hc
  obtain ⟨hx, hb, hml, hr, hts, hown, hlk, hnm, hK, hH, hS, hn0, hz, hcm, hsm, hl⟩ := hc
  have hat : (wsl n0 cs sh C)[i]? = some (n0 + i, .inr (kd, flds n0 kd (C i) (sh.2.2.2 i))) := by
    rw [wsl_at hi, entS, ent_obj (by rw [hk]; exact hkd), hk]
  have hset : (wsl n0 cs sh C).set i (n0 + i, .inr (kd, (flds n0 kd (C i) (sh.2.2.2 i)).set j (.ref (n0 + t)))) = wsl n0 cs (setR sh i j (some t)) C := by
    refine wsl_set hi rfl ?_ (fun b hb => ?_)
    · show ent n0 cs (sh.2.1 i) (sh.2.2.1 i) _ _ = _
      rw [ent_obj (by rw [hk]; exact hkd), hk]
      congr 2
      exact (flds_set hj (by rw [hf]; simp [fv, up, upd, setR, va_rf]) (fun b hb => by simp [up, upd, setR, hb])).symm
    · simp [entS, up, setR, hb]
  exact va_putF (D := G) (tys := tysOf cs) (C := RK kd) (T := TK kd) (N := nF kd) (v := .ref (n0 + t)) (ty := tyK kd j) hx hb hts (fun w h => List.mem_cons_of_mem _ (K_in hkd w h)) (tyK kd) (K_ty hkd) (K_nm hkd) hown hK.1 hH wsl_D hS i hat (K_cl hkd) j hj (hts _ (List.mem_cons_of_mem _ hw)) (fun _ h9 => h9) hfn (hnm.trans hnn) hde (K_ty hkd j hj) (hna _) (hfi _) (by rw [flds_len]; exact hj) hd (fun H1 locs1 hP1 _ hS1 => kk n0 G cs p l e s m args below meth c H1 locs1 cells slots mc ms arr ⟨hx, hb, hml, hr, hts, hown, hlk, hnm, hK, (show va_P G vwCl _ H1 by rw [← hset]; exact hP1), hS1, hn0, hz, hcm, hsm, hl⟩)
theorem zw_iald {y : MI} {d k n pc : Nat} {ls : List (Option AV)} {stk : List AV} {sh sh' : Sh} {C C' : Mem} {r : Option AV} {a j : Nat} {x : Int32} (hd : decode y.2.1 pc = .ok (.iaload, 1)) (hi : a < sh.1) (hk : sh.2.1 a = 6) (hL : sh.2.2.1 a < 2 ^ 31) (hxj : x = nI j) (hj : j < sh.2.2.1 a) (kk : WP y d k n (pc + 1) ls (.inl (C a j) :: stk) sh C r sh' C') : WP y d k n pc ls (.inl x :: .inr (some a) :: stk) sh C r sh' C' := by
  intro n0 G cs p l e s m args below meth c H locs cells slots mc ms arr hc
  have hc0 := hc
  obtain ⟨hx, hb, hml, hr, hts, hown, hlk, hnm, hK, hH, hS, hn0, hz, hcm, hsm, hl⟩ := hc
  have hat : (wsl n0 cs sh C)[a]? = some (n0 + a, .inl (cs.1, sh.2.2.1 a, .inl (C a))) := by
    rw [wsl_at hi, entS, ent_int hk]
  subst hxj
  refine va_iald (D := G) (tys := tysOf cs) hx hb hK.1 hH a 0 hat rfl (vp_in_nI hj hL) hd ?_
  rw [nI_clamp (by omega)]
  exact (kk n0 G cs p l e s m args below meth c H locs cells slots mc ms arr hc0)
theorem zw_iast {y : MI} {d k n pc : Nat} {ls : List (Option AV)} {stk : List AV} {sh sh' : Sh} {C C' : Mem} {r : Option AV} {a j : Nat} {x v : Int32} (hd : decode y.2.1 pc = .ok (.iastore, 1)) (hi : a < sh.1) (hk : sh.2.1 a = 6) (hL : sh.2.2.1 a < 2 ^ 31) (hxj : x = nI j) (hj : j < sh.2.2.1 a) (kk : WP y d k n (pc + 1) ls stk sh (up C a j v) r sh' C') : WP y d k n pc ls (.inl v :: .inl x :: .inr (some a) :: stk) sh C r sh' C' := by
  intro n0 G cs p l e s m args below meth c H locs cells slots mc ms arr hc
  have hc0 := hc
  obtain ⟨hx, hb, hml, hr, hts, hown, hlk, hnm, hK, hH, hS, hn0, hz, hcm, hsm, hl⟩ := hc
  have hat : (wsl n0 cs sh C)[a]? = some (n0 + a, .inl (cs.1, sh.2.2.1 a, .inl (C a))) := by
    rw [wsl_at hi, entS, ent_int hk]
  subst hxj
  have hset : (wsl n0 cs sh C).set a (n0 + a, .inl (cs.1, sh.2.2.1 a, .inl (upd (C a) (nI j).toNatClampNeg v))) = wsl n0 cs sh (up C a j v) := by
    refine wsl_set hi rfl ?_ (fun b hb => ?_)
    · rw [entS, ent_int hk, nI_clamp (by omega)]
      simp [up]
    · simp [entS, up, hb]
  exact va_iast (D := G) (tys := tysOf cs) hx hb hK.1 hH wsl_D hS a 0 hat rfl (vp_in_nI hj hL) hd (fun H1 locs1 hP1 _ hS1 => kk n0 G cs p l e s m args below meth c H1 locs1 cells slots mc ms arr ⟨hx, hb, hml, hr, hts, hown, hlk, hnm, hK, (show va_P G vwCl _ H1 by rw [← hset]; exact hP1), hS1, hn0, hz, hcm, hsm, hl⟩)
theorem zw_alen {y : MI} {d k n pc : Nat} {ls : List (Option AV)} {stk : List AV} {sh sh' : Sh} {C C' : Mem} {r : Option AV} {a : Nat} (hd : decode y.2.1 pc = .ok (.arraylength, 1)) (hi : a < sh.1) (hk : sh.2.1 a = 6) (kk : WP y d k n (pc + 1) ls (.inl (nI (sh.2.2.1 a)) :: stk) sh C r sh' C') : WP y d k n pc ls (.inr (some a) :: stk) sh C r sh' C' := by
  intro n0 G cs p l e s m args below meth c H locs cells slots mc ms arr hc
  have hc0 := hc
  obtain ⟨hx, hb, hml, hr, hts, hown, hlk, hnm, hK, hH, hS, hn0, hz, hcm, hsm, hl⟩ := hc
  have hat : (wsl n0 cs sh C)[a]? = some (n0 + a, .inl (cs.1, sh.2.2.1 a, .inl (C a))) := by
    rw [wsl_at hi, entS, ent_int hk]
  exact va_alen (D := G) (tys := tysOf cs) hx hb hK.1 hH a 0 hat rfl rfl hd (kk n0 G cs p l e s m args below meth c H locs cells slots mc ms arr hc0)
theorem zw_aaldP {y : MI} {d k n pc : Nat} {ls : List (Option AV)} {stk : List AV} {sh sh' : Sh} {C C' : Mem} {r : Option AV} {a j t : Nat} {x : Int32} (hd : decode y.2.1 pc = .ok (.aaload, 1)) (hi : a < sh.1) (hk : sh.2.1 a = 7) (hL : sh.2.2.1 a < 2 ^ 31) (hxj : x = nI j) (hj : j < sh.2.2.1 a) (ht : sh.2.2.2 a j = some t) (kk : WP y d k n (pc + 1) ls (.inr (some t) :: stk) sh C r sh' C') : WP y d k n pc ls (.inl x :: .inr (some a) :: stk) sh C r sh' C' := by
  intro n0 G cs p l e s m args below meth c H locs cells slots mc ms arr hc
  have hc0 := hc
  obtain ⟨hx, hb, hml, hr, hts, hown, hlk, hnm, hK, hH, hS, hn0, hz, hcm, hsm, hl⟩ := hc
  have hat : (wsl n0 cs sh C)[a]? = some (n0 + a, .inl (cs.2.1, sh.2.2.1 a, .inr (.inr (.inr (.inr (fun j => (sh.2.2.2 a j).map (fun i => n0 + i))))))) := by
    rw [wsl_at hi, entS, ent_7 hk]
  subst hxj
  refine va_aldq (D := G) (tys := tysOf cs) hx hb hK.1 hH a 1 hat rfl (vp_in_nI hj hL) hd ?_
  rw [nI_clamp (by omega), ht]
  exact (kk n0 G cs p l e s m args below meth c H locs cells slots mc ms arr hc0)
theorem zw_aastP {y : MI} {d k n pc : Nat} {ls : List (Option AV)} {stk : List AV} {sh sh' : Sh} {C C' : Mem} {r : Option AV} {a j t : Nat} {x : Int32} (hd : decode y.2.1 pc = .ok (.aastore, 1)) (hi : a < sh.1) (hk : sh.2.1 a = 7) (hL : sh.2.2.1 a < 2 ^ 31) (hxj : x = nI j) (hj : j < sh.2.2.1 a) (ht : t < sh.1) (htk : sh.2.1 t = 1) (kk : WP y d k n (pc + 1) ls stk (setR sh a j (some t)) C r sh' C') : WP y d k n pc ls (.inr (some t) :: .inl x :: .inr (some a) :: stk) sh C r sh' C' := by
  intro n0 G cs p l e s m args below meth c H locs cells slots mc ms arr hc
  have hc0 := hc
  obtain ⟨hx, hb, hml, hr, hts, hown, hlk, hnm, hK, hH, hS, hn0, hz, hcm, hsm, hl⟩ := hc
  have hat : (wsl n0 cs sh C)[a]? = some (n0 + a, .inl (cs.2.1, sh.2.2.1 a, .inr (.inr (.inr (.inr (fun j => (sh.2.2.2 a j).map (fun i => n0 + i))))))) := by
    rw [wsl_at hi, entS, ent_7 hk]
  subst hxj
  have htt : (wsl n0 cs sh C)[t]? = some (n0 + t, .inr (1, flds n0 1 (C t) (sh.2.2.2 t))) := by
    rw [wsl_at ht, entS, ent_obj (by rw [htk]; decide), htk]
  have hset : (wsl n0 cs sh C).set a (n0 + a, .inl (cs.2.1, sh.2.2.1 a, .inr (.inr (.inr (.inr (va_up (fun j => (sh.2.2.2 a j).map (fun i => n0 + i)) (nI j).toNatClampNeg (some (n0 + t)))))))) = wsl n0 cs (setR sh a j (some t)) C := by
    refine wsl_set hi rfl ?_ (fun b hb => ?_)
    · have hfun : (fun b => ((setR sh a j (some t)).2.2.2 a b).map (fun i => n0 + i)) = va_up (fun j => (sh.2.2.2 a j).map (fun i => n0 + i)) j (some (n0 + t)) := by
        funext b
        by_cases hbj : b = j <;> simp [setR, va_up, hbj]
      show ent n0 cs (sh.2.1 a) (sh.2.2.1 a) _ _ = _
      rw [ent_7 hk, nI_clamp (by omega), ← hfun]
    · simp [entS, setR, hb]
  exact va_astq (D := G) (tys := tysOf cs) hx hb hK.1 hH wsl_D hS a 1 t 1 (r := (RK 1, TK 1, nF 1)) hat rfl htt (K_cl (by decide)) (vp_in_nI hj hL) hd (fun H1 locs1 hP1 _ hS1 => kk n0 G cs p l e s m args below meth c H1 locs1 cells slots mc ms arr ⟨hx, hb, hml, hr, hts, hown, hlk, hnm, hK, (show va_P G vwCl _ H1 by rw [← hset]; exact hP1), hS1, hn0, hz, hcm, hsm, hl⟩)
theorem zw_aaldS {y : MI} {d k n pc : Nat} {ls : List (Option AV)} {stk : List AV} {sh sh' : Sh} {C C' : Mem} {r : Option AV} {a j t : Nat} {x : Int32} (hd : decode y.2.1 pc = .ok (.aaload, 1)) (hi : a < sh.1) (hk : sh.2.1 a = 8) (hL : sh.2.2.1 a < 2 ^ 31) (hxj : x = nI j) (hj : j < sh.2.2.1 a) (ht : sh.2.2.2 a j = some t) (kk : WP y d k n (pc + 1) ls (.inr (some t) :: stk) sh C r sh' C') : WP y d k n pc ls (.inl x :: .inr (some a) :: stk) sh C r sh' C' := by
  intro n0 G cs p l e s m args below meth c H locs cells slots mc ms arr hc
  have hc0 := hc
  obtain ⟨hx, hb, hml, hr, hts, hown, hlk, hnm, hK, hH, hS, hn0, hz, hcm, hsm, hl⟩ := hc
  have hat : (wsl n0 cs sh C)[a]? = some (n0 + a, .inl (cs.2.2, sh.2.2.1 a, .inr (.inr (.inr (.inr (fun j => (sh.2.2.2 a j).map (fun i => n0 + i))))))) := by
    rw [wsl_at hi, entS, ent_8 hk]
  subst hxj
  refine va_aldq (D := G) (tys := tysOf cs) hx hb hK.1 hH a 2 hat rfl (vp_in_nI hj hL) hd ?_
  rw [nI_clamp (by omega), ht]
  exact (kk n0 G cs p l e s m args below meth c H locs cells slots mc ms arr hc0)
theorem zw_aastS {y : MI} {d k n pc : Nat} {ls : List (Option AV)} {stk : List AV} {sh sh' : Sh} {C C' : Mem} {r : Option AV} {a j t : Nat} {x : Int32} (hd : decode y.2.1 pc = .ok (.aastore, 1)) (hi : a < sh.1) (hk : sh.2.1 a = 8) (hL : sh.2.2.1 a < 2 ^ 31) (hxj : x = nI j) (hj : j < sh.2.2.1 a) (ht : t < sh.1) (htk : sh.2.1 t = 3) (kk : WP y d k n (pc + 1) ls stk (setR sh a j (some t)) C r sh' C') : WP y d k n pc ls (.inr (some t) :: .inl x :: .inr (some a) :: stk) sh C r sh' C' := by
  intro n0 G cs p l e s m args below meth c H locs cells slots mc ms arr hc
  have hc0 := hc
  obtain ⟨hx, hb, hml, hr, hts, hown, hlk, hnm, hK, hH, hS, hn0, hz, hcm, hsm, hl⟩ := hc
  have hat : (wsl n0 cs sh C)[a]? = some (n0 + a, .inl (cs.2.2, sh.2.2.1 a, .inr (.inr (.inr (.inr (fun j => (sh.2.2.2 a j).map (fun i => n0 + i))))))) := by
    rw [wsl_at hi, entS, ent_8 hk]
  subst hxj
  have htt : (wsl n0 cs sh C)[t]? = some (n0 + t, .inr (3, flds n0 3 (C t) (sh.2.2.2 t))) := by
    rw [wsl_at ht, entS, ent_obj (by rw [htk]; decide), htk]
  have hset : (wsl n0 cs sh C).set a (n0 + a, .inl (cs.2.2, sh.2.2.1 a, .inr (.inr (.inr (.inr (va_up (fun j => (sh.2.2.2 a j).map (fun i => n0 + i)) (nI j).toNatClampNeg (some (n0 + t)))))))) = wsl n0 cs (setR sh a j (some t)) C := by
    refine wsl_set hi rfl ?_ (fun b hb => ?_)
    · have hfun : (fun b => ((setR sh a j (some t)).2.2.2 a b).map (fun i => n0 + i)) = va_up (fun j => (sh.2.2.2 a j).map (fun i => n0 + i)) j (some (n0 + t)) := by
        funext b
        by_cases hbj : b = j <;> simp [setR, va_up, hbj]
      show ent n0 cs (sh.2.1 a) (sh.2.2.1 a) _ _ = _
      rw [ent_8 hk, nI_clamp (by omega), ← hfun]
    · simp [entS, setR, hb]
  exact va_astq (D := G) (tys := tysOf cs) hx hb hK.1 hH wsl_D hS a 2 t 3 (r := (RK 3, TK 3, nF 3)) hat rfl htt (K_cl (by decide)) (vp_in_nI hj hL) hd (fun H1 locs1 hP1 _ hS1 => kk n0 G cs p l e s m args below meth c H1 locs1 cells slots mc ms arr ⟨hx, hb, hml, hr, hts, hown, hlk, hnm, hK, (show va_P G vwCl _ H1 by rw [← hset]; exact hP1), hS1, hn0, hz, hcm, hsm, hl⟩)
theorem zw_mmin {y : MI} {d k n pc : Nat} {ls : List (Option AV)} {stk : List AV} {sh sh' : Sh} {C C' : Mem} {r : Option AV} {idx : Nat} {x z : Int32} (hd : decode y.2.1 pc = .ok (.invokestatic idx, 3)) (hw : Cond.methodLink y.1.cls idx Lib.Math.min.name ∈ zWS) (hd1 : 1 ≤ d) (hst : stk.length ≤ 8) (kk : WP y d k n (pc + 3) ls (.inl (if z < x then z else x) :: stk) sh C r sh' C') : WP y d k n pc ls (.inl z :: .inl x :: stk) sh C r sh' C' := by
  intro n0 G cs p l e s m args below meth c H locs cells slots mc ms arr hc
  have hc0 := hc
  obtain ⟨hx, hb, hml, hr, hts, hown, hlk, hnm, hK, hH, hS, hn0, hz, hcm, hsm, hl⟩ := hc
  have hls : c.maxLocals = arr.size := by rw [hml, hl.1]
  exact va_mmin hx hb hls hown (hts _ (List.mem_cons_of_mem _ hw)) (hts _ (List.mem_cons_of_mem _ st_Lib_Math_min_name)) (hts _ (List.mem_cons_of_mem _ in_J9)) (hts _ (List.mem_cons_of_mem _ co_Lib_Math_min_name)) hd1 (by rw [stk_cat]; show _ ≤ 37 * d; omega) (by show cells ≤ mc; omega) (by show slots ≤ ms; omega) hd (kk n0 G cs p l e s m args below meth c H locs cells slots mc ms arr hc0)
theorem zw_mmax {y : MI} {d k n pc : Nat} {ls : List (Option AV)} {stk : List AV} {sh sh' : Sh} {C C' : Mem} {r : Option AV} {idx : Nat} {x z : Int32} (hd : decode y.2.1 pc = .ok (.invokestatic idx, 3)) (hw : Cond.methodLink y.1.cls idx Lib.Math.max.name ∈ zWS) (hd1 : 1 ≤ d) (hst : stk.length ≤ 8) (kk : WP y d k n (pc + 3) ls (.inl (if x < z then z else x) :: stk) sh C r sh' C') : WP y d k n pc ls (.inl z :: .inl x :: stk) sh C r sh' C' := by
  intro n0 G cs p l e s m args below meth c H locs cells slots mc ms arr hc
  have hc0 := hc
  obtain ⟨hx, hb, hml, hr, hts, hown, hlk, hnm, hK, hH, hS, hn0, hz, hcm, hsm, hl⟩ := hc
  have hls : c.maxLocals = arr.size := by rw [hml, hl.1]
  exact va_mmax hx hb hls hown (hts _ (List.mem_cons_of_mem _ hw)) (hts _ (List.mem_cons_of_mem _ st_Lib_Math_max_name)) (hts _ (List.mem_cons_of_mem _ in_J9)) (hts _ (List.mem_cons_of_mem _ co_Lib_Math_max_name)) hd1 (by rw [stk_cat]; show _ ≤ 37 * d; omega) (by show cells ≤ mc; omega) (by show slots ≤ ms; omega) hd (kk n0 G cs p l e s m args below meth c H locs cells slots mc ms arr hc0)
theorem zw_copy {y : MI} {d k n pc : Nat} {ls : List (Option AV)} {stk : List AV} {sh sh' : Sh} {C C' : Mem} {r : Option AV} {idx a b u v w : Nat} {xu xv xw : Int32} (hd : decode y.2.1 pc = .ok (.invokestatic idx, 3)) (hw : Cond.methodLink y.1.cls idx arraycopyName ∈ zWS) (hd1 : 1 ≤ d) (hst : stk.length ≤ 4) (hi : a < sh.1) (hk : sh.2.1 a = 6) (hi2 : b < sh.1) (hk2 : sh.2.1 b = 6) (hxu : xu = nI u) (hxv : xv = nI v) (hxw : xw = nI w) (hb1 : u < 2 ^ 31 ∧ v < 2 ^ 31 ∧ w < 2 ^ 31) (hb2 : u + w ≤ sh.2.2.1 a) (hb3 : v + w ≤ sh.2.2.1 b) (kk : WP y d k n (pc + 3) ls stk sh (cpy C a b u v w) r sh' C') : WP y d k n pc ls (.inl xw :: .inl xv :: .inr (some b) :: .inl xu :: .inr (some a) :: stk) sh C r sh' C' := by
  intro n0 G cs p l e s m args below meth c H locs cells slots mc ms arr hc
  have hc0 := hc
  obtain ⟨hx, hb, hml, hr, hts, hown, hlk, hnm, hK, hH, hS, hn0, hz, hcm, hsm, hl⟩ := hc
  have hat : (wsl n0 cs sh C)[a]? = some (n0 + a, .inl (cs.1, sh.2.2.1 a, .inl (C a))) := by
    rw [wsl_at hi, entS, ent_int hk]
  have hat2 : (wsl n0 cs sh C)[b]? = some (n0 + b, .inl (cs.1, sh.2.2.1 b, .inl (C b))) := by
    rw [wsl_at hi2, entS, ent_int hk2]
  subst hxu; subst hxv; subst hxw
  obtain ⟨hb4, hb5, hb6⟩ := hb1
  have hls : c.maxLocals = arr.size := by rw [hml, hl.1]
  have hset : (wsl n0 cs sh C).set b (n0 + b, .inl (cs.1, sh.2.2.1 b, .inl (va_cpy (C a) (C b) (nI u).toNatClampNeg (nI v).toNatClampNeg (nI w).toNatClampNeg))) = wsl n0 cs sh (cpy C a b u v w) := by
    refine wsl_set hi2 rfl ?_ (fun q hq => ?_)
    · rw [entS, ent_int hk2, nI_clamp hb4, nI_clamp hb5, nI_clamp hb6]
      simp [cpy]
    · simp [entS, cpy, hq]
  exact va_copyi (D := G) (tys := tysOf cs) hx hb hls hown (hts _ (List.mem_cons_of_mem _ hw)) (hts _ (List.mem_cons_of_mem _ na_arraycopyName)) (hts _ (List.mem_cons_of_mem _ st_arraycopyName)) (hts _ (List.mem_cons_of_mem _ in_J10)) hK.1 hH wsl_D hS a b 0 0 (ty := .int) hat hat2 rfl rfl rfl (nI_pos hb4) (nI_pos hb5) (nI_pos hb6) (by rw [nI_clamp hb4, nI_clamp hb6]; exact hb2) (by rw [nI_clamp hb5, nI_clamp hb6]; exact hb3) (fun _ _ => rfl) hd1 (by rw [stk_cat]; show _ + (nativeFrameWords "java/lang/System" "arraycopy" 5 + 11) ≤ 37 * d; rw [nfw]; omega) hd (fun H1 locs1 hP1 _ hS1 => kk n0 G cs p l e s m args below meth c H1 locs1 cells slots mc ms arr ⟨hx, hb, hml, hr, hts, hown, hlk, hnm, hK, (show va_P G vwCl _ H1 by rw [← hset]; exact hP1), hS1, hn0, hz, hcm, hsm, hl⟩)
theorem KF.same {G : va_G} {cs : Cs} {u U : State} (h : u.vm = U.vm) (hK : KF G cs u) : KF G cs U :=
  ⟨va_K.moved (by rw [h]; exact Vm.Alike.refl _) hK.1, fun w hw => by
    have h1 := hK.2.1 w hw
    have key : ∃ a i x g, w = Cond.methodLinkNest a i x g := by
      simp only [nestWs, List.mem_cons, List.not_mem_nil, or_false] at hw
      rcases hw with rfl | rfl | rfl | rfl | rfl | rfl | rfl | rfl <;> exact ⟨_, _, _, _, rfl⟩
    obtain ⟨a, i, x, g, rfl⟩ := key
    exact va_Nw.same rfl h h1, va_AO.moved (by rw [h]; exact Vm.Alike.refl _) hK.2.2.1, va_AO.moved (by rw [h]; exact Vm.Alike.refl _) hK.2.2.2⟩
theorem Pcc.blind {n0 : Nat} {G : va_G} {cs : Cs} {args : List AV} {sh : Sh} {C : Mem} : FrameBlind (Pcc n0 G cs args sh C) := fun a U g mk q => by
  obtain ⟨q0, q1, q2, q3⟩ := q
  exact ⟨q0, KF.same (u := U) (U := U.calling g mk a) rfl q1, q2, q3⟩
/-- the words of a method that can be called -/
def okM (y : MI) (np : Nat) : Prop := Cond.initialized y.1.cls ∈ zWS ∧ Cond.code y.1 y.2.1 y.2.2.1 y.2.2.2 ∈ zWS ∧ (y.1.cls ≠ "java/lang/invoke/MethodHandle" ∧ y.1.cls ≠ "java/lang/invoke/VarHandle" ∧ (parseMethodDescriptor y.1.desc).map (fun d => d.parameters.length) = some np) ∧ y.2.2.1 ≤ 18
def okV (y : MI) (np : Nat) : Prop := okM y np ∧ Cond.instanceMethod y.1 ∈ zWS ∧ Cond.selects y.1.cls y.1 y.1 ∈ zWS
def okS (y : MI) (np : Nat) : Prop := okM y np ∧ Cond.static y.1 ∈ zWS
def okI (y : MI) : Prop := okM y 0 ∧ Cond.instanceMethod y.1 ∈ zWS ∧ y.1.name = "<init>" ∧ y.2.2.2 = none
theorem good_callee {y y2 : MI} (h : Cond.code y2.1 y2.2.1 y2.2.2.1 y2.2.2.2 ∈ zWS) : ∀ w ∈ wsY y2, w ∈ zWS := fun w hw => (List.mem_cons.mp hw).elim (fun e => e ▸ h) id
/-- behind a call -/
theorem zw_after {y : MI} {d k n pc k2 n2 k3 n3 : Nat} {ls : List (Option AV)} {stk : List AV} {sh sh2 sh' : Sh} {C C2 C' : Mem} {r r2 : Option AV} {n0 : Nat} {G : va_G} {cs : Cs} {p : Program} {l : Launch} {e : Env} {s : State} {m : MethodId} {args a2 : Array Value} {below : List Frame} {meth : Method} {c : Code} {H : Heap} {locs : List Loc} {cells slots mc ms : Nat} {arr : Array Slot} {st0 : List Value}
    (hc : Cx y k n n0 G cs p s m args meth c H locs cells slots mc ms arr sh C ls) (hkk : k = k2 + k3) (hnn : n = n2 + n3) (hs2 : sh2.1 = sh.1 + k2)
    (hr : va_Run p l e (rmm d mc ms) s m args below meth c H locs cells slots k2 n2 (F0 m pc arr st0) (stk.map (rv n0)) (Qcc n0 G cs r2 sh2 C2 a2) (fun q => n0 ≤ q))
    (kk : WP y d k3 n3 (pc + 3) ls (r2.toList ++ stk) sh2 C2 r sh' C') :
    W p l e (rmm d mc ms) s m args below meth c H locs cells slots (MQ below (Qcc n0 G cs r sh' C') args s mc ms (fun q => n0 ≤ q)) (F0 m pc arr st0) := by
  obtain ⟨hx, hb, hml, hr0, hts, hown, hlk, hnm, hK, hH, hS, hn0, hz, hcm, hsm, hl⟩ := hc
  intro T hT X
  obtain ⟨v, st₀, t, T', L, h0, X', hL, e1, e2, ⟨hv, hW2, hz2, hk2⟩, st⟩ := hr T hT X
  have hv2 : v = r2.map (rv n0) := by injection hv
  subst hv2
  rw [h0] at hz2 hk2
  have hS2 : va_S (fun q => n0 ≤ q) s.heap T'.heap (locs ++ L) := ⟨Nat.le_trans hS.1 (by rw [e1]; exact hz2), fun q h1 h2 => by rw [e1, hk2 q (Nat.lt_of_lt_of_le h1 hS.1) h2]; exact hS.2.1 q h1 h2, fun q hq => by
    rcases List.mem_append.mp hq with h | h
    · exact hS.2.2 q h
    · exact hL q h⟩
  obtain ⟨t2, a1, b1⟩ := kk n0 G cs p l e s m args below meth c T'.heap (locs ++ L) (cells + k2) (slots + n2) mc ms arr ⟨hx, hb, hml, hr0, hts, hown, hlk, hnm, hK, by rw [e1]; exact hW2, hS2, hn0, by omega, by omega, by omega, hl⟩ T' rfl X'
  refine ⟨t2, st t2 ?_, b1⟩
  have hst : (r2.toList ++ stk).map (rv n0) = (r2.map (rv n0)).toList ++ stk.map (rv n0) := by cases r2 <;> rfl
  rw [hst] at a1
  exact a1
theorem zw_invV {y : MI} {d k n pc : Nat} {ls : List (Option AV)} {stk : List AV} {sh sh' : Sh} {C C' : Mem} {r : Option AV} {y2 : MI} {d2 k2 n2 k3 n3 idx : Nat} {args2 : List AV} {stk0 : List AV} {sh2 : Sh} {C2 : Mem} {r2 : Option AV} {i ci : Nat} (hd : decode y.2.1 pc = .ok (.invokevirtual idx, 3)) (hok : okV y2 args2.length) (hlw : Cond.methodLink y.1.cls idx y2.1 ∈ zWS) (hi : i < sh.1) (hk : sh.2.1 i = ci) (hci : ci < 5) (hcl : RK ci = y2.1.cls) (hR : d2 + 1 ≤ d) (hstk : stk0 = args2.reverse ++ .inr (some i) :: stk) (hst : stk.length ≤ 8) (hkk : k = k2 + k3) (hnn : n = n2 + n3) (hs2 : sh2.1 = sh.1 + k2) (hc2 : Calls y2 d2 k2 n2 (.inr (some i) :: args2) sh C r2 sh2 C2) (kk : WP y d k3 n3 (pc + 3) ls (r2.toList ++ stk) sh2 C2 r sh' C') : WP y d k n pc ls stk0 sh C r sh' C' := by
  intro n0 G cs p l e s m args below meth c H locs cells slots mc ms arr hc
  have hc0 := hc
  obtain ⟨hx, hb, hml, hr, hts, hown, hlk, hnm, hK, hH, hS, hn0, hz, hcm, hsm, hl⟩ := hc
  intro T hT X
  have hsz := HW.size hH X hT hn0 hz
  subst hstk
  have hat : (wsl n0 cs sh C)[i]? = some (n0 + i, .inr (ci, flds n0 ci (C i) (sh.2.2.2 i))) := by
    rw [wsl_at hi, entS, ent_obj (by rw [hk]; exact hci), hk]
  have hM := hc2 l n0 G cs
  have hrecv : ∃ cell : Cell, H[n0 + i]? = some cell ∧ cell.vm.isStatics = false ∧ s.vm.findClass y2.1.cls = some cell.cls := by
    have h9 := va_recv hK.1 hH (K_cl hci) hat
    rw [hcl] at h9
    exact h9
  have hPV : PreV s H y2.1.cls (n0 + i) (Pcc n0 G cs (.inr (some i) :: args2) sh C) (args2.map (rv n0)) := ⟨Pcc.blind, hrecv, fun U hU hW => ⟨rfl, hK.moved hW, by rw [hU]; exact hsz, by rw [hU]; exact hH⟩⟩
  have hsk : (args2.reverse ++ .inr (some i) :: stk).map (rv n0) = (args2.map (rv n0)).reverse ++ .ref (n0 + i) :: stk.map (rv n0) := by
    rw [List.map_append, List.map_reverse]
    rfl
  refine zw_after hc0 hkk hnn hs2 (va_runV (nL := y.2.2.1) (own := y.1.cls) (C := y2.1.cls) (As := args2.map (rv n0)) (rest := stk.map (rv n0)) ⟨hx, hb, hml, hown, hts⟩ hM (cwV args2.length hts (goodIn_zw (y := y) (fun w hw => by
      simp only [wsV, List.mem_append, List.mem_cons, List.not_mem_nil, or_false] at hw
      rcases hw with (rfl | rfl | rfl | rfl) | hw
      · exact hlw
      · exact hok.2.1
      · exact hok.2.2
      · exact hok.1.1
      · exact good_callee (y := y) hok.1.2.1 w hw)) rfl rfl rfl ⟨rfl, hok.1.2.2.1⟩ ⟨by show d2 + 1 ≤ d; exact hR, by have := hok.1.2.2.2; show 8 + (y2.2.2.1 + 11) + 37 * d2 ≤ 37 * d; omega⟩) hPV rfl (by simp) hl.1 hsk (lv_room (by rw [stk_cat]; exact hst)) (by exact hd) ⟨by show cells + k2 ≤ mc; omega, by show slots + n2 ≤ ms; omega⟩) kk T hT X
theorem zcwS {R : Room} {s : State} {args : Array Value} {own : String} {index maxL mc ms : Nat} {y : MethodName} {bytes : ByteArray} {ret : Option FieldType} {Ts ws ws' : List Cond} {rm : Room} (n : Nat) (ht : ∀ w ∈ Ts, w.before args s = true) (hG : GoodIn Ts ws) (hw : ws = Cond.code y bytes maxL ret :: ws') (hrc : rm.cells = mc) (hrs : rm.slots = ms) (hini : (Cond.initialized y.cls).before args s = true) (hl : (Cond.methodLink own index y).before args s = true) (hst : (Cond.static y).before args s = true)
    (hd : y.cls ≠ "java/lang/invoke/MethodHandle" ∧ y.cls ≠ "java/lang/invoke/VarHandle" ∧ (parseMethodDescriptor y.desc).map (fun d => d.parameters.length) = some n) (hR : rm.frames + 1 ≤ R.frames ∧ 8 + (maxL + 11) + rm.locals ≤ R.locals) :
    CallB R s args own index y bytes maxL ret ws rm mc ms n ∧ (Cond.static y).before args s = true :=
  ⟨callB_of n ht hG hw hrc hrs hini hl hd hR, hst⟩
theorem zw_invS {y : MI} {d k n pc : Nat} {ls : List (Option AV)} {stk : List AV} {sh sh' : Sh} {C C' : Mem} {r : Option AV} {y2 : MI} {d2 k2 n2 k3 n3 idx : Nat} {args2 : List AV} {stk0 : List AV} {sh2 : Sh} {C2 : Mem} {r2 : Option AV}  (hd : decode y.2.1 pc = .ok (.invokestatic idx, 3)) (hok : okS y2 args2.length) (hlw : Cond.methodLink y.1.cls idx y2.1 ∈ zWS) (hR : d2 + 1 ≤ d) (hstk : stk0 = args2.reverse ++ stk) (hst : stk.length ≤ 8) (hkk : k = k2 + k3) (hnn : n = n2 + n3) (hs2 : sh2.1 = sh.1 + k2) (hc2 : Calls y2 d2 k2 n2 args2 sh C r2 sh2 C2) (kk : WP y d k3 n3 (pc + 3) ls (r2.toList ++ stk) sh2 C2 r sh' C') : WP y d k n pc ls stk0 sh C r sh' C' := by
  intro n0 G cs p l e s m args below meth c H locs cells slots mc ms arr hc
  have hc0 := hc
  obtain ⟨hx, hb, hml, hr, hts, hown, hlk, hnm, hK, hH, hS, hn0, hz, hcm, hsm, hl⟩ := hc
  intro T hT X
  have hsz := HW.size hH X hT hn0 hz
  subst hstk
  have hM := hc2 l n0 G cs
  have hPS : PreS s H (Pcc n0 G cs args2 sh C) (args2.map (rv n0)) := ⟨Pcc.blind, fun U hU hW => ⟨rfl, hK.moved hW, by rw [hU]; exact hsz, by rw [hU]; exact hH⟩⟩
  have hsk : (args2.reverse ++ stk).map (rv n0) = (args2.map (rv n0)).reverse ++ stk.map (rv n0) := by
    rw [List.map_append, List.map_reverse]
  refine zw_after hc0 hkk hnn hs2 (va_runS (nL := y.2.2.1) (own := y.1.cls) (As := args2.map (rv n0)) (rest := stk.map (rv n0)) ⟨hx, hb, hml, hown, hts⟩ hM (zcwS args2.length hts (goodIn_zw (y := y) (good_callee (y := y) hok.1.2.1)) rfl rfl rfl (hts _ (List.mem_cons_of_mem _ hok.1.1)) (hts _ (List.mem_cons_of_mem _ hlw)) (hts _ (List.mem_cons_of_mem _ hok.2)) hok.1.2.2.1 ⟨by show d2 + 1 ≤ d; exact hR, by have := hok.1.2.2.2; show 8 + (y2.2.2.1 + 11) + 37 * d2 ≤ 37 * d; omega⟩) hPS rfl (by simp) hl.1 hsk (lv_room (by rw [stk_cat]; exact hst)) (by exact hd) ⟨by show cells + k2 ≤ mc; omega, by show slots + n2 ≤ ms; omega⟩) kk T hT X
theorem zw_invSN {y : MI} {d k n pc : Nat} {ls : List (Option AV)} {stk : List AV} {sh sh' : Sh} {C C' : Mem} {r : Option AV} {y2 : MI} {d2 k2 n2 k3 n3 idx : Nat} {args2 : List AV} {stk0 : List AV} {sh2 : Sh} {C2 : Mem} {r2 : Option AV}  (hd : decode y.2.1 pc = .ok (.invokestatic idx, 3)) (hok : okS y2 args2.length) (hlw : Cond.methodLinkNest y.1.cls idx y2.1 "SilenceHours" ∈ nestWs) (hR : d2 + 1 ≤ d) (hstk : stk0 = args2.reverse ++ stk) (hst : stk.length ≤ 8) (hkk : k = k2 + k3) (hnn : n = n2 + n3) (hs2 : sh2.1 = sh.1 + k2) (hc2 : Calls y2 d2 k2 n2 args2 sh C r2 sh2 C2) (kk : WP y d k3 n3 (pc + 3) ls (r2.toList ++ stk) sh2 C2 r sh' C') : WP y d k n pc ls stk0 sh C r sh' C' := by
  intro n0 G cs p l e s m args below meth c H locs cells slots mc ms arr hc
  have hc0 := hc
  obtain ⟨hx, hb, hml, hr, hts, hown, hlk, hnm, hK, hH, hS, hn0, hz, hcm, hsm, hl⟩ := hc
  intro T hT X
  have hsz := HW.size hH X hT hn0 hz
  subst hstk
  have hM := hc2 l n0 G cs
  have hPS : PreS s H (Pcc n0 G cs args2 sh C) (args2.map (rv n0)) := ⟨Pcc.blind, fun U hU hW => ⟨rfl, hK.moved hW, by rw [hU]; exact hsz, by rw [hU]; exact hH⟩⟩
  have hsk : (args2.reverse ++ stk).map (rv n0) = (args2.map (rv n0)).reverse ++ stk.map (rv n0) := by
    rw [List.map_append, List.map_reverse]
  refine zw_after hc0 hkk hnn hs2 (va_runSN (nL := y.2.2.1) (own := y.1.cls) (host := "SilenceHours") (As := args2.map (rv n0)) (rest := stk.map (rv n0)) ⟨hx, hb, hml, hown, hts⟩ hM ⟨va_cnB args2.length hts (goodIn_zw (y := y) (good_callee (y := y) hok.1.2.1)) rfl rfl rfl (hK.2.1 _ hlw) (hts _ (List.mem_cons_of_mem _ hok.1.1)) hok.1.2.2.1 ⟨by show d2 + 1 ≤ d; exact hR, by have := hok.1.2.2.2; show 8 + (y2.2.2.1 + 11) + 37 * d2 ≤ 37 * d; omega⟩, hts _ (List.mem_cons_of_mem _ hok.2), trivial⟩ hPS rfl (by simp) hl.1 hsk (lv_room (by rw [stk_cat]; exact hst)) (by exact hd) ⟨by show cells + k2 ≤ mc; omega, by show slots + n2 ≤ ms; omega⟩) kk T hT X
theorem zw_invI {y : MI} {d k n pc : Nat} {ls : List (Option AV)} {stk : List AV} {sh sh' : Sh} {C C' : Mem} {r : Option AV} {b2 : MethodName} {c2 : ByteArray} {L2 : Nat} {d2 k2 n2 k3 n3 idx i : Nat} {sh2 : Sh} {C2 : Mem} (hd : decode y.2.1 pc = .ok (.invokespecial idx, 3)) (hok : okI (b2, c2, L2, none)) (hlw : Cond.methodLink y.1.cls idx b2 ∈ zWS) (hR : d2 + 1 ≤ d) (hst : stk.length ≤ 8) (hkk : k = k2 + k3) (hnn : n = n2 + n3) (hs2 : sh2.1 = sh.1 + k2) (hc2 : Calls (b2, c2, L2, none) d2 k2 n2 [.inr (some i)] sh C none sh2 C2) (kk : WP y d k3 n3 (pc + 3) ls stk sh2 C2 r sh' C') : WP y d k n pc ls (.inr (some i) :: stk) sh C r sh' C' := by
  intro n0 G cs p l e s m args below meth c H locs cells slots mc ms arr hc
  have hc0 := hc
  obtain ⟨hx, hb, hml, hr, hts, hown, hlk, hnm, hK, hH, hS, hn0, hz, hcm, hsm, hl⟩ := hc
  intro T hT X
  have hsz := HW.size hH X hT hn0 hz
  have hM := hc2 l n0 G cs
  have hPS : PreS s H (Pcc n0 G cs [.inr (some i)] sh C) [.ref (n0 + i)] := ⟨Pcc.blind, fun U hU hW => ⟨rfl, hK.moved hW, by rw [hU]; exact hsz, by rw [hU]; exact hH⟩⟩
  refine zw_after hc0 hkk hnn hs2 (va_runI (nL := y.2.2.1) (own := y.1.cls) (As := []) (rest := stk.map (rv n0)) ⟨hx, hb, hml, hown, hts⟩ hM (cwI 0 hts (goodIn_zw (y := y) (good_callee (y := y) hok.1.2.1)) rfl rfl rfl (hts _ (List.mem_cons_of_mem _ hok.1.1)) (hts _ (List.mem_cons_of_mem _ hlw)) (hts _ (List.mem_cons_of_mem _ hok.2.1)) hok.2.2.1 hok.1.2.2.1 ⟨by show d2 + 1 ≤ d; exact hR, by have h7 : L2 ≤ 18 := hok.1.2.2.2; show 8 + (L2 + 11) + 37 * d2 ≤ 37 * d; omega⟩) hPS rfl rfl hl.1 rfl (lv_room (by rw [stk_cat]; exact hst)) (by exact hd) ⟨by show cells + k2 ≤ mc; omega, by show slots + n2 ≤ ms; omega⟩) kk T hT X
theorem zw_invIN {y : MI} {d k n pc : Nat} {ls : List (Option AV)} {stk : List AV} {sh sh' : Sh} {C C' : Mem} {r : Option AV} {b2 : MethodName} {c2 : ByteArray} {L2 : Nat} {d2 k2 n2 k3 n3 idx i : Nat} {sh2 : Sh} {C2 : Mem} (hd : decode y.2.1 pc = .ok (.invokespecial idx, 3)) (hok : okI (b2, c2, L2, none)) (hlw : Cond.methodLinkNest y.1.cls idx b2 "SilenceHours" ∈ nestWs) (hR : d2 + 1 ≤ d) (hst : stk.length ≤ 8) (hkk : k = k2 + k3) (hnn : n = n2 + n3) (hs2 : sh2.1 = sh.1 + k2) (hc2 : Calls (b2, c2, L2, none) d2 k2 n2 [.inr (some i)] sh C none sh2 C2) (kk : WP y d k3 n3 (pc + 3) ls stk sh2 C2 r sh' C') : WP y d k n pc ls (.inr (some i) :: stk) sh C r sh' C' := by
  intro n0 G cs p l e s m args below meth c H locs cells slots mc ms arr hc
  have hc0 := hc
  obtain ⟨hx, hb, hml, hr, hts, hown, hlk, hnm, hK, hH, hS, hn0, hz, hcm, hsm, hl⟩ := hc
  intro T hT X
  have hsz := HW.size hH X hT hn0 hz
  have hM := hc2 l n0 G cs
  have hPS : PreS s H (Pcc n0 G cs [.inr (some i)] sh C) [.ref (n0 + i)] := ⟨Pcc.blind, fun U hU hW => ⟨rfl, hK.moved hW, by rw [hU]; exact hsz, by rw [hU]; exact hH⟩⟩
  refine zw_after hc0 hkk hnn hs2 (va_runIN (nL := y.2.2.1) (own := y.1.cls) (host := "SilenceHours") (As := []) (rest := stk.map (rv n0)) ⟨hx, hb, hml, hown, hts⟩ hM ⟨va_cnB 0 hts (goodIn_zw (y := y) (good_callee (y := y) hok.1.2.1)) rfl rfl rfl (hK.2.1 _ hlw) (hts _ (List.mem_cons_of_mem _ hok.1.1)) hok.1.2.2.1 ⟨by show d2 + 1 ≤ d; exact hR, by have h7 : L2 ≤ 18 := hok.1.2.2.2; show 8 + (L2 + 11) + 37 * d2 ≤ 37 * d; omega⟩, hok.2.2.1, hts _ (List.mem_cons_of_mem _ hok.2.1)⟩ hPS rfl rfl hl.1 rfl (lv_room (by rw [stk_cat]; exact hst)) (by exact hd) ⟨by show cells + k2 ≤ mc; omega, by show slots + n2 ≤ ms; omega⟩) kk T hT X
theorem zw_objInit {y : MI} {d k n pc : Nat} {ls : List (Option AV)} {stk : List AV} {sh sh' : Sh} {C C' : Mem} {r : Option AV} {idx i : Nat} (hd : decode y.2.1 pc = .ok (.invokespecial idx, 3)) (hlw : Cond.methodLink y.1.cls idx objectInit ∈ zWS) (hd1 : 1 ≤ d) (hst : stk.length ≤ 8) (kk : WP y d k n (pc + 3) ls stk sh C r sh' C') : WP y d k n pc ls (.inr (some i) :: stk) sh C r sh' C' := by
  intro n0 G cs p l e s m args below meth c H locs cells slots mc ms arr hc
  have hc0 := hc
  obtain ⟨hx, hb, hml, hr, hts, hown, hlk, hnm, hK, hH, hS, hn0, hz, hcm, hsm, hl⟩ := hc
  exact W.objInit hx hb hown (hts _ (List.mem_cons_of_mem _ hlw)) (hts _ (List.mem_cons_of_mem _ im_objectInit)) (hts _ (List.mem_cons_of_mem _ co_objectInit)) rfl (by rw [hml]; exact hl.1) rfl hd hd1 (by show 2 * 0 + _ + 12 ≤ 37 * d; rw [stk_cat]; omega) (kk n0 G cs p l e s m args below meth c H locs cells slots mc ms arr hc0)
theorem zw_new {y : MI} {d k n pc : Nat} {ls : List (Option AV)} {stk : List AV} {sh sh' : Sh} {C C' : Mem} {r : Option AV} {idx kd : Nat} (hd : decode y.2.1 pc = .ok (.new idx, 3)) (hkd : kd < 5) (hlw : Cond.classLink y.1.cls idx (RK kd) ∈ zWS) (hit : Cond.instantiable (RK kd) (nF kd) ∈ zWS) (hin : Cond.initialized (RK kd) ∈ zWS) (hdf : ∀ j, j < nF kd → defaultValue (tyK kd j) = fv 0 (rF kd j) 0 none) (hk1 : 1 ≤ k) (hn1 : nF kd ≤ n) (kk : WP y d (k - 1) (n - nF kd) (pc + 3) ls (.inr (some sh.1) :: stk) (pushS sh kd 0) (pushC C sh.1) r sh' C') : WP y d k n pc ls stk sh C r sh' C' := by
  intro n0 G cs p l e s m args below meth c H locs cells slots mc ms arr hc
  have hc0 := hc
  obtain ⟨hx, hb, hml, hr, hts, hown, hlk, hnm, hK, hH, hS, hn0, hz, hcm, hsm, hl⟩ := hc
  intro T hT X
  have hsz := HW.size hH X hT hn0 hz
  have hgo : W p l e (rmm d mc ms) s m args below meth c H locs cells slots (MQ below (Qcc n0 G cs r sh' C') args s mc ms (fun q => n0 ≤ q)) (F0 m pc arr (stk.map (rv n0))) := by
    refine W.newcK hx hb hown (hts _ (List.mem_cons_of_mem _ hlw)) (hts _ (List.mem_cons_of_mem _ hit)) (hts _ (List.mem_cons_of_mem _ hin)) rfl hd (by show cells + 1 ≤ mc; omega) (by show slots + nF kd ≤ ms; omega) (hK.1.1 kd _ (K_cl hkd)).2.1 rfl (fun H1 kC hkC e1 z1 o1 => ?_)
    rw [hsz] at e1 ⊢
    have hP1 : va_P G vwCl (wsl n0 cs (pushS sh kd 0) (pushC C sh.1)) H1 := by
      rw [← wsl_push]
      refine (hH.kept (fun q x hx => o1 x.1 ((hH q x hx).lt))).app (fun q x hx => ?_)
      have hq : q < 1 := (List.getElem?_eq_some_iff.mp hx).1
      rw [show q = 0 by omega] at hx
      cases hx
      rw [ent_obj hkd]
      exact ⟨_, K_cl hkd, (u_born (tyK kd) hts (fun w h => List.mem_cons_of_mem _ (K_in hkd w h)) (hK.1.1 kd _ (K_cl hkd)) hkC e1 (K_ty hkd)).to (fun j hj => by
        rw [hdf j hj]
        have h9 : (flds n0 kd (fun _ => 0) (fun _ => none))[j]? = some (fv n0 (rF kd j) 0 none) := flds_at hj
        show _ = (flds n0 kd (fun _ => 0) (fun _ => none)).getD j .null
        rw [List.getD_eq_getElem?_getD, h9]
        cases rF kd j <;> rfl)⟩
    exact kk n0 G cs p l e s m args below meth c H1 locs (cells + 1) (slots + nF kd) mc ms arr ⟨hx, hb, hml, hr, hts, hown, hlk, hnm, hK, hP1, ⟨Nat.le_trans hS.1 (by omega), fun x h1 h2 => (o1 x (Nat.lt_of_lt_of_le h1 hS.1)).trans (hS.2.1 x h1 h2), hS.2.2⟩, hn0, by show s.heap.size + (cells + 1) = n0 + (sh.1 + 1); omega, by omega, by omega, hl⟩
  exact hgo T hT X
theorem zw_newI {y : MI} {d k n pc : Nat} {ls : List (Option AV)} {stk : List AV} {sh sh' : Sh} {C C' : Mem} {r : Option AV} {len : Nat} {x : Int32} (hd : decode y.2.1 pc = .ok (.newarray .int, 2)) (hxl : x = nI len) (hlen : len ≤ 100000) (hk1 : 1 ≤ k) (hn1 : len ≤ n) (kk : WP y d (k - 1) (n - len) (pc + 2) ls (.inr (some sh.1) :: stk) (pushS sh 6 len) (pushC C sh.1) r sh' C') : WP y d k n pc ls (.inl x :: stk) sh C r sh' C' := by
  intro n0 G cs p l e s m args below meth c H locs cells slots mc ms arr hc
  have hc0 := hc
  obtain ⟨hx, hb, hml, hr, hts, hown, hlk, hnm, hK, hH, hS, hn0, hz, hcm, hsm, hl⟩ := hc
  subst hxl
  intro T hT X
  have hsz := HW.size hH X hT hn0 hz
  have hgo : W p l e (rmm d mc ms) s m args below meth c H locs cells slots (MQ below (Qcc n0 G cs r sh' C') args s mc ms (fun q => n0 ≤ q)) (F0 m pc arr (.int (nI len) :: stk.map (rv n0))) := by
    refine va_newaK (atype := .int) (N := len) hx hb (hts _ (List.mem_cons_of_mem _ ac_int)) rfl hd rfl (nI_pos (by omega)) (nI_clamp (by omega)) (by show len * 4 ≤ 536870912; omega) (by show cells + 1 ≤ mc; omega) (by show slots + len ≤ ms; omega) hsz (fun H1 cA e1 z1 o1 hAr hNm => ?_)
    have hcA : cA = cs.1 := by
      have h8 : s.vm.findClass ("[" ++ (FieldType.int).toString) = some cs.1 := (hK.1.2 0 _ rfl).2
      exact Option.some.inj (hNm.symm.trans h8)
    subst hcA
    have hP1 : va_P G vwCl (wsl n0 cs (pushS sh 6 len) (pushC C sh.1)) H1 := by
      rw [← wsl_push]
      refine (hH.kept (fun q x hx => o1 x.1 (by rw [← hsz]; exact (hH q x hx).lt))).app (fun q x hx => ?_)
      have hq : q < 1 := (List.getElem?_eq_some_iff.mp hx).1
      rw [show q = 0 by omega] at hx
      cases hx
      rw [ent_int rfl]
      exact e1
    exact kk n0 G cs p l e s m args below meth c H1 locs (cells + 1) (slots + len) mc ms arr ⟨hx, hb, hml, hr, hts, hown, hlk, hnm, hK, hP1, ⟨Nat.le_trans hS.1 (by omega), fun x h1 h2 => (o1 x (by have := hS.1; omega)).trans (hS.2.1 x h1 h2), hS.2.2⟩, hn0, by show s.heap.size + (cells + 1) = n0 + (sh.1 + 1); omega, by omega, by omega, hl⟩
  exact hgo T hT X
theorem zw_anewP {y : MI} {d k n pc : Nat} {ls : List (Option AV)} {stk : List AV} {sh sh' : Sh} {C C' : Mem} {r : Option AV} {idx len : Nat} {x : Int32} (hd : decode y.2.1 pc = .ok (.anewarray idx, 3)) (hlw : Cond.classLink y.1.cls idx (RK 1) ∈ zWS) (hxl : x = nI len) (hlen : len ≤ 100000) (hk1 : 1 ≤ k) (hn1 : len ≤ n) (kk : WP y d (k - 1) (n - len) (pc + 3) ls (.inr (some sh.1) :: stk) (pushS sh 7 len) (pushC C sh.1) r sh' C') : WP y d k n pc ls (.inl x :: stk) sh C r sh' C' := by
  intro n0 G cs p l e s m args below meth c H locs cells slots mc ms arr hc
  have hc0 := hc
  obtain ⟨hx, hb, hml, hr, hts, hown, hlk, hnm, hK, hH, hS, hn0, hz, hcm, hsm, hl⟩ := hc
  subst hxl
  intro T hT X
  have hsz := HW.size hH X hT hn0 hz
  have hcl9 : (nI len).toNatClampNeg = len := nI_clamp (by omega)
  have hgo : W p l e (rmm d mc ms) s m args below meth c H locs cells slots (MQ below (Qcc n0 G cs r sh' C') args s mc ms (fun q => n0 ≤ q)) (F0 m pc arr (.int (nI len) :: stk.map (rv n0))) := by
    refine W.anew (C := RK 1) hx hb hown (hts _ (List.mem_cons_of_mem _ hlw)) (va_AO.use hK.2.2.2) rfl hd rfl (nI_pos (by omega)) (by rw [hcl9]; omega) (by show cells + 1 ≤ mc; omega) (by rw [hcl9]; show slots + len ≤ ms; omega) (fun cA kA comp f1 f2 f3 f4 => ?_)
    rw [hcl9, hsz]
    generalize hH1 : H.push ({ cls := cA, slots := Array.replicate len .null, vm := .none } : Cell) = H1
    have z1 : H1.size = H.size + 1 := by rw [← hH1, Array.size_push]
    have e1 : H1[H.size]? = some (arrV cA len (fun _ => .null)) := by rw [← hH1, Array.getElem?_push_size, ← arrV_new]
    have o1 : ∀ q : Nat, q < H.size → H1[q]? = H[q]? := fun q hq => by rw [← hH1, Array.getElem?_push, if_neg (Nat.ne_of_lt hq)]
    have hcA : cA = cs.2.1 := by
      obtain ⟨_, _, -, -, -, h8⟩ := (hK.1.2 1 _ rfl).2
      exact Option.some.inj (f1.symm.trans h8)
    subst hcA
    rw [hsz] at e1
    have hP1 : va_P G vwCl (wsl n0 cs (pushS sh 7 len) (pushC C sh.1)) H1 := by
      rw [← wsl_push]
      refine (hH.kept (fun q x hx => o1 x.1 ((hH q x hx).lt))).app (fun q x hx => ?_)
      have hq : q < 1 := (List.getElem?_eq_some_iff.mp hx).1
      rw [show q = 0 by omega] at hx
      cases hx
      rw [ent_7 rfl]
      exact e1
    exact kk n0 G cs p l e s m args below meth c H1 locs (cells + 1) (slots + len) mc ms arr ⟨hx, hb, hml, hr, hts, hown, hlk, hnm, hK, hP1, ⟨Nat.le_trans hS.1 (by omega), fun x h1 h2 => (o1 x (Nat.lt_of_lt_of_le h1 hS.1)).trans (hS.2.1 x h1 h2), hS.2.2⟩, hn0, by show s.heap.size + (cells + 1) = n0 + (sh.1 + 1); omega, by omega, by omega, hl⟩
  exact hgo T hT X
theorem zw_anewS {y : MI} {d k n pc : Nat} {ls : List (Option AV)} {stk : List AV} {sh sh' : Sh} {C C' : Mem} {r : Option AV} {idx len : Nat} {x : Int32} (hd : decode y.2.1 pc = .ok (.anewarray idx, 3)) (hlw : Cond.classLink y.1.cls idx (RK 3) ∈ zWS) (hxl : x = nI len) (hlen : len ≤ 100000) (hk1 : 1 ≤ k) (hn1 : len ≤ n) (kk : WP y d (k - 1) (n - len) (pc + 3) ls (.inr (some sh.1) :: stk) (pushS sh 8 len) (pushC C sh.1) r sh' C') : WP y d k n pc ls (.inl x :: stk) sh C r sh' C' := by
  intro n0 G cs p l e s m args below meth c H locs cells slots mc ms arr hc
  have hc0 := hc
  obtain ⟨hx, hb, hml, hr, hts, hown, hlk, hnm, hK, hH, hS, hn0, hz, hcm, hsm, hl⟩ := hc
  subst hxl
  intro T hT X
  have hsz := HW.size hH X hT hn0 hz
  have hcl9 : (nI len).toNatClampNeg = len := nI_clamp (by omega)
  have hgo : W p l e (rmm d mc ms) s m args below meth c H locs cells slots (MQ below (Qcc n0 G cs r sh' C') args s mc ms (fun q => n0 ≤ q)) (F0 m pc arr (.int (nI len) :: stk.map (rv n0))) := by
    refine W.anew (C := RK 3) hx hb hown (hts _ (List.mem_cons_of_mem _ hlw)) (va_AO.use hK.2.2.1) rfl hd rfl (nI_pos (by omega)) (by rw [hcl9]; omega) (by show cells + 1 ≤ mc; omega) (by rw [hcl9]; show slots + len ≤ ms; omega) (fun cA kA comp f1 f2 f3 f4 => ?_)
    rw [hcl9, hsz]
    generalize hH1 : H.push ({ cls := cA, slots := Array.replicate len .null, vm := .none } : Cell) = H1
    have z1 : H1.size = H.size + 1 := by rw [← hH1, Array.size_push]
    have e1 : H1[H.size]? = some (arrV cA len (fun _ => .null)) := by rw [← hH1, Array.getElem?_push_size, ← arrV_new]
    have o1 : ∀ q : Nat, q < H.size → H1[q]? = H[q]? := fun q hq => by rw [← hH1, Array.getElem?_push, if_neg (Nat.ne_of_lt hq)]
    have hcA : cA = cs.2.2 := by
      obtain ⟨_, _, -, -, -, h8⟩ := (hK.1.2 2 _ rfl).2
      exact Option.some.inj (f1.symm.trans h8)
    subst hcA
    rw [hsz] at e1
    have hP1 : va_P G vwCl (wsl n0 cs (pushS sh 8 len) (pushC C sh.1)) H1 := by
      rw [← wsl_push]
      refine (hH.kept (fun q x hx => o1 x.1 ((hH q x hx).lt))).app (fun q x hx => ?_)
      have hq : q < 1 := (List.getElem?_eq_some_iff.mp hx).1
      rw [show q = 0 by omega] at hx
      cases hx
      rw [ent_8 rfl]
      exact e1
    exact kk n0 G cs p l e s m args below meth c H1 locs (cells + 1) (slots + len) mc ms arr ⟨hx, hb, hml, hr, hts, hown, hlk, hnm, hK, hP1, ⟨Nat.le_trans hS.1 (by omega), fun x h1 h2 => (o1 x (Nat.lt_of_lt_of_le h1 hS.1)).trans (hS.2.1 x h1 h2), hS.2.2⟩, hn0, by show s.heap.size + (cells + 1) = n0 + (sh.1 + 1); omega, by omega, by omega, hl⟩
  exact hgo T hT X
theorem zw_iret {y : MI} {d k n pc : Nat} {ls : List (Option AV)} {sh : Sh} {C : Mem} {x : Int32} (hd : decode y.2.1 pc = .ok (.ireturn, 1)) (hr0 : y.2.2.2 = some .int) : WP y d k n pc ls [.inl x] sh C (some (.inl x)) sh C := by
  intro n0 G cs p l e s m args below meth c H locs cells slots mc ms arr hc
  have hc0 := hc
  obtain ⟨hx, hb, hml, hr, hts, hown, hlk, hnm, hK, hH, hS, hn0, hz, hcm, hsm, hl⟩ := hc
  refine W.widen (k := mc) (n := ms) (by omega) (by omega) ?_
  exact W.iret (v := x) hx hb (hr.trans hr0) (fun t ht hW => ⟨rfl, by rw [ht]; exact hH, hS.F ht⟩) hS.2.2 hd
theorem zw_zret {y : MI} {d k n pc : Nat} {ls : List (Option AV)} {sh : Sh} {C : Mem} {x : Int32} (hd : decode y.2.1 pc = .ok (.ireturn, 1)) (hr0 : y.2.2.2 = some .boolean) (hx01 : x = 0 ∨ x = 1) : WP y d k n pc ls [.inl x] sh C (some (.inl x)) sh C := by
  intro n0 G cs p l e s m args below meth c H locs cells slots mc ms arr hc
  have hc0 := hc
  obtain ⟨hx, hb, hml, hr, hts, hown, hlk, hnm, hK, hH, hS, hn0, hz, hcm, hsm, hl⟩ := hc
  refine W.widen (k := mc) (n := ms) (by omega) (by omega) ?_
  exact W.zret (v := x) hx hb (hr.trans hr0) (by rcases hx01 with rfl | rfl <;> rfl) (fun t ht hW => ⟨rfl, by rw [ht]; exact hH, hS.F ht⟩) hS.2.2 hd
theorem zw_vret {y : MI} {d k n pc : Nat} {ls : List (Option AV)} {sh : Sh} {C : Mem} (hd : decode y.2.1 pc = .ok (.return_, 1)) (hr0 : y.2.2.2 = none) : WP y d k n pc ls [] sh C none sh C := by
  intro n0 G cs p l e s m args below meth c H locs cells slots mc ms arr hc
  have hc0 := hc
  obtain ⟨hx, hb, hml, hr, hts, hown, hlk, hnm, hK, hH, hS, hn0, hz, hcm, hsm, hl⟩ := hc
  refine W.widen (k := mc) (n := ms) (by omega) (by omega) ?_
  exact W.vret hx hb (hr.trans hr0) (fun t ht hW => ⟨rfl, by rw [ht]; exact hH, hS.F ht⟩) hS.2.2 hd
theorem WP.wk {y : MI} {d k n pc : Nat} {ls : List (Option AV)} {stk : List AV} {sh sh' : Sh} {C C' : Mem} {r : Option AV} {ls2 : List (Option AV)} (h : ∀ (i : Nat) (v : AV), ls2[i]? = some (some v) → ls[i]? = some (some v)) (kk : WP y d k n pc ls2 stk sh C r sh' C') : WP y d k n pc ls stk sh C r sh' C' := by
  intro n0 G cs p l e s m args below meth c H locs cells slots mc ms arr hc
  have hc0 := hc
  obtain ⟨hx, hb, hml, hr, hts, hown, hlk, hnm, hK, hH, hS, hn0, hz, hcm, hsm, hl⟩ := hc
  exact kk n0 G cs p l e s m args below meth c H locs cells slots mc ms arr ⟨hx, hb, hml, hr, hts, hown, hlk, hnm, hK, hH, hS, hn0, hz, hcm, hsm, ⟨hl.1, hl.2.1, fun i v hi => hl.2.2 i v (h i v hi)⟩⟩
theorem Calls.of {y : MI} {d k n : Nat} {args : List AV} {sh sh' : Sh} {C C' : Mem} {r : Option AV} (hp : plainName y.1.cls = true) (hlen : args.length ≤ y.2.2.1) (kk : WP y d k n 0 (args.map some ++ List.replicate (y.2.2.1 - args.length) none) [] sh C r sh' C') : Calls y d k n args sh C r sh' C' := by
  intro l n0 G cs
  refine Met.ofW (cc := y.2.1) (maxL := y.2.2.1) (ret := y.2.2.2) (ws' := zWS) hp rfl ?_
  intro p e s m args' below meth c s₁ B hml hv
  obtain ⟨rfl, hK, hsz, hP⟩ := hv
  rw [lg_entry_eq]
  exact kk n0 G cs p l e s m _ below meth c s.heap [] 0 0 k n _ ⟨B.exec, B.bytes, hml, B.returns, atoms_spec (ws := wsY y) B.pre, findClass_of_methodNamed B.named, B.notSynchronized, (name_of_methodNamed B.named B.method).1, hK, hP, va_S.rf, by omega, by omega, by omega, by omega, LocOk.entry n0 args hlen⟩
theorem zw_getIv {y : MI} {d k n pc : Nat} {ls : List (Option AV)} {stk : List AV} {sh sh' : Sh} {C C' : Mem} {r : Option AV} {i j kd idx : Nat} {v : Int32} (hd : decode y.2.1 pc = .ok (.getfield idx, 3)) (hi : i < sh.1) (hk : sh.2.1 i = kd) (hkd : kd < 5) (hj : j < nF kd) (hw : Cond.fieldLink y.1.cls idx (TK kd j).1 (TK kd j).2.1 (TK kd j).2.2.1 ∈ zWS) (hf : rF kd j = false) (hv : C i j = v) (kk : WP y d k n (pc + 3) ls (.inl v :: stk) sh C r sh' C') : WP y d k n pc ls (.inr (some i) :: stk) sh C r sh' C' := by
  subst hv
  exact zw_getI hd hi hk hkd hj hw hf kk
theorem zw_ialdv {y : MI} {d k n pc : Nat} {ls : List (Option AV)} {stk : List AV} {sh sh' : Sh} {C C' : Mem} {r : Option AV} {a j : Nat} {x v : Int32} (hd : decode y.2.1 pc = .ok (.iaload, 1)) (hi : a < sh.1) (hk : sh.2.1 a = 6) (hL : sh.2.2.1 a < 2 ^ 31) (hxj : x = nI j) (hj : j < sh.2.2.1 a) (hv : C a j = v) (kk : WP y d k n (pc + 1) ls (.inl v :: stk) sh C r sh' C') : WP y d k n pc ls (.inl x :: .inr (some a) :: stk) sh C r sh' C' := by
  subst hv
  exact zw_iald hd hi hk hL hxj hj kk
theorem zw_iaddn {y : MI} {d k n pc : Nat} {ls : List (Option AV)} {stk : List AV} {sh sh' : Sh} {C C' : Mem} {r : Option AV} {a b : Nat} (hd : decode y.2.1 pc = .ok (.iadd, 1)) (kk : WP y d k n (pc + 1) ls (.inl (nI (a + b)) :: stk) sh C r sh' C') : WP y d k n pc ls (.inl (nI b) :: .inl (nI a) :: stk) sh C r sh' C' := by
  refine zw_iadd hd ?_
  rw [nI_add]
  exact kk
theorem zw_imuln {y : MI} {d k n pc : Nat} {ls : List (Option AV)} {stk : List AV} {sh sh' : Sh} {C C' : Mem} {r : Option AV} {a b : Nat} (hd : decode y.2.1 pc = .ok (.imul, 1)) (kk : WP y d k n (pc + 1) ls (.inl (nI (a * b)) :: stk) sh C r sh' C') : WP y d k n pc ls (.inl (nI b) :: .inl (nI a) :: stk) sh C r sh' C' := by
  refine zw_imul hd ?_
  rw [pk_mul]
  exact kk
theorem zw_isubn {y : MI} {d k n pc : Nat} {ls : List (Option AV)} {stk : List AV} {sh sh' : Sh} {C C' : Mem} {r : Option AV} {a b : Nat} (hd : decode y.2.1 pc = .ok (.isub, 1)) (hle : b ≤ a) (kk : WP y d k n (pc + 1) ls (.inl (nI (a - b)) :: stk) sh C r sh' C') : WP y d k n pc ls (.inl (nI b) :: .inl (nI a) :: stk) sh C r sh' C' := by
  refine zw_isub hd ?_
  rw [pk_sub hle]
  exact kk
theorem zw_idivn {y : MI} {d k n pc : Nat} {ls : List (Option AV)} {stk : List AV} {sh sh' : Sh} {C C' : Mem} {r : Option AV} {a b : Nat} (hd : decode y.2.1 pc = .ok (.idiv, 1)) (ha : a < 2 ^ 31) (hb0 : 0 < b) (hb : b < 2 ^ 31) (kk : WP y d k n (pc + 1) ls (.inl (nI (a / b)) :: stk) sh C r sh' C') : WP y d k n pc ls (.inl (nI b) :: .inl (nI a) :: stk) sh C r sh' C' := by
  refine zw_idiv hd (nI_ne0 hb0 hb) ?_
  rw [pk_div ha hb0 hb]
  exact kk
theorem zw_iremn {y : MI} {d k n pc : Nat} {ls : List (Option AV)} {stk : List AV} {sh sh' : Sh} {C C' : Mem} {r : Option AV} {a b : Nat} (hd : decode y.2.1 pc = .ok (.irem, 1)) (ha : a < 2 ^ 31) (hb0 : 0 < b) (hb : b < 2 ^ 31) (kk : WP y d k n (pc + 1) ls (.inl (nI (a % b)) :: stk) sh C r sh' C') : WP y d k n pc ls (.inl (nI b) :: .inl (nI a) :: stk) sh C r sh' C' := by
  refine zw_irem hd (nI_ne0 hb0 hb) ?_
  rw [pk_rem ha hb0 hb]
  exact kk
theorem zw_iincn {y : MI} {d k n pc : Nat} {ls : List (Option AV)} {stk : List AV} {sh sh' : Sh} {C C' : Mem} {r : Option AV} {i a : Nat} (hd : decode y.2.1 pc = .ok (.iinc i 1, 3)) (hl0 : ls[i]? = some (some (.inl (nI a)))) (hi : i < y.2.2.1) (kk : WP y d k n (pc + 3) (ls.set i (some (.inl (nI (a + 1))))) stk sh C r sh' C') : WP y d k n pc ls stk sh C r sh' C' := by
  exact zw_iinc hd hl0 (nI_1 a) hi kk
theorem zw_top {y : MI} {d k n pc : Nat} {ls : List (Option AV)} {stk : List AV} {sh sh' : Sh} {C C' : Mem} {r : Option AV} {x x2 : Int32} (h : x = x2) (kk : WP y d k n pc ls (.inl x2 :: stk) sh C r sh' C') : WP y d k n pc ls (.inl x :: stk) sh C r sh' C' := by
  subst h
  exact kk
theorem zw_mem {y : MI} {d k n pc : Nat} {ls : List (Option AV)} {stk : List AV} {sh sh' : Sh} {C C' : Mem} {r : Option AV} {C2 : Mem} (h : C = C2) (kk : WP y d k n pc ls stk sh C2 r sh' C') : WP y d k n pc ls stk sh C r sh' C' := by
  subst h
  exact kk
theorem zw_ialdx {y : MI} {d k n pc : Nat} {ls : List (Option AV)} {stk : List AV} {sh sh' : Sh} {C C' : Mem} {r : Option AV} {a : Nat} {x : Int32} (hd : decode y.2.1 pc = .ok (.iaload, 1)) (hi : a < sh.1) (hk : sh.2.1 a = 6) (hL : sh.2.2.1 a < 2 ^ 31) (hin : vp_in x (sh.2.2.1 a)) (kk : WP y d k n (pc + 1) ls (.inl (C a x.toNatClampNeg) :: stk) sh C r sh' C') : WP y d k n pc ls (.inl x :: .inr (some a) :: stk) sh C r sh' C' := by
  obtain ⟨j, hj, hxj⟩ := vp_in_of hin hL
  have e : x.toNatClampNeg = j := by rw [hxj, nI_clamp (by omega)]
  rw [e] at kk
  exact zw_iald hd hi hk hL hxj hj kk
theorem zw_iastx {y : MI} {d k n pc : Nat} {ls : List (Option AV)} {stk : List AV} {sh sh' : Sh} {C C' : Mem} {r : Option AV} {a : Nat} {x v : Int32} (hd : decode y.2.1 pc = .ok (.iastore, 1)) (hi : a < sh.1) (hk : sh.2.1 a = 6) (hL : sh.2.2.1 a < 2 ^ 31) (hin : vp_in x (sh.2.2.1 a)) (kk : WP y d k n (pc + 1) ls stk sh (up C a x.toNatClampNeg v) r sh' C') : WP y d k n pc ls (.inl v :: .inl x :: .inr (some a) :: stk) sh C r sh' C' := by
  obtain ⟨j, hj, hxj⟩ := vp_in_of hin hL
  have e : x.toNatClampNeg = j := by rw [hxj, nI_clamp (by omega)]
  rw [e] at kk
  exact zw_iast hd hi hk hL hxj hj kk
theorem zw_iretE {y : MI} {d k n pc : Nat} {ls : List (Option AV)} {sh sh' : Sh} {C C' : Mem} {r : Option AV} {x : Int32} (hd : decode y.2.1 pc = .ok (.ireturn, 1)) (hr0 : y.2.2.2 = some .int) (hrr : r = some (.inl x)) (hss : sh' = sh) (hCC : C' = C) : WP y d k n pc ls [.inl x] sh C r sh' C' := by
  subst hrr; subst hss; subst hCC
  exact zw_iret hd hr0
theorem zw_zretE {y : MI} {d k n pc : Nat} {ls : List (Option AV)} {sh sh' : Sh} {C C' : Mem} {r : Option AV} {x : Int32} (hd : decode y.2.1 pc = .ok (.ireturn, 1)) (hr0 : y.2.2.2 = some .boolean) (hx01 : x = 0 ∨ x = 1) (hrr : r = some (.inl x)) (hss : sh' = sh) (hCC : C' = C) : WP y d k n pc ls [.inl x] sh C r sh' C' := by
  subst hrr; subst hss; subst hCC
  exact zw_zret hd hr0 hx01
theorem zw_vretE {y : MI} {d k n pc : Nat} {ls : List (Option AV)} {sh sh' : Sh} {C C' : Mem} {r : Option AV} (hd : decode y.2.1 pc = .ok (.return_, 1)) (hr0 : y.2.2.2 = none) (hrr : r = none) (hss : sh' = sh) (hCC : C' = C) : WP y d k n pc ls [] sh C r sh' C' := by
  subst hrr; subst hss; subst hCC
  exact zw_vret hd hr0
/-- what is known of fewer locals -/
def subL : List (Option AV) → List (Option AV) → Prop
  | [], _ => True
  | none :: a, b => subL a b.tail
  | some v :: a, b => b.head? = some (some v) ∧ subL a b.tail
theorem subL_at : ∀ (a b : List (Option AV)), subL a b → ∀ (i : Nat) (v : AV), a[i]? = some (some v) → b[i]? = some (some v)
  | [], b, _, i, v, hi => by simp at hi
  | none :: a, b, h, i, v, hi => by
    cases i with
    | zero => simp at hi
    | succ i =>
      have h1 := subL_at a b.tail h i v (by simpa using hi)
      cases b with
      | nil => simp at h1
      | cons w b => simpa using h1
  | some w :: a, b, h, i, v, hi => by
    obtain ⟨h0, h⟩ := h
    cases b with
    | nil => simp at h0
    | cons u b =>
      simp at h0
      cases i with
      | zero =>
        simp at hi ⊢
        rw [h0, hi]
      | succ i => simpa using subL_at a b h i v (by simpa using hi)
theorem WP.sub {y : MI} {d k n pc : Nat} {ls : List (Option AV)} {stk : List AV} {sh sh' : Sh} {C C' : Mem} {r : Option AV} {ls2 : List (Option AV)} (kk : WP y d k n pc ls2 stk sh C r sh' C') (h : subL ls2 ls) : WP y d k n pc ls stk sh C r sh' C' := WP.wk (subL_at _ _ h) kk
