/-! ===== a layer of my own: worlds as numbered cells, and a judgement 'from here the method comes to this end' over them ===== -/
abbrev AV : Type := Int32 ⊕ Option Nat
abbrev Mem : Type := Nat → Nat → Int32
abbrev Sh : Type := Nat × (Nat → Nat) × (Nat → Nat) × (Nat → Nat → Option Nat)
abbrev MI : Type := MethodName × ByteArray × Nat × Option FieldType
abbrev Cs : Type := ClassId × ClassId × ClassId
def rv (n0 : Nat) (v : AV) : Value := match v with
  | .inl x => .int x
  | .inr r => va_rf (r.map (fun i => n0 + i))
theorem rv_cat (n0 : Nat) (v : AV) : (rv n0 v).category = 1 := by
  cases v with
  | inl x => rfl
  | inr r => cases r <;> rfl
/-- how many fields a kind has; which of them are references -/
def nF : Nat → Nat
  | 0 => 3
  | 1 => 7
  | 2 => 8
  | 3 => 19
  | 4 => 5
  | _ => 14
def rF : Nat → Nat → Bool
  | 0, j => j == 0
  | 1, _ => false
  | 2, j => j == 0 || j == 2 || j == 7
  | 3, j => Nat.ble 4 j
  | 4, _ => true
  | _, j => j == 0 || j == 1 || j == 3 || j == 4 || j == 8 || j == 11 || j == 12
def RK : Nat → String
  | 0 => RX0
  | 1 => RX1
  | 2 => RX2
  | 3 => RX3
  | 4 => RX4
  | _ => RX5
def TK : Nat → u_T
  | 0 => TX0
  | 1 => TX1
  | 2 => TX2
  | 3 => TX3
  | 4 => TX4
  | _ => TX5
def tyK : Nat → Nat → FieldType
  | 0 => tyX0
  | 1 => tyX1
  | 2 => tyX2
  | 3 => tyX3
  | 4 => tyX4
  | _ => tyX5
theorem K_cl {k : Nat} (h : k < 5) : vwCl[k]? = some (RK k, TK k, nF k) := by
  match k, h with
  | 0, _ => rfl
  | 1, _ => rfl
  | 2, _ => rfl
  | 3, _ => rfl
  | 4, _ => rfl
theorem K_in {k : Nat} (h : k < 5) : ∀ w ∈ u_ws (RK k) (TK k) (nF k), w ∈ zWS := by
  match k, h with
  | 0, _ => exact zinX0
  | 1, _ => exact zinX1
  | 2, _ => exact zinX2
  | 3, _ => exact zinX3
  | 4, _ => exact zinX4
theorem K_nm {k : Nat} (h : k < 5) : ∀ a, a < nF k → ∀ b, b < nF k → a ≠ b → (TK k a).2.1 ≠ (TK k b).2.1 := by
  match k, h with
  | 0, _ => exact nmX0
  | 1, _ => exact nmX1
  | 2, _ => exact nmX2
  | 3, _ => exact nmX3
  | 4, _ => exact nmX4
theorem K_ty {k : Nat} (h : k < 5) : ∀ j, j < nF k → parseFieldDescriptor (TK k j).2.2.1 = some (tyK k j) := by
  match k, h with
  | 0, _ => exact tyX0_ok
  | 1, _ => exact tyX1_ok
  | 2, _ => exact tyX2_ok
  | 3, _ => exact tyX3_ok
  | 4, _ => exact tyX4_ok
def fv (n0 : Nat) (b : Bool) (x : Int32) (r : Option Nat) : Value := match b with
  | true => va_rf (r.map (fun i => n0 + i))
  | false => .int x
def flds (n0 k : Nat) (c : Nat → Int32) (r : Nat → Option Nat) : List Value := (List.range (nF k)).map (fun j => fv n0 (rF k j) (c j) (r j))
def ent (n0 : Nat) (cs : Cs) (k len : Nat) (c : Nat → Int32) (r : Nat → Option Nat) : va_E :=
  if k = 6 then .inl (cs.1, len, .inl c)
  else if k = 7 then .inl (cs.2.1, len, .inr (.inr (.inr (.inr (fun j => (r j).map (fun i => n0 + i))))))
  else if k = 8 then .inl (cs.2.2, len, .inr (.inr (.inr (.inr (fun j => (r j).map (fun i => n0 + i))))))
  else .inr (k, flds n0 k c r)
def entS (n0 : Nat) (cs : Cs) (sh : Sh) (C : Mem) (i : Nat) : va_E := ent n0 cs (sh.2.1 i) (sh.2.2.1 i) (C i) (sh.2.2.2 i)
def wsl (n0 : Nat) (cs : Cs) (sh : Sh) (C : Mem) : va_W := (List.range sh.1).map (fun i => (n0 + i, entS n0 cs sh C i))
theorem wsl_at {n0 : Nat} {cs : Cs} {sh : Sh} {C : Mem} {i : Nat} (h : i < sh.1) : (wsl n0 cs sh C)[i]? = some (n0 + i, entS n0 cs sh C i) := by
  simp [wsl, h]
theorem wsl_len {n0 : Nat} {cs : Cs} {sh : Sh} {C : Mem} : (wsl n0 cs sh C).length = sh.1 := by simp [wsl]
theorem wsl_inv {n0 : Nat} {cs : Cs} {sh : Sh} {C : Mem} {i : Nat} {q : Nat × va_E} (h : (wsl n0 cs sh C)[i]? = some q) : i < sh.1 ∧ q = (n0 + i, entS n0 cs sh C i) := by
  have hl : i < sh.1 := by
    have := (List.getElem?_eq_some_iff.mp h).1
    rwa [wsl_len] at this
  rw [wsl_at hl] at h
  exact ⟨hl, (Option.some.inj h).symm⟩
theorem wsl_D {n0 : Nat} {cs : Cs} {sh : Sh} {C : Mem} : va_D (fun q => n0 ≤ q) (wsl n0 cs sh C) := by
  refine ⟨fun i j p q hi hj h => ?_, fun k q h => ?_⟩
  · obtain ⟨-, rfl⟩ := wsl_inv hi
    obtain ⟨-, rfl⟩ := wsl_inv hj
    exact Nat.add_left_cancel h
  · obtain ⟨-, rfl⟩ := wsl_inv h
    exact Nat.le_add_right _ _
theorem ent_int {n0 : Nat} {cs : Cs} {k len : Nat} {c : Nat → Int32} {r : Nat → Option Nat} (h : k = 6) : ent n0 cs k len c r = .inl (cs.1, len, .inl c) := by simp [ent, h]
theorem ent_7 {n0 : Nat} {cs : Cs} {k len : Nat} {c : Nat → Int32} {r : Nat → Option Nat} (h : k = 7) : ent n0 cs k len c r = .inl (cs.2.1, len, .inr (.inr (.inr (.inr (fun j => (r j).map (fun i => n0 + i)))))) := by simp [ent, h]
theorem ent_8 {n0 : Nat} {cs : Cs} {k len : Nat} {c : Nat → Int32} {r : Nat → Option Nat} (h : k = 8) : ent n0 cs k len c r = .inl (cs.2.2, len, .inr (.inr (.inr (.inr (fun j => (r j).map (fun i => n0 + i)))))) := by simp [ent, h]
theorem ent_obj {n0 : Nat} {cs : Cs} {k len : Nat} {c : Nat → Int32} {r : Nat → Option Nat} (h : k < 5) : ent n0 cs k len c r = .inr (k, flds n0 k c r) := by
  have h6 : k ≠ 6 := by omega
  have h7 : k ≠ 7 := by omega
  have h8 : k ≠ 8 := by omega
  simp [ent, h6, h7, h8]
theorem flds_at {n0 k : Nat} {c : Nat → Int32} {r : Nat → Option Nat} {j : Nat} (h : j < nF k) : (flds n0 k c r)[j]? = some (fv n0 (rF k j) (c j) (r j)) := by
  simp [flds, h]
theorem flds_len {n0 k : Nat} {c : Nat → Int32} {r : Nat → Option Nat} : (flds n0 k c r).length = nF k := by simp [flds]
theorem flds_set {n0 k : Nat} {c c' : Nat → Int32} {r r' : Nat → Option Nat} {j : Nat} {v : Value} (hj : j < nF k) (hv : v = fv n0 (rF k j) (c' j) (r' j)) (ho : ∀ i, i ≠ j → c' i = c i ∧ r' i = r i) : (flds n0 k c r).set j v = flds n0 k c' r' := by
  apply List.ext_getElem?
  intro i
  rw [List.getElem?_set]
  by_cases hi : i < nF k
  · rw [flds_at hi, flds_at hi]
    by_cases hij : j = i
    · subst hij
      simp [flds_len, hj, hv]
    · obtain ⟨e1, e2⟩ := ho i (Ne.symm hij)
      simp [hij, e1, e2]
  · have h1 : (flds n0 k c r)[i]? = none := List.getElem?_eq_none (by rw [flds_len]; omega)
    have h2 : (flds n0 k c' r')[i]? = none := List.getElem?_eq_none (by rw [flds_len]; omega)
    have hij : ¬ j = i := by omega
    rw [h1, h2]
    simp [hij]
theorem wsl_set {n0 : Nat} {cs : Cs} {sh sh' : Sh} {C C' : Mem} {i : Nat} {e : va_E} (hi : i < sh.1) (hn : sh'.1 = sh.1) (he : entS n0 cs sh' C' i = e) (ho : ∀ j, j ≠ i → entS n0 cs sh' C' j = entS n0 cs sh C j) : (wsl n0 cs sh C).set i (n0 + i, e) = wsl n0 cs sh' C' := by
  apply List.ext_getElem?
  intro j
  rw [List.getElem?_set]
  by_cases hj : j < sh.1
  · rw [wsl_at hj, wsl_at (by rw [hn]; exact hj)]
    by_cases hij : i = j
    · subst hij
      simp [wsl_len, hi, he]
    · simp [hij, ho j (Ne.symm hij)]
  · have h1 : (wsl n0 cs sh C)[j]? = none := List.getElem?_eq_none (by rw [wsl_len]; omega)
    have h2 : (wsl n0 cs sh' C')[j]? = none := List.getElem?_eq_none (by rw [wsl_len, hn]; omega)
    have hij : ¬ i = j := by omega
    rw [h1, h2]
    simp [hij]
/-- one slot of one cell -/
def up (C : Mem) (a j : Nat) (x : Int32) : Mem := fun a' => if a' = a then upd (C a) j x else C a'
def setR (sh : Sh) (i j : Nat) (t : Option Nat) : Sh := (sh.1, sh.2.1, sh.2.2.1, fun a => if a = i then (fun b => if b = j then t else sh.2.2.2 i b) else sh.2.2.2 a)
def pushS (sh : Sh) (k len : Nat) : Sh := (sh.1 + 1, (fun i => if i = sh.1 then k else sh.2.1 i), (fun i => if i = sh.1 then len else sh.2.2.1 i), fun i => if i = sh.1 then (fun _ => none) else sh.2.2.2 i)
def pushC (C : Mem) (n : Nat) : Mem := fun a => if a = n then (fun _ => 0) else C a
theorem wsl_push {n0 : Nat} {cs : Cs} {sh : Sh} {C : Mem} {k len : Nat} : wsl n0 cs sh C ++ [(n0 + sh.1, ent n0 cs k len (fun _ => 0) (fun _ => none))] = wsl n0 cs (pushS sh k len) (pushC C sh.1) := by
  show _ = (List.range (sh.1 + 1)).map _
  rw [List.range_succ, List.map_append]
  congr 1
  · refine List.map_congr_left fun i hi => ?_
    have h : i ≠ sh.1 := Nat.ne_of_lt (List.mem_range.mp hi)
    simp [entS, pushS, pushC, h]
  · simp [entS, pushS, pushC]
def tysOf (cs : Cs) : List (ClassId × FieldType) := [(cs.1, .int), (cs.2.1, .object "SilenceHours$Part"), (cs.2.2, .object "SilenceHours$State")]
def nestWs : List Cond := [.methodLinkNest "SilenceHours" 11 yX3_init "SilenceHours", .methodLinkNest "SilenceHours$History" 17 yX3_init "SilenceHours", .methodLinkNest "SilenceHours$Plan" 28 yX1_init "SilenceHours", .methodLinkNest "SilenceHours$State" 80 yX4_isWithin "SilenceHours", .methodLinkNest "SilenceHours$State" 116 yX4_otherSide "SilenceHours", .methodLinkNest "SilenceHours$State" 156 yX4_slotAt "SilenceHours", .methodLinkNest "SilenceHours$Plan" 109 yX4_isWithin "SilenceHours", .methodLinkNest "SilenceHours$Plan" 103 yX4_isStreet "SilenceHours"]
def KF (G : va_G) (cs : Cs) (U : State) : Prop := va_K G vwCl (tysOf cs) U ∧ (∀ w ∈ nestWs, va_Nw w U) ∧ va_AO "SilenceHours$State" U ∧ va_AO "SilenceHours$Part" U
theorem KF.moved {G : va_G} {cs : Cs} {s U : State} (h : KF G cs s) (hW : s.WarmedH U.vm) : KF G cs U := by
  refine ⟨va_K.moved hW.alike h.1, fun w hw => ?_, va_AO.moved hW.alike h.2.2.1, va_AO.moved hW.alike h.2.2.2⟩
  have h1 := h.2.1 w hw
  have key : ∃ a i x g, w = Cond.methodLinkNest a i x g := by
    simp only [nestWs, List.mem_cons, List.not_mem_nil, or_false] at hw
    rcases hw with rfl | rfl | rfl | rfl | rfl | rfl | rfl | rfl <;> exact ⟨_, _, _, _, rfl⟩
  obtain ⟨a, i, x, g, rfl⟩ := key
  exact va_Nw.warmM hW h1
def HW (n0 : Nat) (G : va_G) (cs : Cs) (sh : Sh) (C : Mem) (H : Heap) : Prop := va_P G vwCl (wsl n0 cs sh C) H
def rmm (d k n : Nat) : Room := { frames := d, cells := k, slots := n, locals := 37 * d }
def wsY (y : MI) : List Cond := Cond.code y.1 y.2.1 y.2.2.1 y.2.2.2 :: zWS
theorem zWS_tbl {w : Cond} (h : w ∈ zWS) : w ∈ lw_tbl := (List.mem_filter.mp h).1
theorem goodIn_zw {y : MI} {L : List Cond} (h : ∀ w ∈ L, w ∈ zWS) : GoodIn (wsY y) L := fun w hw => ⟨List.mem_cons_of_mem _ (h w hw), good_of_word (List.mem_filter.mp (h w hw)).2⟩
def Qcc (n0 : Nat) (G : va_G) (cs : Cs) (r : Option AV) (sh : Sh) (C : Mem) : Array Value → State → Outcome → State → Prop := fun _ st oc t => oc = .returned (r.map (rv n0)) ∧ HW n0 G cs sh C t.heap ∧ va_F (fun q => n0 ≤ q) st t
def Pcc (n0 : Nat) (G : va_G) (cs : Cs) (args : List AV) (sh : Sh) (C : Mem) : Array Value → State → Prop := va_Pc (args.map (rv n0)) (fun U => KF G cs U ∧ U.heap.size = n0 + sh.1 ∧ HW n0 G cs sh C U.heap)
/-- the method y, at depth d with k new cells of n slots, called with args in the world sh, C: it returns r, in the world sh', C' -/
def Calls (y : MI) (d k n : Nat) (args : List AV) (sh : Sh) (C : Mem) (r : Option AV) (sh' : Sh) (C' : Mem) : Prop :=
  ∀ (l : Launch) (n0 : Nat) (G : va_G) (cs : Cs), Met l y.1 (wsY y) (rmm d k n) (Pcc n0 G cs args sh C) (Qcc n0 G cs r sh' C') k n (fun q => n0 ≤ q)
def LocOk (n0 : Nat) (arr : Array Slot) (nL : Nat) (ls : List (Option AV)) : Prop := arr.size = nL ∧ lv_wf arr ∧ ∀ (i : Nat) (v : AV), ls[i]? = some (some v) → arr[i]? = some (.val (rv n0 v))
/-- what holds inside a body -/
def Cx (y : MI) (k n n0 : Nat) (G : va_G) (cs : Cs) (p : Program) (s : State) (m : MethodId) (args : Array Value) (meth : Method) (c : Code) (H : Heap) (locs : List Loc) (cells slots mc ms : Nat) (arr : Array Slot) (sh : Sh) (C : Mem) (ls : List (Option AV)) : Prop :=
  p.tables.exec = Jvm.exec ∧ c.code = y.2.1 ∧ c.maxLocals = y.2.2.1 ∧ meth.sig.returnType = y.2.2.2 ∧ (∀ w ∈ wsY y, w.before args s = true) ∧ s.vm.findClass y.1.cls = some m.cls ∧ meth.locks = false ∧ meth.name = y.1.name ∧ KF G cs s ∧ HW n0 G cs sh C H ∧ va_S (fun q => n0 ≤ q) s.heap H locs ∧ n0 ≤ s.heap.size ∧ s.heap.size + cells = n0 + sh.1 ∧ cells + k ≤ mc ∧ slots + n ≤ ms ∧ LocOk n0 arr y.2.2.1 ls
/-- from this place in the body of y, with these locals, this stack and this world: y returns r, in the world sh', C' -/
def WP (y : MI) (d k n pc : Nat) (ls : List (Option AV)) (stk : List AV) (sh : Sh) (C : Mem) (r : Option AV) (sh' : Sh) (C' : Mem) : Prop :=
  ∀ (n0 : Nat) (G : va_G) (cs : Cs) (p : Program) (l : Launch) (e : Env) (s : State) (m : MethodId) (args : Array Value) (below : List Frame) (meth : Method) (c : Code) (H : Heap) (locs : List Loc) (cells slots mc ms : Nat) (arr : Array Slot),
    Cx y k n n0 G cs p s m args meth c H locs cells slots mc ms arr sh C ls →
    W p l e (rmm d mc ms) s m args below meth c H locs cells slots (MQ below (Qcc n0 G cs r sh' C') args s mc ms (fun q => n0 ≤ q)) (F0 m pc arr (stk.map (rv n0)))
theorem LocOk.lt {n0 nL : Nat} {arr : Array Slot} {ls : List (Option AV)} (h : LocOk n0 arr nL ls) {i : Nat} {v : AV} (hi : ls[i]? = some (some v)) : arr[i]? = some (.val (rv n0 v)) := h.2.2 i v hi
def encL (n0 : Nat) : Nat → List (Option AV) → List (Nat × Value)
  | _, [] => []
  | i, none :: t => encL n0 (i + 1) t
  | i, some v :: t => (i, rv n0 v) :: encL n0 (i + 1) t
theorem encL_mem {n0 : Nat} : ∀ (ls : List (Option AV)) (i : Nat) (q : Nat × Value), q ∈ encL n0 i ls ↔ ∃ (j : Nat) (v : AV), ls[j]? = some (some v) ∧ q = (i + j, rv n0 v)
  | [], i, q => by simp [encL]
  | none :: t, i, q => by
    rw [encL, encL_mem t (i + 1) q]
    constructor
    · rintro ⟨j, v, h1, h2⟩
      exact ⟨j + 1, v, by simpa using h1, by rw [h2]; congr 1; omega⟩
    · rintro ⟨j, v, h1, h2⟩
      cases j with
      | zero => simp at h1
      | succ j => exact ⟨j, v, by simpa using h1, by rw [h2]; congr 1; omega⟩
  | some w :: t, i, q => by
    rw [encL, List.mem_cons, encL_mem t (i + 1) q]
    constructor
    · rintro (h | ⟨j, v, h1, h2⟩)
      · exact ⟨0, w, by simp, by rw [h]; rfl⟩
      · exact ⟨j + 1, v, by simpa using h1, by rw [h2]; congr 1; omega⟩
    · rintro ⟨j, v, h1, h2⟩
      cases j with
      | zero =>
        simp at h1
        subst h1
        exact Or.inl h2
      | succ j => exact Or.inr ⟨j, v, by simpa using h1, by rw [h2]; congr 1; omega⟩
theorem encL_has {n0 nL : Nat} {arr : Array Slot} {ls : List (Option AV)} (h : LocOk n0 arr nL ls) : lv_has arr nL (encL n0 0 ls) := by
  refine ⟨h.1, h.2.1, fun q hq => ?_⟩
  obtain ⟨j, v, h1, rfl⟩ := (encL_mem ls 0 q).mp hq
  have h2 := h.2.2 j v h1
  simpa using h2
theorem encL_at {n0 : Nat} {ls : List (Option AV)} {i : Nat} {x : Int32} (h : ls[i]? = some (some (.inl x))) : ∃ k : Nat, (encL n0 0 ls)[k]? = some (i, Value.int x) := by
  have hm : (i, Value.int x) ∈ encL n0 0 ls := (encL_mem ls 0 _).mpr ⟨i, .inl x, h, by simp [rv]⟩
  obtain ⟨k, hk⟩ := List.getElem?_of_mem hm
  exact ⟨k, hk⟩
theorem LocOk.set {n0 nL : Nat} {arr arr1 : Array Slot} {ls : List (Option AV)} {i : Nat} (h : LocOk n0 arr nL ls) (v : AV) (h1 : lv_has arr1 nL ((i, rv n0 v) :: (encL n0 0 ls).filter (fun q => !(q.1 == i) && !(q.1 + 1 == i && q.2.category == 2)))) : LocOk n0 arr1 nL (ls.set i (some v)) := by
  refine ⟨h1.1, h1.2.1, fun j w hj => ?_⟩
  rw [List.getElem?_set] at hj
  by_cases hij : i = j
  · subst hij
    have h0 := h1.2.2 _ List.mem_cons_self
    rw [if_pos rfl] at hj
    split at hj
    · cases hj
      exact h0
    · cases hj
  · rw [if_neg hij] at hj
    have hm : (j, rv n0 w) ∈ encL n0 0 ls := (encL_mem ls 0 _).mpr ⟨j, w, hj, by simp⟩
    refine h1.2.2 (j, rv n0 w) (List.mem_cons_of_mem _ (List.mem_filter.mpr ⟨hm, ?_⟩))
    have e1 : (j == i) = false := by simpa using Ne.symm hij
    simp [e1, rv_cat]
theorem HW.size {n0 : Nat} {G : va_G} {cs : Cs} {sh : Sh} {C : Mem} {H : Heap} {p : Program} {l : Launch} {e : Env} {R : Room} {s : State} {m : MethodId} {args : Array Value} {below : List Frame} {meth : Method} {c : Code} {T : State} {locs : List Loc} {cells slots : Nat} (h : HW n0 G cs sh C H) (X : Stand p l e R s m args below meth c T locs cells slots) (hT : T.heap = H) (h0 : n0 ≤ s.heap.size) (hz : s.heap.size + cells = n0 + sh.1) : H.size = n0 + sh.1 := by
  have h1 : T.heap.size ≤ s.heap.size + cells := X.same.2.2.1
  have h2 : s.heap.size ≤ T.heap.size := X.same.2.1
  rw [hT] at h1 h2
  by_cases hn : sh.1 = 0
  · omega
  · have h3 := (h (sh.1 - 1) _ (wsl_at (by omega))).lt
    have h4 : n0 + (sh.1 - 1) < H.size := h3
    omega
theorem lg_sl_rv (n0 : Nat) (args : List AV) : lg_sl (args.map (rv n0)) = args.map (fun v => Slot.val (rv n0 v)) := by
  induction args with
  | nil => rfl
  | cons v t ih =>
    have e : lg_sl ((v :: t).map (rv n0)) = (if (rv n0 v).category = 2 then [Slot.val (rv n0 v), .second] else [Slot.val (rv n0 v)]) ++ lg_sl (t.map (rv n0)) := by
      simp [lg_sl]
    rw [e, ih, if_neg (by rw [rv_cat]; decide)]
    rfl
theorem LocOk.entry (n0 : Nat) (args : List AV) {nL : Nat} (h : args.length ≤ nL) : LocOk n0 ((lg_sl (args.map (rv n0)) ++ List.replicate (nL - (lg_sl (args.map (rv n0))).length) Slot.unset).toArray) nL (args.map some ++ List.replicate (nL - args.length) none) := by
  have hlen : (lg_sl (args.map (rv n0))).length = args.length := by rw [lg_sl_rv, List.length_map]
  have h0 := lv_entry (args.map (rv n0)) (n := nL) (by rw [hlen]; exact h)
  refine ⟨h0.1, h0.2.1, fun i v hi => ?_⟩
  rw [List.getElem?_toArray, lg_sl_rv]
  by_cases hl : i < args.length
  · rw [List.getElem?_append_left (by simpa using hl)] at hi ⊢
    rw [List.getElem?_map] at hi ⊢
    rw [List.getElem?_eq_getElem hl] at hi ⊢
    simp at hi
    subst hi
    rfl
  · rw [List.getElem?_append_right (by simpa using hl)] at hi
    rw [List.getElem?_replicate] at hi
    split at hi <;> cases hi
