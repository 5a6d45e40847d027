/-! WALKS WHOSE END IS FOUND ON THE WAY. -/
/-- from this place in the body of y some answer and some memory come out, and Q holds of them -/
def WE (y : MI) (d pc : Nat) (ls : List (Option AV)) (stk : List AV) (sh : Sh) (C : Mem) (Q : Int32 → Mem → Prop) : Prop := ∃ x C', WP y d 0 0 pc ls stk sh C (some (.inl x)) sh C' ∧ Q x C'
theorem we {y : MI} {d pc pc2 : Nat} {ls ls2 : List (Option AV)} {stk stk2 : List AV} {sh : Sh} {C C2 : Mem} {Q : Int32 → Mem → Prop} (h : ∀ r C', WP y d 0 0 pc2 ls2 stk2 sh C2 r sh C' → WP y d 0 0 pc ls stk sh C r sh C') (w : WE y d pc2 ls2 stk2 sh C2 Q) : WE y d pc ls stk sh C Q := by
  obtain ⟨x, C', h1, h2⟩ := w
  exact ⟨x, C', h _ _ h1, h2⟩
theorem we_ret {y : MI} {d pc : Nat} {ls : List (Option AV)} {sh : Sh} {C : Mem} {Q : Int32 → Mem → Prop} {x : Int32} (hd : decode y.2.1 pc = .ok (.ireturn, 1)) (hr0 : y.2.2.2 = some .boolean) (hx : x = 0 ∨ x = 1) (hQ : Q x C) : WE y d pc ls [.inl x] sh C Q := ⟨x, C, zw_zret hd hr0 hx, hQ⟩
theorem we_sub {y : MI} {d pc : Nat} {ls ls2 : List (Option AV)} {stk : List AV} {sh : Sh} {C : Mem} {Q : Int32 → Mem → Prop} (w : WE y d pc ls2 stk sh C Q) (h : subL ls2 ls) : WE y d pc ls stk sh C Q := we (fun _ _ k => WP.sub k h) w
theorem we_top {y : MI} {d pc : Nat} {ls : List (Option AV)} {stk : List AV} {sh : Sh} {C : Mem} {Q : Int32 → Mem → Prop} {x x2 : Int32} (h : x = x2) (w : WE y d pc ls (.inl x2 :: stk) sh C Q) : WE y d pc ls (.inl x :: stk) sh C Q := h ▸ w
theorem we_calls {y : MI} {d : Nat} {args : List AV} {sh : Sh} {C : Mem} {Q : Int32 → Mem → Prop} (hp : plainName y.1.cls = true) (hlen : args.length ≤ y.2.2.1) (w : WE y d 0 (args.map some ++ List.replicate (y.2.2.1 - args.length) none) [] sh C Q) : ∃ x C', Calls y d 0 0 args sh C (some (.inl x)) sh C' ∧ Q x C' := by
  obtain ⟨x, C', h1, h2⟩ := w
  exact ⟨x, C', Calls.of hp hlen h1, h2⟩
theorem nI1 : nI 1 = 1 := by decide
