/-! ALL CALLS KEEP STEP. -/
theorem stp20 : Stp20 shZ Rel := fun t M ht h =>
  ⟨fun x1 x2 x3 x4 x5 => b_join shZ_s shZ_m h x1,
   fun x1 x2 x3 x4 x5 => b_pay shZ_s shZ_m h (Nat.le_of_lt ht) x1 x2,
   fun x1 x2 x3 x4 x5 => b_bid shZ_s shZ_m h (Nat.le_of_lt ht) x1 x2 x3 x4 x5,
   fun x1 x2 x3 x4 x5 => b_setFine shZ_s shZ_m h x1,
   fun x1 x2 x3 x4 x5 => b_settle shZ_s shZ_m h ht,
   fun x1 x2 x3 x4 x5 => b_breach shZ_s shZ_m h ht x1 x2 x3,
   fun x1 x2 x3 x4 x5 => b_undo shZ_s shZ_m h,
   fun x1 x2 x3 x4 x5 => b_append shZ_s shZ_m h x1,
   fun x1 x2 x3 x4 x5 => b_clearText shZ_s shZ_m h,
   fun x1 x2 x3 x4 x5 => b_run shZ_s shZ_m h (Nat.le_of_lt ht) x1,
   fun x1 x2 x3 x4 x5 => b_failure shZ_s shZ_m h x1,
   fun x1 x2 x3 x4 x5 => b_count shZ_s shZ_m h x1,
   fun x1 x2 x3 x4 x5 => b_person shZ_s shZ_m h x1 x2,
   fun x1 x2 x3 x4 x5 => b_slot shZ_s shZ_m h x1 x2 x3,
   fun x1 x2 x3 x4 x5 => b_bidOf shZ_s shZ_m h x1 x2 x3,
   fun x1 x2 x3 x4 x5 => b_fund shZ_s shZ_m h x1,
   fun x1 x2 x3 x4 x5 => b_winner shZ_s shZ_m h x1 x2,
   fun x1 x2 x3 x4 x5 => b_needed shZ_s shZ_m h x1 x2 x3,
   fun x1 x2 x3 x4 x5 => b_quiet shZ_s shZ_m h x1 x2,
   fun x1 x2 x3 x4 x5 => b_purseThen shZ_s shZ_m h ht x1,
   by
    obtain ⟨P, o, z, len, hA⟩ := h
    exact hA.up1⟩
