theorem RowEq.fr' {C D : Mem} {p : Nat} (h : RowEq C 1 (D 135)) (hp : p < 12) : fM C 1 p = frL D 134 p 96 := by
  rw [frL_s]
  show C (1 + 1) p - C (1 + 2) p = _
  rw [(h.2.1 p hp).1, h.2.2.2.2.2 p hp]
  rfl
theorem cp_eq {t P p : Nat} {C D : Mem} {am : Int32} (ht : t ≤ 512) (hp : p < 12) (h : RowEq C 1 (D 135)) (hi : RowInv t (D 135) P) : cbp C 1 p am ↔ cpD D 134 p am := by
  obtain ⟨d, d1, d2⟩ := hi.deb hp
  have c1 : C (1 + 1) p = D (134 + 1) (8 + 7 * p + 0) := (h.2.1 p hp).1
  have c2 : C (1 + 3) p = D (134 + 1) (8 + 7 * p + 1) := (h.2.1 p hp).2.1
  have d1' : D (134 + 1) (8 + 7 * p + 1) = nI d := d1
  have e : (if 0 < am then mn (D (134 + 1) (8 + 7 * p + 1)) am else nI 0) = (if am < 0 then nI 0 else if am < D (134 + 1) (8 + 7 * p + 1) then am else D (134 + 1) (8 + 7 * p + 1)) := by
    by_cases a1 : 0 < am
    · rw [if_pos a1, if_neg (fun z => Int32.lt_irrefl (Int32.lt_trans a1 z))]
      rfl
    · rw [if_neg a1]
      by_cases a2 : am < 0
      · rw [if_pos a2]
      · rw [if_neg a2]
        have a3 : am = 0 := by
          have b1 : ¬ (0 : Int32).toInt < am.toInt := fun z => a1 (Int32.lt_iff_toInt_lt.mpr z)
          have b2 : ¬ am.toInt < (0 : Int32).toInt := fun z => a2 (Int32.lt_iff_toInt_lt.mpr z)
          exact Int32.toInt_inj.mp (by omega)
        subst a3
        rw [d1']
        by_cases hd : d = 0
        · subst hd; decide
        · rw [if_pos (by rw [← nI_0]; exact nI_lt (by omega) (by omega))]
          rfl
  unfold cbp cpD
  rw [h.fr' hp, c1, c2, e]
  constructor
  · rintro ⟨h1, h2⟩; exact ⟨fun z => h1 ⟨z.1, z.2.symm⟩, h2⟩
  · rintro ⟨h1, h2⟩; exact ⟨fun z => h1 ⟨z.1, z.2.symm⟩, h2⟩
theorem nI_ofn {am : Int32} {n : Nat} (h1 : ¬ am < 0) (h2 : am ≤ nI n) (hn : n < 2 ^ 31) : ∃ i, i ≤ n ∧ am = nI i := by
  refine rng hn ⟨?_, h2⟩
  rw [nI_0]
  exact Int32.not_lt.mp h1
theorem b_pay {sh : Sh} (hs : IsSH sh 0) (hm : IsMo sh 134) {t : Nat} {M : Mem} (hR : Rel t M) (ht : t ≤ 512) (x am : Int32) : Bth mX4_pay mX5_pay sh Rel [.inl x, .inl am] t M := by
  obtain ⟨P, o, z, len, hA⟩ := hR
  obtain ⟨⟨hE, hI⟩, ⟨hh1, hh2, hh3⟩, hT, hF⟩ := id hA
  have hz5 := hh2.2.2
  by_cases hx : isP P x ∧ (-100000 ≤ am ∧ am ≤ nI 100000)
  · obtain ⟨⟨p, hp, rfl⟩, ham⟩ := hx
    have hp12 : p < 12 := Nat.lt_of_lt_of_le hp hI.P12
    by_cases hc : cbp M 1 p am
    · obtain ⟨o', ho⟩ := rec_fin hA
      have e1 : ∀ a, 17 ≤ a → payM (recM M 33 o z 1) 1 p am a = recM M 33 o z 1 a := fun a ha => by
        unfold payM
        split
        · exact up_ne (by omega)
        · exact rcv_ne (by omega) (by omega) (by omega)
      obtain ⟨⟨f1, f2, f3, f4⟩, f5⟩ := ho (payM (recM M 33 o z 1) 1 p am) e1
      have hE0 : RowEq (recM M 33 o z 1) 1 (M 135) := hE.fr2 (fun a b1 b2 => recM_now hz5 (by omega))
      have hcd : cpD (payM (recM M 33 o z 1) 1 p am) 134 p am := by
        have h1 : cpD M 134 p am := (cp_eq ht hp12 hE hI).mp hc
        have h' : payM (recM M 33 o z 1) 1 p am (134 + 1) = M (134 + 1) := f4
        unfold cpD at h1 ⊢
        rw [frL_s] at h1 ⊢
        simp only [dm, h'] at h1 ⊢
        exact h1
      have hcc := c_pay_ok hs hA.wf hh1.1 hh2.1 hh1.2 hz5 hp am ham hc
      have hdd := d_pay_ok (D := payM (recM M 33 o z 1) 1 p am) hm f1 hp f2 hz5 am ham hcd
      obtain ⟨st, hst, hs4⟩ := vp4 (hI.2.1 p hp12)
      obtain ⟨k, J, k1, k2, J1, J2, -, -⟩ := hI.mny ht hp12
      have key : RowEq (payM (recM M 33 o z 1) 1 p am) 1 (paD (ntM (payM (recM M 33 o z 1) 1 p am) 134 z) 134 p am 135) ∧ RowInv (t + 1) (paD (ntM (payM (recM M 33 o z 1) 1 p am) 134 z) 134 p am 135) P := by
        generalize hN : ntM (payM (recM M 33 o z 1) 1 p am) 134 z = N at f3
        unfold paD payM
        by_cases hn : am < 0
        · rw [if_pos hn, if_pos hn]
          have g0 : adM N 134 p 0 am 135 (8 + 7 * p + 0) = M 135 (8 + 7 * p + 0) + am := by
            rw [← f3]; exact up_eq
          have gg : ∀ j, j < 1724 → j ≠ 8 + 7 * p + 0 → adM N 134 p 0 am 135 j = M 135 j := fun j _ hj => (up_ne2 hj).trans (congrFun f3 j)
          obtain ⟨i, i1, i2, i3, i4⟩ := nI_neg1 ham.1 hn
          have hki : i ≤ k - J := by
            have h1 := hc.1
            rw [hE.fr' hp12, frL_s] at h1
            have h2 : ¬ (M 135 (8 + 7 * p + 0) - hld (M 135) p < -am) := fun z => h1 ⟨hn, Or.inr z⟩
            rw [k1, J1, nI_subn J2, i3, nI_ltI (by omega) (by omega)] at h2
            omega
          have g1 : adM N 134 p 0 am 135 (8 + 7 * p + 0) = nI (k - i) := by
            rw [g0, k1, i4, ← Int32.sub_eq_add_neg, nI_subn (by omega)]
          exact ⟨row_tk hp12 hE0 (g0.trans (congrArg (· + am) (hE0.2.1 p hp12).1.symm)) gg, inv_tk hp (hI.mono (Nat.le_succ t)) g1 (by omega) J1 (by omega) gg⟩
        · rw [if_neg hn, if_neg hn]
          obtain ⟨i, i1, rfl⟩ := nI_ofn hn ham.2 (by decide)
          rw [rcD_g hst (by rw [f3]; exact hs4), f3]
          exact ⟨row_rcv hp12 hst hs4 hE0, inv_rcv (d := 0) ht hp hst (by omega) hI⟩
      have er : payM (recM M 33 o z 1) 1 p am (0 + 2) p = paD (ntM (payM (recM M 33 o z 1) 1 p am) 134 z) 134 p am (134 + 1) (8 + 7 * p + 0) := (key.1.2.1 p hp12).1
      have hcc' := hcc
      rw [show payM (recM M (0 + 33) o z (0 + 1)) (0 + 1) p am (0 + 2) p = _ from er] at hcc'
      refine ⟨_, _, _, 4, 3, by decide, by decide, hcc', hdd, f5 _ P (fun a h1 h2 => ?_) key.1 key.2⟩
      unfold paD
      split
      · exact up_ne h1
      · exact rcD_a h1
    · exact Bth.q hA (c_pay_ill hs hA.wf hp am ham hc) (d_pay_ill hm hA.wm hp am ham (fun z => hc ((cp_eq ht hp12 hE hI).mpr z))) (by decide) (by decide) rfl
  · exact Bth.q hA (c_pay_bad hs hA.wf x am hx) (d_pay_bad hm hA.wm x am hx) (by decide) (by decide) rfl
