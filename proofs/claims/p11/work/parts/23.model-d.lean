theorem tl_add {a b : Int64} (h1 : -9223372036854775808 ≤ a.toInt + b.toInt) (h2 : a.toInt + b.toInt ≤ 9223372036854775807) : (a + b).toInt = a.toInt + b.toInt := by
  rw [Int64.toInt_add]; exact Int.bmod_eq_of_le (by omega) (by omega)
theorem tl_mul {a b : Int64} (h1 : -9223372036854775808 ≤ a.toInt * b.toInt) (h2 : a.toInt * b.toInt ≤ 9223372036854775807) : (a * b).toInt = a.toInt * b.toInt := by
  rw [Int64.toInt_mul]; exact Int.bmod_eq_of_le (by omega) (by omega)
theorem tl_neg {a : Int64} (h1 : -9223372036854775807 ≤ a.toInt) : (-a).toInt = -a.toInt := by
  have h2 : a.toInt < 2 ^ 63 := Int64.toInt_lt a
  rw [Int64.toInt_neg]; exact Int.bmod_eq_of_le (by omega) (by omega)
theorem i32_ge (x : Int32) : -2147483648 ≤ x.toInt := Int32.le_toInt x
theorem i32_le (x : Int32) : x.toInt ≤ 2147483647 := by have := Int32.toInt_lt x; omega
theorem sh5 {x : Int64} : (x >>> ((5 : Int32).toInt64 &&& 63)).toInt = x.toInt / 32 := by
  show (x.toBitVec.sshiftRight (((5 : Int32).toInt64 &&& 63).toBitVec.smod 64).toNat).toInt = _
  rw [show (((5 : Int32).toInt64 &&& 63).toBitVec.smod 64).toNat = 5 from by decide, BitVec.toInt_sshiftRight, Int.shiftRight_eq_div_pow]
  rfl
theorem an_p {x : Int32} : ((x.toInt64) * 2).toInt = x.toInt * 2 := by
  have h1 := i32_ge x; have h2 := i32_le x
  have e : (x.toInt64).toInt = x.toInt := Int32.toInt_toInt64 x
  have k : (2 : Int64).toInt = 2 := by decide
  rw [tl_mul (by rw [e, k]; omega) (by rw [e, k]; omega), e, k]
theorem an_n {x : Int32} : (((-(x.toInt64)) * 2) + 1).toInt = -x.toInt * 2 + 1 := by
  have h1 := i32_ge x; have h2 := i32_le x
  have e : (x.toInt64).toInt = x.toInt := Int32.toInt_toInt64 x
  have k : (2 : Int64).toInt = 2 := by decide
  have k1 : (1 : Int64).toInt = 1 := by decide
  have e1 : (-(x.toInt64)).toInt = -x.toInt := by rw [tl_neg (by rw [e]; omega), e]
  have e2 : ((-(x.toInt64)) * 2).toInt = -x.toInt * 2 := by rw [tl_mul (by rw [e1, k]; omega) (by rw [e1, k]; omega), e1, k]
  rw [tl_add (by rw [e2, k1]; omega) (by rw [e2, k1]; omega), e2, k1]
theorem an_pos {x : Int32} (h : 0 ≤ x) : 0 ≤ ((x.toInt64) * 2).toInt := by
  have := i_le h; rw [Int32.toInt_zero] at this; rw [an_p]; omega
theorem an_neg {x : Int32} (h : ¬ 0 ≤ x) : 0 ≤ (((-(x.toInt64)) * 2) + 1).toInt := by
  have := i_nle h; rw [Int32.toInt_zero] at this; rw [an_n]; omega
theorem an_pm {x : Int32} (h : 0 ≤ x) : 0 < ((10 : Nat) : Int) ∧ ((1 : Int32).toInt = 0 ∨ (((10 : Nat) : Int) > 1 ∧ (((x.toInt64) * 2).toInt < 32 ∨ (((10 : Nat) : Int) > 2 ∧ (((x.toInt64) * 2).toInt < 1024 ∨ (((10 : Nat) : Int) > 3 ∧ (((x.toInt64) * 2).toInt < 32768 ∨ (((10 : Nat) : Int) > 4 ∧ (((x.toInt64) * 2).toInt < 1048576 ∨ (((10 : Nat) : Int) > 5 ∧ (((x.toInt64) * 2).toInt < 33554432 ∨ (((10 : Nat) : Int) > 6 ∧ (((x.toInt64) * 2).toInt < 1073741824 ∨ (((10 : Nat) : Int) > 7 ∧ ((x.toInt64) * 2).toInt < 34359738368)))))))))))))) := by
  have h2 := i32_le x; have k : (1 : Int32).toInt = 1 := by decide
  rw [an_p, k]; generalize x.toInt = z at *; omega
theorem an_nm {x : Int32} (h : ¬ 0 ≤ x) : 0 < ((10 : Nat) : Int) ∧ ((1 : Int32).toInt = 0 ∨ (((10 : Nat) : Int) > 1 ∧ ((((-(x.toInt64)) * 2) + 1).toInt < 32 ∨ (((10 : Nat) : Int) > 2 ∧ ((((-(x.toInt64)) * 2) + 1).toInt < 1024 ∨ (((10 : Nat) : Int) > 3 ∧ ((((-(x.toInt64)) * 2) + 1).toInt < 32768 ∨ (((10 : Nat) : Int) > 4 ∧ ((((-(x.toInt64)) * 2) + 1).toInt < 1048576 ∨ (((10 : Nat) : Int) > 5 ∧ ((((-(x.toInt64)) * 2) + 1).toInt < 33554432 ∨ (((10 : Nat) : Int) > 6 ∧ ((((-(x.toInt64)) * 2) + 1).toInt < 1073741824 ∨ (((10 : Nat) : Int) > 7 ∧ (((-(x.toInt64)) * 2) + 1).toInt < 34359738368)))))))))))))) := by
  have h2 := i32_ge x; have k : (1 : Int32).toInt = 1 := by decide
  rw [an_n, k]; generalize x.toInt = z at *; omega
theorem an_s1 {xx : Int64} {mo : Int32} {n : Nat} (hx : 0 ≤ xx.toInt) (h0 : 0 ≤ mo.toInt) (h1 : mo.toInt ≤ 1) (hmo : ¬ mo = 0) (hmu : 0 < ((n + 1 : Nat) : Int) ∧ (mo.toInt = 0 ∨ (((n + 1 : Nat) : Int) > 1 ∧ (xx.toInt < 32 ∨ (((n + 1 : Nat) : Int) > 2 ∧ (xx.toInt < 1024 ∨ (((n + 1 : Nat) : Int) > 3 ∧ (xx.toInt < 32768 ∨ (((n + 1 : Nat) : Int) > 4 ∧ (xx.toInt < 1048576 ∨ (((n + 1 : Nat) : Int) > 5 ∧ (xx.toInt < 33554432 ∨ (((n + 1 : Nat) : Int) > 6 ∧ (xx.toInt < 1073741824 ∨ (((n + 1 : Nat) : Int) > 7 ∧ xx.toInt < 34359738368))))))))))))))) (hc : ¬ lg_cmp (xx >>> ((5 : Int32).toInt64 &&& 63)) 0 ≤ 0) : 0 < ((n : Nat) : Int) ∧ ((1 : Int32).toInt = 0 ∨ (((n : Nat) : Int) > 1 ∧ ((xx >>> ((5 : Int32).toInt64 &&& 63)).toInt < 32 ∨ (((n : Nat) : Int) > 2 ∧ ((xx >>> ((5 : Int32).toInt64 &&& 63)).toInt < 1024 ∨ (((n : Nat) : Int) > 3 ∧ ((xx >>> ((5 : Int32).toInt64 &&& 63)).toInt < 32768 ∨ (((n : Nat) : Int) > 4 ∧ ((xx >>> ((5 : Int32).toInt64 &&& 63)).toInt < 1048576 ∨ (((n : Nat) : Int) > 5 ∧ ((xx >>> ((5 : Int32).toInt64 &&& 63)).toInt < 33554432 ∨ (((n : Nat) : Int) > 6 ∧ ((xx >>> ((5 : Int32).toInt64 &&& 63)).toInt < 1073741824 ∨ (((n : Nat) : Int) > 7 ∧ (xx >>> ((5 : Int32).toInt64 &&& 63)).toInt < 34359738368)))))))))))))) := by
  have k : (1 : Int32).toInt = 1 := by decide
  have k0 : (0 : Int32).toInt = 0 := by decide
  have hm := i_ne hmo
  have h2 : ¬ (xx >>> ((5 : Int32).toInt64 &&& 63)) ≤ 0 := fun q => hc ((lg_cmp_le _ _).mpr q)
  have h3 := Int64.lt_iff_toInt_lt.mp (Int64.not_le.mp h2)
  rw [show (0 : Int64).toInt = 0 from by decide, sh5] at h3
  rw [sh5, k]
  rw [k0] at hm
  generalize xx.toInt = z at *
  generalize mo.toInt = y at *
  omega
theorem an_s0 {xx : Int64} {mo : Int32} {n : Nat} (hx : 0 ≤ xx.toInt) (h0 : 0 ≤ mo.toInt) (h1 : mo.toInt ≤ 1) (hmo : ¬ mo = 0) (hmu : 0 < ((n + 1 : Nat) : Int) ∧ (mo.toInt = 0 ∨ (((n + 1 : Nat) : Int) > 1 ∧ (xx.toInt < 32 ∨ (((n + 1 : Nat) : Int) > 2 ∧ (xx.toInt < 1024 ∨ (((n + 1 : Nat) : Int) > 3 ∧ (xx.toInt < 32768 ∨ (((n + 1 : Nat) : Int) > 4 ∧ (xx.toInt < 1048576 ∨ (((n + 1 : Nat) : Int) > 5 ∧ (xx.toInt < 33554432 ∨ (((n + 1 : Nat) : Int) > 6 ∧ (xx.toInt < 1073741824 ∨ (((n + 1 : Nat) : Int) > 7 ∧ xx.toInt < 34359738368))))))))))))))) : 0 < ((n : Nat) : Int) ∧ ((0 : Int32).toInt = 0 ∨ (((n : Nat) : Int) > 1 ∧ ((xx >>> ((5 : Int32).toInt64 &&& 63)).toInt < 32 ∨ (((n : Nat) : Int) > 2 ∧ ((xx >>> ((5 : Int32).toInt64 &&& 63)).toInt < 1024 ∨ (((n : Nat) : Int) > 3 ∧ ((xx >>> ((5 : Int32).toInt64 &&& 63)).toInt < 32768 ∨ (((n : Nat) : Int) > 4 ∧ ((xx >>> ((5 : Int32).toInt64 &&& 63)).toInt < 1048576 ∨ (((n : Nat) : Int) > 5 ∧ ((xx >>> ((5 : Int32).toInt64 &&& 63)).toInt < 33554432 ∨ (((n : Nat) : Int) > 6 ∧ ((xx >>> ((5 : Int32).toInt64 &&& 63)).toInt < 1073741824 ∨ (((n : Nat) : Int) > 7 ∧ (xx >>> ((5 : Int32).toInt64 &&& 63)).toInt < 34359738368)))))))))))))) := by
  have k0 : (0 : Int32).toInt = 0 := by decide
  have hm := i_ne hmo
  rw [sh5, k0]
  rw [k0] at hm
  generalize xx.toInt = z at *
  generalize mo.toInt = y at *
  omega

def fX9_add (th dc tl xl fo fa mn ft wl : Int32) (wr : Nat → Int32) (x : Int32) : Int32 × Int32 × (Nat → Int32) :=
  if wl = 6000 then
    (0, wl, wr)
  else
    (ft, (wl + 1), (upd wr wl.toNatClampNeg (vp_nar .byte ((x : Int32).toInt8.toInt32))))
theorem inc_X9_add_9 : ∀ w ∈ u_ws RX9 TX9 17, w ∈ wsX9_add := by decide +kernel
set_option maxHeartbeats 4000000 in
set_option maxRecDepth 100000 in
theorem c_X9_add (l : Launch) (dC : Nat → ClassId) (dI : Nat → Nat → Nat) (cB cC cI cJ : ClassId) (sz : Nat) (h0 a0 a1 a2 a3 a4 a5 a6 a7 : Nat) (th dc tl xl fo fa mn ft wl : Int32) (wr : Nat → Int32) (x : Int32) (hw0 : 0 ≤ wl.toInt) (hw1 : wl.toInt ≤ 6000) : Met l yX9_add wsX9_add ({ frames := 0, cells := 0, slots := 0, locals := 0 } : Room) (cP dC dI cB cC cI cJ [.ref h0, .int x] sz [(h0, .inr (9, [.int th, .ref a0, .ref a1, .ref a2, .int dc, .ref a3, .int tl, .ref a4, .int xl, .int fo, .int fa, .ref a5, .int mn, .ref a6, .int ft, .ref a7, .int wl])), (a7, .inl (cB, 6000, .inl wr))]) (va_Qv (fun _ => (0 ≤ (fX9_add th dc tl xl fo fa mn ft wl wr x).2.1.toInt ∧ (fX9_add th dc tl xl fo fa mn ft wl wr x).2.1.toInt ≤ 6000)) (cE dC dI (va_A [(h0, .inr (9, [.int th, .ref a0, .ref a1, .ref a2, .int dc, .ref a3, .int tl, .ref a4, .int xl, .int fo, .int fa, .ref a5, .int mn, .ref a6, .int ft, .ref a7, .int wl])), (a7, .inl (cB, 6000, .inl wr))] sz) [(h0, .inr (9, [.int th, .ref a0, .ref a1, .ref a2, .int dc, .ref a3, .int tl, .ref a4, .int xl, .int fo, .int fa, .ref a5, .int mn, .ref a6, .int (fX9_add th dc tl xl fo fa mn ft wl wr x).1, .ref a7, .int (fX9_add th dc tl xl fo fa mn ft wl wr x).2.1])), (a7, .inl (cB, 6000, .inl (fX9_add th dc tl xl fo fa mn ft wl wr x).2.2))]) (va_A [(h0, .inr (9, [.int th, .ref a0, .ref a1, .ref a2, .int dc, .ref a3, .int tl, .ref a4, .int xl, .int fo, .int fa, .ref a5, .int mn, .ref a6, .int ft, .ref a7, .int wl])), (a7, .inl (cB, 6000, .inl wr))] sz)) 0 0 (va_A [(h0, .inr (9, [.int th, .ref a0, .ref a1, .ref a2, .int dc, .ref a3, .int tl, .ref a4, .int xl, .int fo, .int fa, .ref a5, .int mn, .ref a6, .int ft, .ref a7, .int wl])), (a7, .inl (cB, 6000, .inl wr))] sz) := by
  refine Met.ofW (cc := cX9_add) (maxL := 2) (ret := none) (by decide) rfl ?_
  intro p e s m args below meth c s₁ B hml hv
  obtain ⟨rfl, hsz, hP, hG, hD0⟩ := hv
  have hx := B.exec
  have hb := B.bytes
  have hr := B.returns
  have hts := atoms_spec (ws := wsX9_add) B.pre
  have hown : s.vm.findClass RX9 = some m.cls := findClass_of_methodNamed B.named
  have hlocks := B.notSynchronized
  subst hsz
  have hD := hD0.self (sz := s.heap.size)
  generalize hAe : va_A [(h0, .inr (9, [.int th, .ref a0, .ref a1, .ref a2, .int dc, .ref a3, .int tl, .ref a4, .int xl, .int fo, .int fa, .ref a5, .int mn, .ref a6, .int ft, .ref a7, .int wl])), (a7, .inl (cB, 6000, .inl wr))] s.heap.size = A at hD ⊢
  have hA : ∀ q : Nat, s.heap.size ≤ q → A q := fun q h => by rw [← hAe]; exact Or.inr h
  obtain ⟨H, hH⟩ : ∃ H : Heap, H = s.heap := ⟨_, rfl⟩
  have hS : va_S A s.heap H [] := by rw [hH]; exact va_S.rf
  rw [← hH] at hP ⊢
  generalize hR : fX9_add th dc tl xl fo fa mn ft wl wr x = R
  unfold fX9_add at hR
  have hl := lv_entry ([.ref h0, .int x]) (n := 2) (Nat.le_of_ble_eq_true rfl)
  rw [lg_entry_eq]
  generalize (lg_sl ([.ref h0, .int x]) ++ List.replicate (2 - (lg_sl ([.ref h0, .int x])).length) Slot.unset).toArray = ls at hl ⊢
  have hl : lv_has ls 2 [(0, .ref h0), (1, .int x)] := hl
  refine lv_aload_n hx hb dX9_add_0 rfl (lv_at hl 0 rfl) ?_
  refine va_get (D := (dC, dI)) (ci := 9) (v := .int wl) (C := RX9) (T := TX9) (N := 17) hx hb hts inc_X9_add_9 hown hG.1 hP 0 rfl rfl 16 (by decide) (hts (.fieldLink RX9 62 "MappingDeskModel" "writtenLen" "I") (by decide +kernel)) (fun _ h9 => h9) rfl dX9_add_1 ?_
  refine lv_sipush (v := 6000) hx hb dX9_add_4 (by decide) ?_
  refine lv_icmp_ne (tgt := 16) hx hb dX9_add_7 (by decide) (fun c_1 => ?_) (fun c_1 => ?_)
  · rw [if_neg c_1] at hR
    refine lv_aload_n hx hb dX9_add_16 rfl (lv_at hl 0 rfl) ?_
    refine va_get (D := (dC, dI)) (ci := 9) (v := .ref a7) (C := RX9) (T := TX9) (N := 17) hx hb hts inc_X9_add_9 hown hG.1 hP 0 rfl rfl 15 (by decide) (hts (.fieldLink RX9 59 "MappingDeskModel" "written" "[B") (by decide +kernel)) (fun _ h9 => h9) rfl dX9_add_17 ?_
    refine lv_aload_n hx hb dX9_add_20 rfl (lv_at hl 0 rfl) ?_
    refine va_get (D := (dC, dI)) (ci := 9) (v := .int wl) (C := RX9) (T := TX9) (N := 17) hx hb hts inc_X9_add_9 hown hG.1 hP 0 rfl rfl 16 (by decide) (hts (.fieldLink RX9 62 "MappingDeskModel" "writtenLen" "I") (by decide +kernel)) (fun _ h9 => h9) rfl dX9_add_21 ?_
    refine lv_iload_n hx hb dX9_add_24 rfl (lv_at hl 1 rfl) ?_
    refine lv_i2b hx hb dX9_add_25 rfl ?_
    have b_2 : vp_in wl 6000 := by
      have k_3 : (6000 : Int32).toInt = 6000 := by decide
      have q_4 := i_ne c_1
      refine vin ?_ ?_
      all_goals (try generalize Int32.toInt (6000 : Int32) = z0 at *; try generalize Int32.toInt wl = z1 at *; omega)
    refine va_bast hx hb hG.1 hP hD hS 1 0 rfl rfl b_2 dX9_add_26 (fun H locs hP hD hS => ?_)
    have hP : va_P (dC, dI) vwCl [(h0, .inr (9, [.int th, .ref a0, .ref a1, .ref a2, .int dc, .ref a3, .int tl, .ref a4, .int xl, .int fo, .int fa, .ref a5, .int mn, .ref a6, .int ft, .ref a7, .int wl])), (a7, .inl (cB, 6000, .inl (upd wr wl.toNatClampNeg (vp_nar .byte ((x : Int32).toInt8.toInt32)))))] H := hP
    have hD : va_D A [(h0, .inr (9, [.int th, .ref a0, .ref a1, .ref a2, .int dc, .ref a3, .int tl, .ref a4, .int xl, .int fo, .int fa, .ref a5, .int mn, .ref a6, .int ft, .ref a7, .int wl])), (a7, .inl (cB, 6000, .inl (upd wr wl.toNatClampNeg (vp_nar .byte ((x : Int32).toInt8.toInt32)))))] := hD
    refine lv_aload_n hx hb dX9_add_27 rfl (lv_at hl 0 rfl) ?_
    refine lv_dup hx hb dX9_add_28 rfl ?_
    refine va_get (D := (dC, dI)) (ci := 9) (v := .int wl) (C := RX9) (T := TX9) (N := 17) hx hb hts inc_X9_add_9 hown hG.1 hP 0 rfl rfl 16 (by decide) (hts (.fieldLink RX9 62 "MappingDeskModel" "writtenLen" "I") (by decide +kernel)) (fun _ h9 => h9) rfl dX9_add_29 ?_
    refine lv_iconst (v := 1) hx hb dX9_add_32 (by decide) ?_
    refine lv_iadd hx hb dX9_add_33 ?_
    refine va_put (D := (dC, dI)) (ci := 9) (v := .int (wl + 1)) (ty := .int) (C := RX9) (T := TX9) (N := 17) hx hb hts inc_X9_add_9 tyX9 tyX9_ok nmX9 hown hG.1 hP hD hS 0 rfl rfl 16 (by decide) (hts (.fieldLink RX9 62 "MappingDeskModel" "writtenLen" "I") (by decide +kernel)) (fun _ h9 => h9) rfl (by decide +kernel) rfl rfl (Nat.le_of_ble_eq_true rfl) dX9_add_34 (fun H locs hP hD hS => ?_)
    have hP : va_P (dC, dI) vwCl [(h0, .inr (9, [.int th, .ref a0, .ref a1, .ref a2, .int dc, .ref a3, .int tl, .ref a4, .int xl, .int fo, .int fa, .ref a5, .int mn, .ref a6, .int ft, .ref a7, .int (wl + 1)])), (a7, .inl (cB, 6000, .inl (upd wr wl.toNatClampNeg (vp_nar .byte ((x : Int32).toInt8.toInt32)))))] H := hP
    have hD : va_D A [(h0, .inr (9, [.int th, .ref a0, .ref a1, .ref a2, .int dc, .ref a3, .int tl, .ref a4, .int xl, .int fo, .int fa, .ref a5, .int mn, .ref a6, .int ft, .ref a7, .int (wl + 1)])), (a7, .inl (cB, 6000, .inl (upd wr wl.toNatClampNeg (vp_nar .byte ((x : Int32).toInt8.toInt32)))))] := hD
    have e_7 : 0 ≤ ((wl + 1) : Int32).toInt ∧ ((wl + 1) : Int32).toInt ≤ 6000 := by
      have k_8 : (6000 : Int32).toInt = 6000 := by decide
      have q_9 := i_ne c_1
      have k_10 : (1 : Int32).toInt = 1 := by decide
      have t_11 := ti_add (a := wl) (b := 1) (by omega) (by omega)
      try generalize Int32.toInt (wl + 1) = z0 at *
      try generalize Int32.toInt (6000 : Int32) = z1 at *
      try generalize Int32.toInt wl = z2 at *
      try generalize Int32.toInt (1 : Int32) = z3 at *
      omega
    subst hR
    exact W.vret hx hb hr (fun t ht hW => ⟨⟨(), rfl, e_7, by rw [ht]; exact hP, hD⟩, hS.F ht⟩) hS.2.2 dX9_add_37
  · rw [if_pos c_1] at hR
    refine lv_aload_n hx hb dX9_add_10 rfl (lv_at hl 0 rfl) ?_
    refine lv_iconst (v := 0) hx hb dX9_add_11 (by decide) ?_
    refine va_put (D := (dC, dI)) (ci := 9) (v := .int 0) (ty := .boolean) (C := RX9) (T := TX9) (N := 17) hx hb hts inc_X9_add_9 tyX9 tyX9_ok nmX9 hown hG.1 hP hD hS 0 rfl rfl 14 (by decide) (hts (.fieldLink RX9 55 "MappingDeskModel" "fits" "Z") (by decide +kernel)) (fun _ h9 => h9) rfl (by decide +kernel) rfl rfl (Nat.le_of_ble_eq_true rfl) dX9_add_12 (fun H locs hP hD hS => ?_)
    have hP : va_P (dC, dI) vwCl [(h0, .inr (9, [.int th, .ref a0, .ref a1, .ref a2, .int dc, .ref a3, .int tl, .ref a4, .int xl, .int fo, .int fa, .ref a5, .int mn, .ref a6, .int 0, .ref a7, .int wl])), (a7, .inl (cB, 6000, .inl wr))] H := hP
    have hD : va_D A [(h0, .inr (9, [.int th, .ref a0, .ref a1, .ref a2, .int dc, .ref a3, .int tl, .ref a4, .int xl, .int fo, .int fa, .ref a5, .int mn, .ref a6, .int 0, .ref a7, .int wl])), (a7, .inl (cB, 6000, .inl wr))] := hD
    have e_12 : 0 ≤ (wl : Int32).toInt ∧ (wl : Int32).toInt ≤ 6000 := by
      have k_13 : (6000 : Int32).toInt = 6000 := by decide
      have q_14 := i_eq c_1
      try generalize Int32.toInt (6000 : Int32) = z0 at *
      try generalize Int32.toInt wl = z1 at *
      omega
    subst hR
    exact W.vret hx hb hr (fun t ht hW => ⟨⟨(), rfl, e_12, by rw [ht]; exact hP, hD⟩, hS.F ht⟩) hS.2.2 dX9_add_15
