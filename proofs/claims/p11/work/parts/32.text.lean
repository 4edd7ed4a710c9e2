def fX6_makeEmpty (ch : Nat → Int32) (ln ov : Int32) : Int32 × Int32 :=
  (0, 0)
theorem inc_X6_makeEmpty_6 : ∀ w ∈ u_ws RX6 TX6 3, w ∈ wsX6_makeEmpty := by decide +kernel
set_option maxHeartbeats 4000000 in
set_option maxRecDepth 100000 in
theorem c_X6_makeEmpty (l : Launch) (dC : Nat → ClassId) (dI : Nat → Nat → Nat) (cB cC cI cJ : ClassId) (sz : Nat) (h0 b0 : Nat) (ch : Nat → Int32) (ln ov : Int32) : Met l yX6_makeEmpty wsX6_makeEmpty ({ frames := 0, cells := 0, slots := 0, locals := 0 } : Room) (cP dC dI cB cC cI cJ [.ref h0] sz [(h0, .inr (6, [.ref b0, .int ln, .int ov])), (b0, .inl (cC, 6000, .inl ch))]) (va_Qv (fun _ => ((fX6_makeEmpty ch ln ov).1.toInt = 0)) (cE dC dI (va_A [(h0, .inr (6, [.ref b0, .int ln, .int ov])), (b0, .inl (cC, 6000, .inl ch))] sz) [(h0, .inr (6, [.ref b0, .int (fX6_makeEmpty ch ln ov).1, .int (fX6_makeEmpty ch ln ov).2])), (b0, .inl (cC, 6000, .inl ch))]) (va_A [(h0, .inr (6, [.ref b0, .int ln, .int ov])), (b0, .inl (cC, 6000, .inl ch))] sz)) 0 0 (va_A [(h0, .inr (6, [.ref b0, .int ln, .int ov])), (b0, .inl (cC, 6000, .inl ch))] sz) := by
  refine Met.ofW (cc := cX6_makeEmpty) (maxL := 1) (ret := none) (by decide) rfl ?_
  intro p e s m args below meth c s₁ B hml hv
  obtain ⟨rfl, hsz, hP, hG, hD0⟩ := hv
  have hx := B.exec
  have hb := B.bytes
  have hr := B.returns
  have hts := atoms_spec (ws := wsX6_makeEmpty) B.pre
  have hown : s.vm.findClass RX6 = some m.cls := findClass_of_methodNamed B.named
  have hlocks := B.notSynchronized
  subst hsz
  have hD := hD0.self (sz := s.heap.size)
  generalize hAe : va_A [(h0, .inr (6, [.ref b0, .int ln, .int ov])), (b0, .inl (cC, 6000, .inl ch))] s.heap.size = A at hD ⊢
  have hA : ∀ q : Nat, s.heap.size ≤ q → A q := fun q h => by rw [← hAe]; exact Or.inr h
  obtain ⟨H, hH⟩ : ∃ H : Heap, H = s.heap := ⟨_, rfl⟩
  have hS : va_S A s.heap H [] := by rw [hH]; exact va_S.rf
  rw [← hH] at hP ⊢
  generalize hR : fX6_makeEmpty ch ln ov = R
  unfold fX6_makeEmpty at hR
  have hl := lv_entry ([.ref h0]) (n := 1) (Nat.le_of_ble_eq_true rfl)
  rw [lg_entry_eq]
  generalize (lg_sl ([.ref h0]) ++ List.replicate (1 - (lg_sl ([.ref h0])).length) Slot.unset).toArray = ls at hl ⊢
  have hl : lv_has ls 1 [(0, .ref h0)] := hl
  refine lv_aload_n hx hb dX6_makeEmpty_0 rfl (lv_at hl 0 rfl) ?_
  refine lv_iconst (v := 0) hx hb dX6_makeEmpty_1 (by decide) ?_
  refine va_put (D := (dC, dI)) (ci := 6) (v := .int 0) (ty := .int) (C := RX6) (T := TX6) (N := 3) hx hb hts inc_X6_makeEmpty_6 tyX6 tyX6_ok nmX6 hown hG.1 hP hD hS 0 rfl rfl 1 (by decide) (hts (.fieldLink RX6 15 "MappingDesk$Text" "length" "I") (by decide +kernel)) (fun _ h9 => h9) rfl (by decide +kernel) rfl rfl (Nat.le_of_ble_eq_true rfl) dX6_makeEmpty_2 (fun H locs hP hD hS => ?_)
  have hP : va_P (dC, dI) vwCl [(h0, .inr (6, [.ref b0, .int 0, .int ov])), (b0, .inl (cC, 6000, .inl ch))] H := hP
  have hD : va_D A [(h0, .inr (6, [.ref b0, .int 0, .int ov])), (b0, .inl (cC, 6000, .inl ch))] := hD
  refine lv_aload_n hx hb dX6_makeEmpty_5 rfl (lv_at hl 0 rfl) ?_
  refine lv_iconst (v := 0) hx hb dX6_makeEmpty_6 (by decide) ?_
  refine va_put (D := (dC, dI)) (ci := 6) (v := .int 0) (ty := .boolean) (C := RX6) (T := TX6) (N := 3) hx hb hts inc_X6_makeEmpty_6 tyX6 tyX6_ok nmX6 hown hG.1 hP hD hS 0 rfl rfl 2 (by decide) (hts (.fieldLink RX6 19 "MappingDesk$Text" "overflowed" "Z") (by decide +kernel)) (fun _ h9 => h9) rfl (by decide +kernel) rfl rfl (Nat.le_of_ble_eq_true rfl) dX6_makeEmpty_7 (fun H locs hP hD hS => ?_)
  have hP : va_P (dC, dI) vwCl [(h0, .inr (6, [.ref b0, .int 0, .int 0])), (b0, .inl (cC, 6000, .inl ch))] H := hP
  have hD : va_D A [(h0, .inr (6, [.ref b0, .int 0, .int 0])), (b0, .inl (cC, 6000, .inl ch))] := hD
  have e_1 : (0 : Int32).toInt = 0 := by
    have k_2 : (0 : Int32).toInt = 0 := by decide
    try generalize Int32.toInt (0 : Int32) = z0 at *
    omega
  subst hR
  exact W.vret hx hb hr (fun t ht hW => ⟨⟨(), rfl, e_1, by rw [ht]; exact hP, hD⟩, hS.F ht⟩) hS.2.2 dX6_makeEmpty_10

def fX6_append (ch : Nat → Int32) (ln ov : Int32) (x : Int32) : Int32 × Int32 × (Nat → Int32) :=
  if ln < 6000 then
    ((ln + 1), ov, (upd ch ln.toNatClampNeg (vp_nar .char x)))
  else
    (ln, 1, ch)
theorem inc_X6_append_6 : ∀ w ∈ u_ws RX6 TX6 3, w ∈ wsX6_append := by decide +kernel
set_option maxHeartbeats 4000000 in
set_option maxRecDepth 100000 in
theorem c_X6_append (l : Launch) (dC : Nat → ClassId) (dI : Nat → Nat → Nat) (cB cC cI cJ : ClassId) (sz : Nat) (h0 b0 : Nat) (ch : Nat → Int32) (ln ov : Int32) (x : Int32) (hl0 : 0 ≤ ln.toInt) (hl1 : ln.toInt ≤ 6000) : Met l yX6_append wsX6_append ({ frames := 0, cells := 0, slots := 0, locals := 0 } : Room) (cP dC dI cB cC cI cJ [.ref h0, .int x] sz [(h0, .inr (6, [.ref b0, .int ln, .int ov])), (b0, .inl (cC, 6000, .inl ch))]) (va_Qv (fun _ => (0 ≤ (fX6_append ch ln ov x).1.toInt ∧ (fX6_append ch ln ov x).1.toInt ≤ 6000)) (cE dC dI (va_A [(h0, .inr (6, [.ref b0, .int ln, .int ov])), (b0, .inl (cC, 6000, .inl ch))] sz) [(h0, .inr (6, [.ref b0, .int (fX6_append ch ln ov x).1, .int (fX6_append ch ln ov x).2.1])), (b0, .inl (cC, 6000, .inl (fX6_append ch ln ov x).2.2))]) (va_A [(h0, .inr (6, [.ref b0, .int ln, .int ov])), (b0, .inl (cC, 6000, .inl ch))] sz)) 0 0 (va_A [(h0, .inr (6, [.ref b0, .int ln, .int ov])), (b0, .inl (cC, 6000, .inl ch))] sz) := by
  refine Met.ofW (cc := cX6_append) (maxL := 2) (ret := none) (by decide) rfl ?_
  intro p e s m args below meth c s₁ B hml hv
  obtain ⟨rfl, hsz, hP, hG, hD0⟩ := hv
  have hx := B.exec
  have hb := B.bytes
  have hr := B.returns
  have hts := atoms_spec (ws := wsX6_append) B.pre
  have hown : s.vm.findClass RX6 = some m.cls := findClass_of_methodNamed B.named
  have hlocks := B.notSynchronized
  subst hsz
  have hD := hD0.self (sz := s.heap.size)
  generalize hAe : va_A [(h0, .inr (6, [.ref b0, .int ln, .int ov])), (b0, .inl (cC, 6000, .inl ch))] s.heap.size = A at hD ⊢
  have hA : ∀ q : Nat, s.heap.size ≤ q → A q := fun q h => by rw [← hAe]; exact Or.inr h
  obtain ⟨H, hH⟩ : ∃ H : Heap, H = s.heap := ⟨_, rfl⟩
  have hS : va_S A s.heap H [] := by rw [hH]; exact va_S.rf
  rw [← hH] at hP ⊢
  generalize hR : fX6_append ch ln ov x = R
  unfold fX6_append at hR
  have hl := lv_entry ([.ref h0, .int x]) (n := 2) (Nat.le_of_ble_eq_true rfl)
  rw [lg_entry_eq]
  generalize (lg_sl ([.ref h0, .int x]) ++ List.replicate (2 - (lg_sl ([.ref h0, .int x])).length) Slot.unset).toArray = ls at hl ⊢
  have hl : lv_has ls 2 [(0, .ref h0), (1, .int x)] := hl
  refine lv_aload_n hx hb dX6_append_0 rfl (lv_at hl 0 rfl) ?_
  refine va_get (D := (dC, dI)) (ci := 6) (v := .int ln) (C := RX6) (T := TX6) (N := 3) hx hb hts inc_X6_append_6 hown hG.1 hP 0 rfl rfl 1 (by decide) (hts (.fieldLink RX6 15 "MappingDesk$Text" "length" "I") (by decide +kernel)) (fun _ h9 => h9) rfl dX6_append_1 ?_
  refine lv_sipush (v := 6000) hx hb dX6_append_4 (by decide) ?_
  refine lv_icmp_lt (tgt := 16) hx hb dX6_append_7 (by decide) (fun c_1 => ?_) (fun c_1 => ?_)
  · rw [if_pos c_1] at hR
    refine lv_aload_n hx hb dX6_append_16 rfl (lv_at hl 0 rfl) ?_
    refine va_get (D := (dC, dI)) (ci := 6) (v := .ref b0) (C := RX6) (T := TX6) (N := 3) hx hb hts inc_X6_append_6 hown hG.1 hP 0 rfl rfl 0 (by decide) (hts (.fieldLink RX6 9 "MappingDesk$Text" "characters" "[C") (by decide +kernel)) (fun _ h9 => h9) rfl dX6_append_17 ?_
    refine lv_aload_n hx hb dX6_append_20 rfl (lv_at hl 0 rfl) ?_
    refine va_get (D := (dC, dI)) (ci := 6) (v := .int ln) (C := RX6) (T := TX6) (N := 3) hx hb hts inc_X6_append_6 hown hG.1 hP 0 rfl rfl 1 (by decide) (hts (.fieldLink RX6 15 "MappingDesk$Text" "length" "I") (by decide +kernel)) (fun _ h9 => h9) rfl dX6_append_21 ?_
    refine lv_iload_n hx hb dX6_append_24 rfl (lv_at hl 1 rfl) ?_
    have b_2 : vp_in ln 6000 := by
      have k_3 : (6000 : Int32).toInt = 6000 := by decide
      have q_4 := i_lt c_1
      refine vin ?_ ?_
      all_goals (try generalize Int32.toInt (6000 : Int32) = z0 at *; try generalize Int32.toInt ln = z1 at *; omega)
    refine va_cast hx hb hG.1 hP hD hS 1 1 rfl rfl b_2 dX6_append_25 (fun H locs hP hD hS => ?_)
    have hP : va_P (dC, dI) vwCl [(h0, .inr (6, [.ref b0, .int ln, .int ov])), (b0, .inl (cC, 6000, .inl (upd ch ln.toNatClampNeg (vp_nar .char x))))] H := hP
    have hD : va_D A [(h0, .inr (6, [.ref b0, .int ln, .int ov])), (b0, .inl (cC, 6000, .inl (upd ch ln.toNatClampNeg (vp_nar .char x))))] := hD
    refine lv_aload_n hx hb dX6_append_26 rfl (lv_at hl 0 rfl) ?_
    refine lv_dup hx hb dX6_append_27 rfl ?_
    refine va_get (D := (dC, dI)) (ci := 6) (v := .int ln) (C := RX6) (T := TX6) (N := 3) hx hb hts inc_X6_append_6 hown hG.1 hP 0 rfl rfl 1 (by decide) (hts (.fieldLink RX6 15 "MappingDesk$Text" "length" "I") (by decide +kernel)) (fun _ h9 => h9) rfl dX6_append_28 ?_
    refine lv_iconst (v := 1) hx hb dX6_append_31 (by decide) ?_
    refine lv_iadd hx hb dX6_append_32 ?_
    refine va_put (D := (dC, dI)) (ci := 6) (v := .int (ln + 1)) (ty := .int) (C := RX6) (T := TX6) (N := 3) hx hb hts inc_X6_append_6 tyX6 tyX6_ok nmX6 hown hG.1 hP hD hS 0 rfl rfl 1 (by decide) (hts (.fieldLink RX6 15 "MappingDesk$Text" "length" "I") (by decide +kernel)) (fun _ h9 => h9) rfl (by decide +kernel) rfl rfl (Nat.le_of_ble_eq_true rfl) dX6_append_33 (fun H locs hP hD hS => ?_)
    have hP : va_P (dC, dI) vwCl [(h0, .inr (6, [.ref b0, .int (ln + 1), .int ov])), (b0, .inl (cC, 6000, .inl (upd ch ln.toNatClampNeg (vp_nar .char x))))] H := hP
    have hD : va_D A [(h0, .inr (6, [.ref b0, .int (ln + 1), .int ov])), (b0, .inl (cC, 6000, .inl (upd ch ln.toNatClampNeg (vp_nar .char x))))] := hD
    have e_7 : 0 ≤ ((ln + 1) : Int32).toInt ∧ ((ln + 1) : Int32).toInt ≤ 6000 := by
      have k_8 : (6000 : Int32).toInt = 6000 := by decide
      have q_9 := i_lt c_1
      have k_10 : (1 : Int32).toInt = 1 := by decide
      have t_11 := ti_add (a := ln) (b := 1) (by omega) (by omega)
      try generalize Int32.toInt (ln + 1) = z0 at *
      try generalize Int32.toInt (6000 : Int32) = z1 at *
      try generalize Int32.toInt ln = z2 at *
      try generalize Int32.toInt (1 : Int32) = z3 at *
      omega
    subst hR
    exact W.vret hx hb hr (fun t ht hW => ⟨⟨(), rfl, e_7, by rw [ht]; exact hP, hD⟩, hS.F ht⟩) hS.2.2 dX6_append_36
  · rw [if_neg c_1] at hR
    refine lv_aload_n hx hb dX6_append_10 rfl (lv_at hl 0 rfl) ?_
    refine lv_iconst (v := 1) hx hb dX6_append_11 (by decide) ?_
    refine va_put (D := (dC, dI)) (ci := 6) (v := .int 1) (ty := .boolean) (C := RX6) (T := TX6) (N := 3) hx hb hts inc_X6_append_6 tyX6 tyX6_ok nmX6 hown hG.1 hP hD hS 0 rfl rfl 2 (by decide) (hts (.fieldLink RX6 19 "MappingDesk$Text" "overflowed" "Z") (by decide +kernel)) (fun _ h9 => h9) rfl (by decide +kernel) rfl rfl (Nat.le_of_ble_eq_true rfl) dX6_append_12 (fun H locs hP hD hS => ?_)
    have hP : va_P (dC, dI) vwCl [(h0, .inr (6, [.ref b0, .int ln, .int 1])), (b0, .inl (cC, 6000, .inl ch))] H := hP
    have hD : va_D A [(h0, .inr (6, [.ref b0, .int ln, .int 1])), (b0, .inl (cC, 6000, .inl ch))] := hD
    have e_12 : 0 ≤ (ln : Int32).toInt ∧ (ln : Int32).toInt ≤ 6000 := by
      have k_13 : (6000 : Int32).toInt = 6000 := by decide
      have q_14 := i_nlt c_1
      try generalize Int32.toInt (6000 : Int32) = z0 at *
      try generalize Int32.toInt ln = z1 at *
      omega
    subst hR
    exact W.vret hx hb hr (fun t ht hW => ⟨⟨(), rfl, e_12, by rw [ht]; exact hP, hD⟩, hS.F ht⟩) hS.2.2 dX6_append_15
