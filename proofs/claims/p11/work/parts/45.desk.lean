theorem inc_X8_tableOf_8 : ∀ w ∈ u_ws RX8 TX8 8, w ∈ wsX8_tableOf := by decide +kernel
set_option maxHeartbeats 4000000 in
set_option maxRecDepth 100000 in
theorem c_X8_tableOf_0 (l : Launch) (dC : Nat → ClassId) (dI : Nat → Nat → Nat) (cB cC cI cJ : ClassId) (sz : Nat) (h0 d0 d1 d2 d3 d4 d5 d6 : Nat) (lf : Int32) (x : Int32) (hx0 : x = 0) : Met l yX8_tableOf wsX8_tableOf ({ frames := 0, cells := 0, slots := 0, locals := 0 } : Room) (cP dC dI cB cC cI cJ [.ref h0, .int x] sz [(h0, .inr (8, [.ref d0, .ref d1, .ref d2, .ref d3, .ref d4, .ref d5, .ref d6, .int lf]))]) (va_Sr (fun _ => True) (fun _ => .ref d4)) 0 0 (fun _ => False) := by
  refine Met.ofW (cc := cX8_tableOf) (maxL := 2) (ret := (some (.object "MappingDesk$Table"))) (by decide) rfl ?_
  intro p e s m args below meth c s₁ B hml hv
  obtain ⟨rfl, hsz, hP, hG, hD0⟩ := hv
  have hx := B.exec
  have hb := B.bytes
  have hr := B.returns
  have hts := atoms_spec (ws := wsX8_tableOf) B.pre
  have hown : s.vm.findClass RX8 = some m.cls := findClass_of_methodNamed B.named
  have hlocks := B.notSynchronized
  subst hsz
  obtain ⟨H, hH⟩ : ∃ H : Heap, H = s.heap := ⟨_, rfl⟩
  rw [← hH] at hP ⊢
  have hl := lv_entry ([.ref h0, .int x]) (n := 2) (Nat.le_of_ble_eq_true rfl)
  rw [lg_entry_eq]
  generalize (lg_sl ([.ref h0, .int x]) ++ List.replicate (2 - (lg_sl ([.ref h0, .int x])).length) Slot.unset).toArray = ls at hl ⊢
  have hl : lv_has ls 2 [(0, .ref h0), (1, .int x)] := hl
  refine lv_iload_n hx hb dX8_tableOf_0 rfl (lv_at hl 1 rfl) ?_
  refine lv_if_ne (tgt := 9) hx hb dX8_tableOf_1 (by decide) (fun c_1 => ?_) (fun c_1 => ?_)
  · exact absurd hx0 c_1
  · refine lv_aload_n hx hb dX8_tableOf_4 rfl (lv_at hl 0 rfl) ?_
    refine va_get (D := (dC, dI)) (ci := 8) (v := .ref d4) (C := RX8) (T := TX8) (N := 8) hx hb hts inc_X8_tableOf_8 hown hG.1 hP 0 rfl rfl 4 (by decide) (hts (.fieldLink RX8 40 "MappingDesk" "zero" "LMappingDesk$Table;") (by decide +kernel)) (fun _ h9 => h9) rfl dX8_tableOf_5 ?_
    exact W.aret (v := .ref d4) hx hb hr (Or.inl ⟨_, rfl⟩) (Or.inr ⟨_, rfl⟩) (fun t ht hW => ⟨0, rfl, trivial, ht.trans hH⟩) t_nil dX8_tableOf_8

set_option maxHeartbeats 4000000 in
set_option maxRecDepth 100000 in
theorem c_X8_tableOf_1 (l : Launch) (dC : Nat → ClassId) (dI : Nat → Nat → Nat) (cB cC cI cJ : ClassId) (sz : Nat) (h0 d0 d1 d2 d3 d4 d5 d6 : Nat) (lf : Int32) (x : Int32) (hx0 : ¬ x = 0) (hx1 : x = 1) : Met l yX8_tableOf wsX8_tableOf ({ frames := 0, cells := 0, slots := 0, locals := 0 } : Room) (cP dC dI cB cC cI cJ [.ref h0, .int x] sz [(h0, .inr (8, [.ref d0, .ref d1, .ref d2, .ref d3, .ref d4, .ref d5, .ref d6, .int lf]))]) (va_Sr (fun _ => True) (fun _ => .ref d5)) 0 0 (fun _ => False) := by
  refine Met.ofW (cc := cX8_tableOf) (maxL := 2) (ret := (some (.object "MappingDesk$Table"))) (by decide) rfl ?_
  intro p e s m args below meth c s₁ B hml hv
  obtain ⟨rfl, hsz, hP, hG, hD0⟩ := hv
  have hx := B.exec
  have hb := B.bytes
  have hr := B.returns
  have hts := atoms_spec (ws := wsX8_tableOf) B.pre
  have hown : s.vm.findClass RX8 = some m.cls := findClass_of_methodNamed B.named
  have hlocks := B.notSynchronized
  subst hsz
  obtain ⟨H, hH⟩ : ∃ H : Heap, H = s.heap := ⟨_, rfl⟩
  rw [← hH] at hP ⊢
  have hl := lv_entry ([.ref h0, .int x]) (n := 2) (Nat.le_of_ble_eq_true rfl)
  rw [lg_entry_eq]
  generalize (lg_sl ([.ref h0, .int x]) ++ List.replicate (2 - (lg_sl ([.ref h0, .int x])).length) Slot.unset).toArray = ls at hl ⊢
  have hl : lv_has ls 2 [(0, .ref h0), (1, .int x)] := hl
  refine lv_iload_n hx hb dX8_tableOf_0 rfl (lv_at hl 1 rfl) ?_
  refine lv_if_ne (tgt := 9) hx hb dX8_tableOf_1 (by decide) (fun c_1 => ?_) (fun c_1 => ?_)
  · refine lv_iload_n hx hb dX8_tableOf_9 rfl (lv_at hl 1 rfl) ?_
    refine lv_iconst (v := 1) hx hb dX8_tableOf_10 (by decide) ?_
    refine lv_icmp_ne (tgt := 21) hx hb dX8_tableOf_11 (by decide) (fun c_2 => ?_) (fun c_2 => ?_)
    · exact absurd hx1 c_2
    · refine lv_aload_n hx hb dX8_tableOf_14 rfl (lv_at hl 0 rfl) ?_
      refine va_get (D := (dC, dI)) (ci := 8) (v := .ref d5) (C := RX8) (T := TX8) (N := 8) hx hb hts inc_X8_tableOf_8 hown hG.1 hP 0 rfl rfl 5 (by decide) (hts (.fieldLink RX8 44 "MappingDesk" "one" "LMappingDesk$Table;") (by decide +kernel)) (fun _ h9 => h9) rfl dX8_tableOf_15 ?_
      refine lv_goto (tgt := 22) hx hb dX8_tableOf_18 (by decide) ?_
      exact W.aret (v := .ref d5) hx hb hr (Or.inl ⟨_, rfl⟩) (Or.inr ⟨_, rfl⟩) (fun t ht hW => ⟨0, rfl, trivial, ht.trans hH⟩) t_nil dX8_tableOf_22
  · exact absurd c_1 hx0

set_option maxHeartbeats 4000000 in
set_option maxRecDepth 100000 in
theorem c_X8_tableOf_n (l : Launch) (dC : Nat → ClassId) (dI : Nat → Nat → Nat) (cB cC cI cJ : ClassId) (sz : Nat) (h0 d0 d1 d2 d3 d4 d5 d6 : Nat) (lf : Int32) (x : Int32) (hx0 : ¬ x = 0) (hx1 : ¬ x = 1) : Met l yX8_tableOf wsX8_tableOf ({ frames := 0, cells := 0, slots := 0, locals := 0 } : Room) (cP dC dI cB cC cI cJ [.ref h0, .int x] sz [(h0, .inr (8, [.ref d0, .ref d1, .ref d2, .ref d3, .ref d4, .ref d5, .ref d6, .int lf]))]) (va_Sr (fun _ => True) (fun _ => .null)) 0 0 (fun _ => False) := by
  refine Met.ofW (cc := cX8_tableOf) (maxL := 2) (ret := (some (.object "MappingDesk$Table"))) (by decide) rfl ?_
  intro p e s m args below meth c s₁ B hml hv
  obtain ⟨rfl, hsz, hP, hG, hD0⟩ := hv
  have hx := B.exec
  have hb := B.bytes
  have hr := B.returns
  have hts := atoms_spec (ws := wsX8_tableOf) B.pre
  have hown : s.vm.findClass RX8 = some m.cls := findClass_of_methodNamed B.named
  have hlocks := B.notSynchronized
  subst hsz
  obtain ⟨H, hH⟩ : ∃ H : Heap, H = s.heap := ⟨_, rfl⟩
  rw [← hH] at hP ⊢
  have hl := lv_entry ([.ref h0, .int x]) (n := 2) (Nat.le_of_ble_eq_true rfl)
  rw [lg_entry_eq]
  generalize (lg_sl ([.ref h0, .int x]) ++ List.replicate (2 - (lg_sl ([.ref h0, .int x])).length) Slot.unset).toArray = ls at hl ⊢
  have hl : lv_has ls 2 [(0, .ref h0), (1, .int x)] := hl
  refine lv_iload_n hx hb dX8_tableOf_0 rfl (lv_at hl 1 rfl) ?_
  refine lv_if_ne (tgt := 9) hx hb dX8_tableOf_1 (by decide) (fun c_1 => ?_) (fun c_1 => ?_)
  · refine lv_iload_n hx hb dX8_tableOf_9 rfl (lv_at hl 1 rfl) ?_
    refine lv_iconst (v := 1) hx hb dX8_tableOf_10 (by decide) ?_
    refine lv_icmp_ne (tgt := 21) hx hb dX8_tableOf_11 (by decide) (fun c_2 => ?_) (fun c_2 => ?_)
    · refine lv_null hx hb dX8_tableOf_21 ?_
      exact W.aret (v := .null) hx hb hr (Or.inl ⟨_, rfl⟩) (Or.inl rfl) (fun t ht hW => ⟨0, rfl, trivial, ht.trans hH⟩) t_nil dX8_tableOf_22
    · exact absurd c_2 hx1
  · exact absurd c_1 hx0

def fX8_fault (lf : Int32) : Int32 :=
  lf
theorem inc_X8_fault_8 : ∀ w ∈ u_ws RX8 TX8 8, w ∈ wsX8_fault := by decide +kernel
set_option maxHeartbeats 4000000 in
set_option maxRecDepth 100000 in
theorem c_X8_fault (l : Launch) (dC : Nat → ClassId) (dI : Nat → Nat → Nat) (cB cC cI cJ : ClassId) (sz : Nat) (h0 d0 d1 d2 d3 d4 d5 d6 : Nat) (lf : Int32) : Met l yX8_fault wsX8_fault ({ frames := 0, cells := 0, slots := 0, locals := 0 } : Room) (cP dC dI cB cC cI cJ [.ref h0] sz [(h0, .inr (8, [.ref d0, .ref d1, .ref d2, .ref d3, .ref d4, .ref d5, .ref d6, .int lf]))]) (vp_Si (fun r => r = (fX8_fault lf))) 0 0 (fun _ => False) := by
  refine Met.ofW (cc := cX8_fault) (maxL := 1) (ret := (some .int)) (by decide) rfl ?_
  intro p e s m args below meth c s₁ B hml hv
  obtain ⟨rfl, hsz, hP, hG, hD0⟩ := hv
  have hx := B.exec
  have hb := B.bytes
  have hr := B.returns
  have hts := atoms_spec (ws := wsX8_fault) B.pre
  have hown : s.vm.findClass RX8 = some m.cls := findClass_of_methodNamed B.named
  have hlocks := B.notSynchronized
  subst hsz
  obtain ⟨H, hH⟩ : ∃ H : Heap, H = s.heap := ⟨_, rfl⟩
  rw [← hH] at hP ⊢
  generalize hR : fX8_fault lf = R
  unfold fX8_fault at hR
  have hl := lv_entry ([.ref h0]) (n := 1) (Nat.le_of_ble_eq_true rfl)
  rw [lg_entry_eq]
  generalize (lg_sl ([.ref h0]) ++ List.replicate (1 - (lg_sl ([.ref h0])).length) Slot.unset).toArray = ls at hl ⊢
  have hl : lv_has ls 1 [(0, .ref h0)] := hl
  refine lv_aload_n hx hb dX8_fault_0 rfl (lv_at hl 0 rfl) ?_
  refine va_get (D := (dC, dI)) (ci := 8) (v := .int lf) (C := RX8) (T := TX8) (N := 8) hx hb hts inc_X8_fault_8 hown hG.1 hP 0 rfl rfl 7 (by decide) (hts (.fieldLink RX8 54 "MappingDesk" "latestFault" "I") (by decide +kernel)) (fun _ h9 => h9) rfl dX8_fault_1 ?_
  subst hR
  exact W.iret (v := lf) hx hb hr (fun t ht hW => ⟨lf, rfl, rfl, ht.trans hH⟩) t_nil dX8_fault_4

def fX8_end (lf : Int32) (bt : Nat → Int32) (ln x : Int32) : Int32 × Int32 :=
  if x < 0 then
    (0, ln)
  else
    if x ≤ ln then
      (1, x)
    else
      (0, ln)
theorem inc_X8_end_8 : ∀ w ∈ u_ws RX8 TX8 8, w ∈ wsX8_end := by decide +kernel
theorem inc_X8_end_5 : ∀ w ∈ u_ws RX5 TX5 2, w ∈ wsX8_end := by decide +kernel
set_option maxHeartbeats 4000000 in
set_option maxRecDepth 100000 in
theorem c_X8_end (l : Launch) (dC : Nat → ClassId) (dI : Nat → Nat → Nat) (cB cC cI cJ : ClassId) (sz : Nat) (h0 d0 d1 d2 d3 d4 d5 d6 b0 : Nat) (lf : Int32) (bt : Nat → Int32) (ln x : Int32) : Met l yX8_end wsX8_end ({ frames := 0, cells := 0, slots := 0, locals := 0 } : Room) (cP dC dI cB cC cI cJ [.ref h0, .int x] sz [(h0, .inr (8, [.ref d0, .ref d1, .ref d2, .ref d3, .ref d4, .ref d5, .ref d6, .int lf])), (d0, .inr (5, [.ref b0, .int ln])), (b0, .inl (cB, 3000, .inl bt))]) (va_Qi (fun r _ => r = (fX8_end lf bt ln x).1) (cE dC dI (va_A [(h0, .inr (8, [.ref d0, .ref d1, .ref d2, .ref d3, .ref d4, .ref d5, .ref d6, .int lf])), (d0, .inr (5, [.ref b0, .int ln])), (b0, .inl (cB, 3000, .inl bt))] sz) [(h0, .inr (8, [.ref d0, .ref d1, .ref d2, .ref d3, .ref d4, .ref d5, .ref d6, .int lf])), (d0, .inr (5, [.ref b0, .int (fX8_end lf bt ln x).2])), (b0, .inl (cB, 3000, .inl bt))]) (va_A [(h0, .inr (8, [.ref d0, .ref d1, .ref d2, .ref d3, .ref d4, .ref d5, .ref d6, .int lf])), (d0, .inr (5, [.ref b0, .int ln])), (b0, .inl (cB, 3000, .inl bt))] sz)) 0 0 (va_A [(h0, .inr (8, [.ref d0, .ref d1, .ref d2, .ref d3, .ref d4, .ref d5, .ref d6, .int lf])), (d0, .inr (5, [.ref b0, .int ln])), (b0, .inl (cB, 3000, .inl bt))] sz) := by
  refine Met.ofW (cc := cX8_end) (maxL := 2) (ret := (some .boolean)) (by decide) rfl ?_
  intro p e s m args below meth c s₁ B hml hv
  obtain ⟨rfl, hsz, hP, hG, hD0⟩ := hv
  have hx := B.exec
  have hb := B.bytes
  have hr := B.returns
  have hts := atoms_spec (ws := wsX8_end) B.pre
  have hown : s.vm.findClass RX8 = some m.cls := findClass_of_methodNamed B.named
  have hlocks := B.notSynchronized
  subst hsz
  have hD := hD0.self (sz := s.heap.size)
  generalize hAe : va_A [(h0, .inr (8, [.ref d0, .ref d1, .ref d2, .ref d3, .ref d4, .ref d5, .ref d6, .int lf])), (d0, .inr (5, [.ref b0, .int ln])), (b0, .inl (cB, 3000, .inl bt))] s.heap.size = A at hD ⊢
  have hA : ∀ q : Nat, s.heap.size ≤ q → A q := fun q h => by rw [← hAe]; exact Or.inr h
  obtain ⟨H, hH⟩ : ∃ H : Heap, H = s.heap := ⟨_, rfl⟩
  have hS : va_S A s.heap H [] := by rw [hH]; exact va_S.rf
  rw [← hH] at hP ⊢
  generalize hR : fX8_end lf bt ln x = R
  unfold fX8_end at hR
  have hl := lv_entry ([.ref h0, .int x]) (n := 2) (Nat.le_of_ble_eq_true rfl)
  rw [lg_entry_eq]
  generalize (lg_sl ([.ref h0, .int x]) ++ List.replicate (2 - (lg_sl ([.ref h0, .int x])).length) Slot.unset).toArray = ls at hl ⊢
  have hl : lv_has ls 2 [(0, .ref h0), (1, .int x)] := hl
  refine lv_iload_n hx hb dX8_end_0 rfl (lv_at hl 1 rfl) ?_
  refine lv_if_lt (tgt := 15) hx hb dX8_end_1 (by decide) (fun c_1 => ?_) (fun c_1 => ?_)
  · rw [if_pos c_1] at hR
    refine lv_iconst (v := 0) hx hb dX8_end_15 (by decide) ?_
    subst hR
    exact W.zret (v := 0) hx hb hr rfl (fun t ht hW => ⟨⟨0, (), rfl, rfl, by rw [ht]; exact hP, hD⟩, hS.F ht⟩) hS.2.2 dX8_end_16
  · rw [if_neg c_1] at hR
    refine lv_iload_n hx hb dX8_end_4 rfl (lv_at hl 1 rfl) ?_
    refine lv_aload_n hx hb dX8_end_5 rfl (lv_at hl 0 rfl) ?_
    refine va_get (D := (dC, dI)) (ci := 8) (v := .ref d0) (C := RX8) (T := TX8) (N := 8) hx hb hts inc_X8_end_8 hown hG.1 hP 0 rfl rfl 0 (by decide) (hts (.fieldLink RX8 10 "MappingDesk" "tape" "LMappingDesk$Tape;") (by decide +kernel)) (fun _ h9 => h9) rfl dX8_end_6 ?_
    refine va_getN (D := (dC, dI)) (ci := 5) (v := .int ln) (C := RX5) (T := TX5) (N := 2) hx hb hts inc_X8_end_5 hown hG.1 hP 1 rfl rfl 1 (by decide) (hG.nf (a := RX8) (i := 66) (b := "MappingDesk$Tape") (n := "length") (d := "I") (t := "MappingDesk") (by decide +kernel)) (fun _ h9 => h9) rfl dX8_end_9 ?_
    refine lv_icmp_le (tgt := 17) hx hb dX8_end_12 (by decide) (fun c_2 => ?_) (fun c_2 => ?_)
    · rw [if_pos c_2] at hR
      refine lv_aload_n hx hb dX8_end_17 rfl (lv_at hl 0 rfl) ?_
      refine va_get (D := (dC, dI)) (ci := 8) (v := .ref d0) (C := RX8) (T := TX8) (N := 8) hx hb hts inc_X8_end_8 hown hG.1 hP 0 rfl rfl 0 (by decide) (hts (.fieldLink RX8 10 "MappingDesk" "tape" "LMappingDesk$Tape;") (by decide +kernel)) (fun _ h9 => h9) rfl dX8_end_18 ?_
      refine lv_iload_n hx hb dX8_end_21 rfl (lv_at hl 1 rfl) ?_
      refine va_putN (D := (dC, dI)) (ci := 5) (v := .int x) (ty := .int) (C := RX5) (T := TX5) (N := 2) hx hb hts inc_X8_end_5 tyX5 tyX5_ok nmX5 hown hG.1 hP hD hS 1 rfl rfl 1 (by decide) (hG.nf (a := RX8) (i := 66) (b := "MappingDesk$Tape") (n := "length") (d := "I") (t := "MappingDesk") (by decide +kernel)) (fun _ h9 => h9) rfl (by decide +kernel) rfl rfl (Nat.le_of_ble_eq_true rfl) dX8_end_22 (fun H locs hP hD hS => ?_)
      have hP : va_P (dC, dI) vwCl [(h0, .inr (8, [.ref d0, .ref d1, .ref d2, .ref d3, .ref d4, .ref d5, .ref d6, .int lf])), (d0, .inr (5, [.ref b0, .int x])), (b0, .inl (cB, 3000, .inl bt))] H := hP
      have hD : va_D A [(h0, .inr (8, [.ref d0, .ref d1, .ref d2, .ref d3, .ref d4, .ref d5, .ref d6, .int lf])), (d0, .inr (5, [.ref b0, .int x])), (b0, .inl (cB, 3000, .inl bt))] := hD
      refine lv_iconst (v := 1) hx hb dX8_end_25 (by decide) ?_
      subst hR
      exact W.zret (v := 1) hx hb hr rfl (fun t ht hW => ⟨⟨1, (), rfl, rfl, by rw [ht]; exact hP, hD⟩, hS.F ht⟩) hS.2.2 dX8_end_26
    · rw [if_neg c_2] at hR
      refine lv_iconst (v := 0) hx hb dX8_end_15 (by decide) ?_
      subst hR
      exact W.zret (v := 0) hx hb hr rfl (fun t ht hW => ⟨⟨0, (), rfl, rfl, by rw [ht]; exact hP, hD⟩, hS.F ht⟩) hS.2.2 dX8_end_16

def fX8_size (lf cz co x : Int32) : Int32 :=
  if x = 0 then
    cz
  else
    if x = 1 then
      co
    else
      (-1)
theorem inc_X8_size_4 : ∀ w ∈ u_ws RX4 TX4 7, w ∈ wsX8_size := by decide +kernel
set_option maxHeartbeats 4000000 in
set_option maxRecDepth 100000 in
theorem c_X8_size (l : Launch) (dC : Nat → ClassId) (dI : Nat → Nat → Nat) (cB cC cI cJ : ClassId) (sz : Nat) (h0 d0 d1 d2 d3 d4 d5 d6 z0 z1 z2 z3 z4 z5 o0 o1 o2 o3 o4 o5 : Nat) (lf cz co x : Int32) : Met l yX8_size wsX8_size ({ frames := 1, cells := 0, slots := 0, locals := 21 } : Room) (cP dC dI cB cC cI cJ [.ref h0, .int x] sz [(h0, .inr (8, [.ref d0, .ref d1, .ref d2, .ref d3, .ref d4, .ref d5, .ref d6, .int lf])), (d4, .inr (4, [.ref z0, .ref z1, .ref z2, .ref z3, .ref z4, .ref z5, .int cz])), (d5, .inr (4, [.ref o0, .ref o1, .ref o2, .ref o3, .ref o4, .ref o5, .int co]))]) (vp_Si (fun r => r = (fX8_size lf cz co x))) 0 0 (fun _ => False) := by
  refine Met.ofW (cc := cX8_size) (maxL := 3) (ret := (some .int)) (by decide) rfl ?_
  intro p e s m args below meth c s₁ B hml hv
  obtain ⟨rfl, hsz, hP, hG, hD0⟩ := hv
  have hx := B.exec
  have hb := B.bytes
  have hr := B.returns
  have hts := atoms_spec (ws := wsX8_size) B.pre
  have hown : s.vm.findClass RX8 = some m.cls := findClass_of_methodNamed B.named
  have hlocks := B.notSynchronized
  subst hsz
  obtain ⟨H, hH⟩ : ∃ H : Heap, H = s.heap := ⟨_, rfl⟩
  rw [← hH] at hP ⊢
  generalize hR : fX8_size lf cz co x = R
  unfold fX8_size at hR
  have hl := lv_entry ([.ref h0, .int x]) (n := 3) (Nat.le_of_ble_eq_true rfl)
  rw [lg_entry_eq]
  generalize (lg_sl ([.ref h0, .int x]) ++ List.replicate (3 - (lg_sl ([.ref h0, .int x])).length) Slot.unset).toArray = ls at hl ⊢
  have hl : lv_has ls 3 [(0, .ref h0), (1, .int x)] := hl
  refine lv_aload_n hx hb dX8_size_0 rfl (lv_at hl 0 rfl) ?_
  refine lv_iload_n hx hb dX8_size_1 rfl (lv_at hl 1 rfl) ?_
  by_cases c_1 : x = 0
  · rw [if_pos c_1] at hR
    have p_2 : x = 0 := by
      assumption
    have hPc := hP.sub (ws' := [(h0, .inr (8, [.ref d0, .ref d1, .ref d2, .ref d3, .ref d4, .ref d5, .ref d6, .int lf]))]) [0] rfl
    have hDc := hD0.sub (ws' := [(h0, .inr (8, [.ref d0, .ref d1, .ref d2, .ref d3, .ref d4, .ref d5, .ref d6, .int lf]))]) [0] (by decide) rfl
    refine va_csr (va_Run.run (va_runV (As := [.int x]) (rest := []) ⟨hx, hb, hml, hown, hts⟩ (c_X8_tableOf_0 l dC dI cB cC cI cJ H.size h0 d0 d1 d2 d3 d4 d5 d6 lf x p_2) (cwV 1 hts gX8_size_X8_tableOf rfl rfl rfl (by decide +kernel) ⟨(Nat.le_of_ble_eq_true rfl), (Nat.le_of_ble_eq_true rfl)⟩) ⟨cP_blind, va_recv hG.1 hPc (ci := 8) (q0 := 0) rfl rfl, cP_pre hPc hG hDc⟩ rfl rfl hl.1 rfl (lv_room (Nat.le_of_ble_eq_true rfl)) dX8_size_2 ⟨Nat.le_of_ble_eq_true rfl, Nat.le_of_ble_eq_true rfl⟩)) (fun r_3 hr_3 => ?_)
    show W _ _ _ _ _ _ _ _ _ _ _ _ _ _ _ (F0 m 5 ls (.ref d4 :: []))
    refine lv_astore_n (lv' := [(2, .ref d4), (0, .ref h0), (1, .int x)]) hx hb dX8_size_5 rfl hl (by decide) rfl (fun ls hl => ?_)
    refine lv_aload_n hx hb dX8_size_6 rfl (lv_at hl 0 rfl) ?_
    refine lv_ifnonnull (tgt := 14) hx hb dX8_size_7 (by decide) ?_
    refine lv_aload_n hx hb dX8_size_14 rfl (lv_at hl 0 rfl) ?_
    refine va_getN (D := (dC, dI)) (ci := 4) (v := .int cz) (C := RX4) (T := TX4) (N := 7) hx hb hts inc_X8_size_4 hown hG.1 hP 1 rfl rfl 6 (by decide) (hG.nf (a := RX8) (i := 87) (b := "MappingDesk$Table") (n := "count") (d := "I") (t := "MappingDesk") (by decide +kernel)) (fun _ h9 => h9) rfl dX8_size_15 ?_
    subst hR
    exact W.iret (v := cz) hx hb hr (fun t ht hW => ⟨cz, rfl, rfl, ht.trans hH⟩) t_nil dX8_size_18
  · rw [if_neg c_1] at hR
    by_cases c_4 : x = 1
    · rw [if_pos c_4] at hR
      have p_5 : ¬ x = 0 := by
        assumption
      have p_6 : x = 1 := by
        assumption
      have hPc := hP.sub (ws' := [(h0, .inr (8, [.ref d0, .ref d1, .ref d2, .ref d3, .ref d4, .ref d5, .ref d6, .int lf]))]) [0] rfl
      have hDc := hD0.sub (ws' := [(h0, .inr (8, [.ref d0, .ref d1, .ref d2, .ref d3, .ref d4, .ref d5, .ref d6, .int lf]))]) [0] (by decide) rfl
      refine va_csr (va_Run.run (va_runV (As := [.int x]) (rest := []) ⟨hx, hb, hml, hown, hts⟩ (c_X8_tableOf_1 l dC dI cB cC cI cJ H.size h0 d0 d1 d2 d3 d4 d5 d6 lf x p_5 p_6) (cwV 1 hts gX8_size_X8_tableOf rfl rfl rfl (by decide +kernel) ⟨(Nat.le_of_ble_eq_true rfl), (Nat.le_of_ble_eq_true rfl)⟩) ⟨cP_blind, va_recv hG.1 hPc (ci := 8) (q0 := 0) rfl rfl, cP_pre hPc hG hDc⟩ rfl rfl hl.1 rfl (lv_room (Nat.le_of_ble_eq_true rfl)) dX8_size_2 ⟨Nat.le_of_ble_eq_true rfl, Nat.le_of_ble_eq_true rfl⟩)) (fun r_7 hr_7 => ?_)
      show W _ _ _ _ _ _ _ _ _ _ _ _ _ _ _ (F0 m 5 ls (.ref d5 :: []))
      refine lv_astore_n (lv' := [(2, .ref d5), (0, .ref h0), (1, .int x)]) hx hb dX8_size_5 rfl hl (by decide) rfl (fun ls hl => ?_)
      refine lv_aload_n hx hb dX8_size_6 rfl (lv_at hl 0 rfl) ?_
      refine lv_ifnonnull (tgt := 14) hx hb dX8_size_7 (by decide) ?_
      refine lv_aload_n hx hb dX8_size_14 rfl (lv_at hl 0 rfl) ?_
      refine va_getN (D := (dC, dI)) (ci := 4) (v := .int co) (C := RX4) (T := TX4) (N := 7) hx hb hts inc_X8_size_4 hown hG.1 hP 2 rfl rfl 6 (by decide) (hG.nf (a := RX8) (i := 87) (b := "MappingDesk$Table") (n := "count") (d := "I") (t := "MappingDesk") (by decide +kernel)) (fun _ h9 => h9) rfl dX8_size_15 ?_
      subst hR
      exact W.iret (v := co) hx hb hr (fun t ht hW => ⟨co, rfl, rfl, ht.trans hH⟩) t_nil dX8_size_18
    · rw [if_neg c_4] at hR
      have p_8 : ¬ x = 0 := by
        assumption
      have p_9 : ¬ x = 1 := by
        assumption
      have hPc := hP.sub (ws' := [(h0, .inr (8, [.ref d0, .ref d1, .ref d2, .ref d3, .ref d4, .ref d5, .ref d6, .int lf]))]) [0] rfl
      have hDc := hD0.sub (ws' := [(h0, .inr (8, [.ref d0, .ref d1, .ref d2, .ref d3, .ref d4, .ref d5, .ref d6, .int lf]))]) [0] (by decide) rfl
      refine va_csr (va_Run.run (va_runV (As := [.int x]) (rest := []) ⟨hx, hb, hml, hown, hts⟩ (c_X8_tableOf_n l dC dI cB cC cI cJ H.size h0 d0 d1 d2 d3 d4 d5 d6 lf x p_8 p_9) (cwV 1 hts gX8_size_X8_tableOf rfl rfl rfl (by decide +kernel) ⟨(Nat.le_of_ble_eq_true rfl), (Nat.le_of_ble_eq_true rfl)⟩) ⟨cP_blind, va_recv hG.1 hPc (ci := 8) (q0 := 0) rfl rfl, cP_pre hPc hG hDc⟩ rfl rfl hl.1 rfl (lv_room (Nat.le_of_ble_eq_true rfl)) dX8_size_2 ⟨Nat.le_of_ble_eq_true rfl, Nat.le_of_ble_eq_true rfl⟩)) (fun r_10 hr_10 => ?_)
      show W _ _ _ _ _ _ _ _ _ _ _ _ _ _ _ (F0 m 5 ls (.null :: []))
      refine lv_astore_nN (lv' := [(2, .null), (0, .ref h0), (1, .int x)]) hx hb dX8_size_5 rfl hl (by decide) rfl (fun ls hl => ?_)
      refine lv_aload_nN hx hb dX8_size_6 rfl (lv_at hl 0 rfl) ?_
      refine lv_ifnonnullN hx hb dX8_size_7 ?_
      refine lv_iconst (v := (-1)) hx hb dX8_size_10 (by decide) ?_
      refine lv_goto (tgt := 18) hx hb dX8_size_11 (by decide) ?_
      subst hR
      exact W.iret (v := (-1)) hx hb hr (fun t ht hW => ⟨(-1), rfl, rfl, ht.trans hH⟩) t_nil dX8_size_18

def fX8_clear (lf cz co x : Int32) : Int32 × Int32 × Int32 :=
  if x = 0 then
    (1, 0, co)
  else
    if x = 1 then
      (1, cz, 0)
    else
      (0, cz, co)
theorem inc_X8_clear_4 : ∀ w ∈ u_ws RX4 TX4 7, w ∈ wsX8_clear := by decide +kernel
set_option maxHeartbeats 4000000 in
set_option maxRecDepth 100000 in
theorem c_X8_clear (l : Launch) (dC : Nat → ClassId) (dI : Nat → Nat → Nat) (cB cC cI cJ : ClassId) (sz : Nat) (h0 d0 d1 d2 d3 d4 d5 d6 z0 z1 z2 z3 z4 z5 o0 o1 o2 o3 o4 o5 : Nat) (lf cz co x : Int32) : Met l yX8_clear wsX8_clear ({ frames := 1, cells := 0, slots := 0, locals := 21 } : Room) (cP dC dI cB cC cI cJ [.ref h0, .int x] sz [(h0, .inr (8, [.ref d0, .ref d1, .ref d2, .ref d3, .ref d4, .ref d5, .ref d6, .int lf])), (d4, .inr (4, [.ref z0, .ref z1, .ref z2, .ref z3, .ref z4, .ref z5, .int cz])), (d5, .inr (4, [.ref o0, .ref o1, .ref o2, .ref o3, .ref o4, .ref o5, .int co]))]) (va_Qi (fun r _ => r = (fX8_clear lf cz co x).1) (cE dC dI (va_A [(h0, .inr (8, [.ref d0, .ref d1, .ref d2, .ref d3, .ref d4, .ref d5, .ref d6, .int lf])), (d4, .inr (4, [.ref z0, .ref z1, .ref z2, .ref z3, .ref z4, .ref z5, .int cz])), (d5, .inr (4, [.ref o0, .ref o1, .ref o2, .ref o3, .ref o4, .ref o5, .int co]))] sz) [(h0, .inr (8, [.ref d0, .ref d1, .ref d2, .ref d3, .ref d4, .ref d5, .ref d6, .int lf])), (d4, .inr (4, [.ref z0, .ref z1, .ref z2, .ref z3, .ref z4, .ref z5, .int (fX8_clear lf cz co x).2.1])), (d5, .inr (4, [.ref o0, .ref o1, .ref o2, .ref o3, .ref o4, .ref o5, .int (fX8_clear lf cz co x).2.2]))]) (va_A [(h0, .inr (8, [.ref d0, .ref d1, .ref d2, .ref d3, .ref d4, .ref d5, .ref d6, .int lf])), (d4, .inr (4, [.ref z0, .ref z1, .ref z2, .ref z3, .ref z4, .ref z5, .int cz])), (d5, .inr (4, [.ref o0, .ref o1, .ref o2, .ref o3, .ref o4, .ref o5, .int co]))] sz)) 0 0 (va_A [(h0, .inr (8, [.ref d0, .ref d1, .ref d2, .ref d3, .ref d4, .ref d5, .ref d6, .int lf])), (d4, .inr (4, [.ref z0, .ref z1, .ref z2, .ref z3, .ref z4, .ref z5, .int cz])), (d5, .inr (4, [.ref o0, .ref o1, .ref o2, .ref o3, .ref o4, .ref o5, .int co]))] sz) := by
  refine Met.ofW (cc := cX8_clear) (maxL := 3) (ret := (some .boolean)) (by decide) rfl ?_
  intro p e s m args below meth c s₁ B hml hv
  obtain ⟨rfl, hsz, hP, hG, hD0⟩ := hv
  have hx := B.exec
  have hb := B.bytes
  have hr := B.returns
  have hts := atoms_spec (ws := wsX8_clear) B.pre
  have hown : s.vm.findClass RX8 = some m.cls := findClass_of_methodNamed B.named
  have hlocks := B.notSynchronized
  subst hsz
  have hD := hD0.self (sz := s.heap.size)
  generalize hAe : va_A [(h0, .inr (8, [.ref d0, .ref d1, .ref d2, .ref d3, .ref d4, .ref d5, .ref d6, .int lf])), (d4, .inr (4, [.ref z0, .ref z1, .ref z2, .ref z3, .ref z4, .ref z5, .int cz])), (d5, .inr (4, [.ref o0, .ref o1, .ref o2, .ref o3, .ref o4, .ref o5, .int co]))] s.heap.size = A at hD ⊢
  have hA : ∀ q : Nat, s.heap.size ≤ q → A q := fun q h => by rw [← hAe]; exact Or.inr h
  obtain ⟨H, hH⟩ : ∃ H : Heap, H = s.heap := ⟨_, rfl⟩
  have hS : va_S A s.heap H [] := by rw [hH]; exact va_S.rf
  rw [← hH] at hP ⊢
  generalize hR : fX8_clear lf cz co x = R
  unfold fX8_clear at hR
  have hl := lv_entry ([.ref h0, .int x]) (n := 3) (Nat.le_of_ble_eq_true rfl)
  rw [lg_entry_eq]
  generalize (lg_sl ([.ref h0, .int x]) ++ List.replicate (3 - (lg_sl ([.ref h0, .int x])).length) Slot.unset).toArray = ls at hl ⊢
  have hl : lv_has ls 3 [(0, .ref h0), (1, .int x)] := hl
  refine lv_aload_n hx hb dX8_clear_0 rfl (lv_at hl 0 rfl) ?_
  refine lv_iload_n hx hb dX8_clear_1 rfl (lv_at hl 1 rfl) ?_
  by_cases c_1 : x = 0
  · rw [if_pos c_1] at hR
    have p_2 : x = 0 := by
      assumption
    have hPc := hP.sub (ws' := [(h0, .inr (8, [.ref d0, .ref d1, .ref d2, .ref d3, .ref d4, .ref d5, .ref d6, .int lf]))]) [0] rfl
    have hDc := hD.sub (ws' := [(h0, .inr (8, [.ref d0, .ref d1, .ref d2, .ref d3, .ref d4, .ref d5, .ref d6, .int lf]))]) [0] (by decide) rfl
    refine va_csr (va_Run.run (va_runV (As := [.int x]) (rest := []) ⟨hx, hb, hml, hown, hts⟩ (c_X8_tableOf_0 l dC dI cB cC cI cJ H.size h0 d0 d1 d2 d3 d4 d5 d6 lf x p_2) (cwV 1 hts gX8_clear_X8_tableOf rfl rfl rfl (by decide +kernel) ⟨(Nat.le_of_ble_eq_true rfl), (Nat.le_of_ble_eq_true rfl)⟩) ⟨cP_blind, va_recv hG.1 hPc (ci := 8) (q0 := 0) rfl rfl, cP_pre hPc hG hDc⟩ rfl rfl hl.1 rfl (lv_room (Nat.le_of_ble_eq_true rfl)) dX8_clear_2 ⟨Nat.le_of_ble_eq_true rfl, Nat.le_of_ble_eq_true rfl⟩)) (fun r_3 hr_3 => ?_)
    show W _ _ _ _ _ _ _ _ _ _ _ _ _ _ _ (F0 m 5 ls (.ref d4 :: []))
    refine lv_astore_n (lv' := [(2, .ref d4), (0, .ref h0), (1, .int x)]) hx hb dX8_clear_5 rfl hl (by decide) rfl (fun ls hl => ?_)
    refine lv_aload_n hx hb dX8_clear_6 rfl (lv_at hl 0 rfl) ?_
    refine lv_ifnonnull (tgt := 12) hx hb dX8_clear_7 (by decide) ?_
    refine lv_aload_n hx hb dX8_clear_12 rfl (lv_at hl 0 rfl) ?_
    refine lv_iconst (v := 0) hx hb dX8_clear_13 (by decide) ?_
    refine va_putN (D := (dC, dI)) (ci := 4) (v := .int 0) (ty := .int) (C := RX4) (T := TX4) (N := 7) hx hb hts inc_X8_clear_4 tyX4 tyX4_ok nmX4 hown hG.1 hP hD hS 1 rfl rfl 6 (by decide) (hG.nf (a := RX8) (i := 87) (b := "MappingDesk$Table") (n := "count") (d := "I") (t := "MappingDesk") (by decide +kernel)) (fun _ h9 => h9) rfl (by decide +kernel) rfl rfl (Nat.le_of_ble_eq_true rfl) dX8_clear_14 (fun H locs hP hD hS => ?_)
    have hP : va_P (dC, dI) vwCl [(h0, .inr (8, [.ref d0, .ref d1, .ref d2, .ref d3, .ref d4, .ref d5, .ref d6, .int lf])), (d4, .inr (4, [.ref z0, .ref z1, .ref z2, .ref z3, .ref z4, .ref z5, .int 0])), (d5, .inr (4, [.ref o0, .ref o1, .ref o2, .ref o3, .ref o4, .ref o5, .int co]))] H := hP
    have hD : va_D A [(h0, .inr (8, [.ref d0, .ref d1, .ref d2, .ref d3, .ref d4, .ref d5, .ref d6, .int lf])), (d4, .inr (4, [.ref z0, .ref z1, .ref z2, .ref z3, .ref z4, .ref z5, .int 0])), (d5, .inr (4, [.ref o0, .ref o1, .ref o2, .ref o3, .ref o4, .ref o5, .int co]))] := hD
    refine lv_iconst (v := 1) hx hb dX8_clear_17 (by decide) ?_
    subst hR
    exact W.zret (v := 1) hx hb hr rfl (fun t ht hW => ⟨⟨1, (), rfl, rfl, by rw [ht]; exact hP, hD⟩, hS.F ht⟩) hS.2.2 dX8_clear_18
  · rw [if_neg c_1] at hR
    by_cases c_4 : x = 1
    · rw [if_pos c_4] at hR
      have p_5 : ¬ x = 0 := by
        assumption
      have p_6 : x = 1 := by
        assumption
      have hPc := hP.sub (ws' := [(h0, .inr (8, [.ref d0, .ref d1, .ref d2, .ref d3, .ref d4, .ref d5, .ref d6, .int lf]))]) [0] rfl
      have hDc := hD.sub (ws' := [(h0, .inr (8, [.ref d0, .ref d1, .ref d2, .ref d3, .ref d4, .ref d5, .ref d6, .int lf]))]) [0] (by decide) rfl
      refine va_csr (va_Run.run (va_runV (As := [.int x]) (rest := []) ⟨hx, hb, hml, hown, hts⟩ (c_X8_tableOf_1 l dC dI cB cC cI cJ H.size h0 d0 d1 d2 d3 d4 d5 d6 lf x p_5 p_6) (cwV 1 hts gX8_clear_X8_tableOf rfl rfl rfl (by decide +kernel) ⟨(Nat.le_of_ble_eq_true rfl), (Nat.le_of_ble_eq_true rfl)⟩) ⟨cP_blind, va_recv hG.1 hPc (ci := 8) (q0 := 0) rfl rfl, cP_pre hPc hG hDc⟩ rfl rfl hl.1 rfl (lv_room (Nat.le_of_ble_eq_true rfl)) dX8_clear_2 ⟨Nat.le_of_ble_eq_true rfl, Nat.le_of_ble_eq_true rfl⟩)) (fun r_7 hr_7 => ?_)
      show W _ _ _ _ _ _ _ _ _ _ _ _ _ _ _ (F0 m 5 ls (.ref d5 :: []))
      refine lv_astore_n (lv' := [(2, .ref d5), (0, .ref h0), (1, .int x)]) hx hb dX8_clear_5 rfl hl (by decide) rfl (fun ls hl => ?_)
      refine lv_aload_n hx hb dX8_clear_6 rfl (lv_at hl 0 rfl) ?_
      refine lv_ifnonnull (tgt := 12) hx hb dX8_clear_7 (by decide) ?_
      refine lv_aload_n hx hb dX8_clear_12 rfl (lv_at hl 0 rfl) ?_
      refine lv_iconst (v := 0) hx hb dX8_clear_13 (by decide) ?_
      refine va_putN (D := (dC, dI)) (ci := 4) (v := .int 0) (ty := .int) (C := RX4) (T := TX4) (N := 7) hx hb hts inc_X8_clear_4 tyX4 tyX4_ok nmX4 hown hG.1 hP hD hS 2 rfl rfl 6 (by decide) (hG.nf (a := RX8) (i := 87) (b := "MappingDesk$Table") (n := "count") (d := "I") (t := "MappingDesk") (by decide +kernel)) (fun _ h9 => h9) rfl (by decide +kernel) rfl rfl (Nat.le_of_ble_eq_true rfl) dX8_clear_14 (fun H locs hP hD hS => ?_)
      have hP : va_P (dC, dI) vwCl [(h0, .inr (8, [.ref d0, .ref d1, .ref d2, .ref d3, .ref d4, .ref d5, .ref d6, .int lf])), (d4, .inr (4, [.ref z0, .ref z1, .ref z2, .ref z3, .ref z4, .ref z5, .int cz])), (d5, .inr (4, [.ref o0, .ref o1, .ref o2, .ref o3, .ref o4, .ref o5, .int 0]))] H := hP
      have hD : va_D A [(h0, .inr (8, [.ref d0, .ref d1, .ref d2, .ref d3, .ref d4, .ref d5, .ref d6, .int lf])), (d4, .inr (4, [.ref z0, .ref z1, .ref z2, .ref z3, .ref z4, .ref z5, .int cz])), (d5, .inr (4, [.ref o0, .ref o1, .ref o2, .ref o3, .ref o4, .ref o5, .int 0]))] := hD
      refine lv_iconst (v := 1) hx hb dX8_clear_17 (by decide) ?_
      subst hR
      exact W.zret (v := 1) hx hb hr rfl (fun t ht hW => ⟨⟨1, (), rfl, rfl, by rw [ht]; exact hP, hD⟩, hS.F ht⟩) hS.2.2 dX8_clear_18
    · rw [if_neg c_4] at hR
      have p_8 : ¬ x = 0 := by
        assumption
      have p_9 : ¬ x = 1 := by
        assumption
      have hPc := hP.sub (ws' := [(h0, .inr (8, [.ref d0, .ref d1, .ref d2, .ref d3, .ref d4, .ref d5, .ref d6, .int lf]))]) [0] rfl
      have hDc := hD.sub (ws' := [(h0, .inr (8, [.ref d0, .ref d1, .ref d2, .ref d3, .ref d4, .ref d5, .ref d6, .int lf]))]) [0] (by decide) rfl
      refine va_csr (va_Run.run (va_runV (As := [.int x]) (rest := []) ⟨hx, hb, hml, hown, hts⟩ (c_X8_tableOf_n l dC dI cB cC cI cJ H.size h0 d0 d1 d2 d3 d4 d5 d6 lf x p_8 p_9) (cwV 1 hts gX8_clear_X8_tableOf rfl rfl rfl (by decide +kernel) ⟨(Nat.le_of_ble_eq_true rfl), (Nat.le_of_ble_eq_true rfl)⟩) ⟨cP_blind, va_recv hG.1 hPc (ci := 8) (q0 := 0) rfl rfl, cP_pre hPc hG hDc⟩ rfl rfl hl.1 rfl (lv_room (Nat.le_of_ble_eq_true rfl)) dX8_clear_2 ⟨Nat.le_of_ble_eq_true rfl, Nat.le_of_ble_eq_true rfl⟩)) (fun r_10 hr_10 => ?_)
      show W _ _ _ _ _ _ _ _ _ _ _ _ _ _ _ (F0 m 5 ls (.null :: []))
      refine lv_astore_nN (lv' := [(2, .null), (0, .ref h0), (1, .int x)]) hx hb dX8_clear_5 rfl hl (by decide) rfl (fun ls hl => ?_)
      refine lv_aload_nN hx hb dX8_clear_6 rfl (lv_at hl 0 rfl) ?_
      refine lv_ifnonnullN hx hb dX8_clear_7 ?_
      refine lv_iconst (v := 0) hx hb dX8_clear_10 (by decide) ?_
      subst hR
      exact W.zret (v := 0) hx hb hr rfl (fun t ht hW => ⟨⟨0, (), rfl, rfl, by rw [ht]; exact hP, hD⟩, hS.F ht⟩) hS.2.2 dX8_clear_11

def fX8_compose_4 (lf : Int32) (cz : Int32) (u0 u1 u2 u3 u4 u5 : Nat → Int32) (co : Int32) (v0 v1 v2 v3 v4 v5 : Nat → Int32) : Nat → Int32 → Int32 → (Nat → Int32) → (Nat → Int32) → (Nat → Int32) → (Nat → Int32) → Int32 × (Nat → Int32) × (Nat → Int32) × (Nat → Int32) × (Nat → Int32)
  | 0, _, _, _, _, _, _ => (0, (fun _ => 0), (fun _ => 0), (fun _ => 0), (fun _ => 0))
  | n + 1, te, k, uz2, uz3, uz4, uz5 =>
    if cz ≤ k then
      (te, uz2, uz3, uz4, uz5)
    else
      bnd (fX4_tells cz uz2 k) fun r_5 =>
      if r_5 = 0 then
        fX8_compose_4 lf cz u0 u1 u2 u3 u4 u5 co v0 v1 v2 v3 v4 v5 n te (k + 1) uz2 uz3 uz4 uz5
      else
        bnd (fX4_findTelling co v0 v1 v2 (uz3 k.toNatClampNeg) (uz4 k.toNatClampNeg)) fun r_42 =>
        if 0 ≤ r_42 then
          bnd (fX4_tellAs cz co u0 u1 uz2 uz3 uz4 uz5 v0 v1 v2 v3 v4 v5 k r_42) fun r_60 =>
          fX8_compose_4 lf cz u0 u1 u2 u3 u4 u5 co v0 v1 v2 v3 v4 v5 n (te + 1) (k + 1) r_60.1 r_60.2.1 r_60.2.2.1 r_60.2.2.2
        else
          bnd (fX4_tellNothing cz u0 u1 uz2 uz3 uz4 uz5 k) fun r_92 =>
          fX8_compose_4 lf cz u0 u1 u2 u3 u4 u5 co v0 v1 v2 v3 v4 v5 n te (k + 1) r_92.1 r_92.2.1 r_92.2.2.1 r_92.2.2.2
def fX8_compose (lf : Int32) (cz : Int32) (u0 u1 u2 u3 u4 u5 : Nat → Int32) (co : Int32) (v0 v1 v2 v3 v4 v5 : Nat → Int32) : Int32 × (Nat → Int32) × (Nat → Int32) × (Nat → Int32) × (Nat → Int32) :=
  fX8_compose_4 lf cz u0 u1 u2 u3 u4 u5 co v0 v1 v2 v3 v4 v5 301 0 0 u2 u3 u4 u5
theorem inc_X8_compose_8 : ∀ w ∈ u_ws RX8 TX8 8, w ∈ wsX8_compose := by decide +kernel
theorem inc_X8_compose_4 : ∀ w ∈ u_ws RX4 TX4 7, w ∈ wsX8_compose := by decide +kernel
set_option maxHeartbeats 4000000 in
set_option maxRecDepth 100000 in
theorem c_X8_compose (l : Launch) (dC : Nat → ClassId) (dI : Nat → Nat → Nat) (cB cC cI cJ : ClassId) (sz : Nat) (h0 d0 d1 d2 d3 d4 d5 d6 z0 z1 z2 z3 z4 z5 o0 o1 o2 o3 o4 o5 : Nat) (lf : Int32) (cz : Int32) (u0 u1 u2 u3 u4 u5 : Nat → Int32) (co : Int32) (v0 v1 v2 v3 v4 v5 : Nat → Int32) (hz0 : 0 ≤ cz.toInt) (hz1 : cz.toInt ≤ 300) (ho0 : 0 ≤ co.toInt) (ho1 : co.toInt ≤ 300) : Met l yX8_compose wsX8_compose ({ frames := 2, cells := 0, slots := 0, locals := 44 } : Room) (cP dC dI cB cC cI cJ [.ref h0] sz [(h0, .inr (8, [.ref d0, .ref d1, .ref d2, .ref d3, .ref d4, .ref d5, .ref d6, .int lf])), (d4, .inr (4, [.ref z0, .ref z1, .ref z2, .ref z3, .ref z4, .ref z5, .int cz])), (z0, .inl (cI, 300, .inl u0)), (z1, .inl (cI, 300, .inl u1)), (z2, .inl (cI, 300, .inl u2)), (z3, .inl (cI, 300, .inl u3)), (z4, .inl (cI, 300, .inl u4)), (z5, .inl (cI, 300, .inl u5)), (d5, .inr (4, [.ref o0, .ref o1, .ref o2, .ref o3, .ref o4, .ref o5, .int co])), (o0, .inl (cI, 300, .inl v0)), (o1, .inl (cI, 300, .inl v1)), (o2, .inl (cI, 300, .inl v2)), (o3, .inl (cI, 300, .inl v3)), (o4, .inl (cI, 300, .inl v4)), (o5, .inl (cI, 300, .inl v5))]) (va_Qi (fun r _ => r = (fX8_compose lf cz u0 u1 u2 u3 u4 u5 co v0 v1 v2 v3 v4 v5).1) (cE dC dI (va_A [(h0, .inr (8, [.ref d0, .ref d1, .ref d2, .ref d3, .ref d4, .ref d5, .ref d6, .int lf])), (d4, .inr (4, [.ref z0, .ref z1, .ref z2, .ref z3, .ref z4, .ref z5, .int cz])), (z0, .inl (cI, 300, .inl u0)), (z1, .inl (cI, 300, .inl u1)), (z2, .inl (cI, 300, .inl u2)), (z3, .inl (cI, 300, .inl u3)), (z4, .inl (cI, 300, .inl u4)), (z5, .inl (cI, 300, .inl u5)), (d5, .inr (4, [.ref o0, .ref o1, .ref o2, .ref o3, .ref o4, .ref o5, .int co])), (o0, .inl (cI, 300, .inl v0)), (o1, .inl (cI, 300, .inl v1)), (o2, .inl (cI, 300, .inl v2)), (o3, .inl (cI, 300, .inl v3)), (o4, .inl (cI, 300, .inl v4)), (o5, .inl (cI, 300, .inl v5))] sz) [(h0, .inr (8, [.ref d0, .ref d1, .ref d2, .ref d3, .ref d4, .ref d5, .ref d6, .int lf])), (d4, .inr (4, [.ref z0, .ref z1, .ref z2, .ref z3, .ref z4, .ref z5, .int cz])), (z0, .inl (cI, 300, .inl u0)), (z1, .inl (cI, 300, .inl u1)), (z2, .inl (cI, 300, .inl (fX8_compose lf cz u0 u1 u2 u3 u4 u5 co v0 v1 v2 v3 v4 v5).2.1)), (z3, .inl (cI, 300, .inl (fX8_compose lf cz u0 u1 u2 u3 u4 u5 co v0 v1 v2 v3 v4 v5).2.2.1)), (z4, .inl (cI, 300, .inl (fX8_compose lf cz u0 u1 u2 u3 u4 u5 co v0 v1 v2 v3 v4 v5).2.2.2.1)), (z5, .inl (cI, 300, .inl (fX8_compose lf cz u0 u1 u2 u3 u4 u5 co v0 v1 v2 v3 v4 v5).2.2.2.2)), (d5, .inr (4, [.ref o0, .ref o1, .ref o2, .ref o3, .ref o4, .ref o5, .int co])), (o0, .inl (cI, 300, .inl v0)), (o1, .inl (cI, 300, .inl v1)), (o2, .inl (cI, 300, .inl v2)), (o3, .inl (cI, 300, .inl v3)), (o4, .inl (cI, 300, .inl v4)), (o5, .inl (cI, 300, .inl v5))]) (va_A [(h0, .inr (8, [.ref d0, .ref d1, .ref d2, .ref d3, .ref d4, .ref d5, .ref d6, .int lf])), (d4, .inr (4, [.ref z0, .ref z1, .ref z2, .ref z3, .ref z4, .ref z5, .int cz])), (z0, .inl (cI, 300, .inl u0)), (z1, .inl (cI, 300, .inl u1)), (z2, .inl (cI, 300, .inl u2)), (z3, .inl (cI, 300, .inl u3)), (z4, .inl (cI, 300, .inl u4)), (z5, .inl (cI, 300, .inl u5)), (d5, .inr (4, [.ref o0, .ref o1, .ref o2, .ref o3, .ref o4, .ref o5, .int co])), (o0, .inl (cI, 300, .inl v0)), (o1, .inl (cI, 300, .inl v1)), (o2, .inl (cI, 300, .inl v2)), (o3, .inl (cI, 300, .inl v3)), (o4, .inl (cI, 300, .inl v4)), (o5, .inl (cI, 300, .inl v5))] sz)) 0 0 (va_A [(h0, .inr (8, [.ref d0, .ref d1, .ref d2, .ref d3, .ref d4, .ref d5, .ref d6, .int lf])), (d4, .inr (4, [.ref z0, .ref z1, .ref z2, .ref z3, .ref z4, .ref z5, .int cz])), (z0, .inl (cI, 300, .inl u0)), (z1, .inl (cI, 300, .inl u1)), (z2, .inl (cI, 300, .inl u2)), (z3, .inl (cI, 300, .inl u3)), (z4, .inl (cI, 300, .inl u4)), (z5, .inl (cI, 300, .inl u5)), (d5, .inr (4, [.ref o0, .ref o1, .ref o2, .ref o3, .ref o4, .ref o5, .int co])), (o0, .inl (cI, 300, .inl v0)), (o1, .inl (cI, 300, .inl v1)), (o2, .inl (cI, 300, .inl v2)), (o3, .inl (cI, 300, .inl v3)), (o4, .inl (cI, 300, .inl v4)), (o5, .inl (cI, 300, .inl v5))] sz) := by
  refine Met.ofW (cc := cX8_compose) (maxL := 4) (ret := (some .int)) (by decide) rfl ?_
  intro p e s m args below meth c s₁ B hml hv
  obtain ⟨rfl, hsz, hP, hG, hD0⟩ := hv
  have hx := B.exec
  have hb := B.bytes
  have hr := B.returns
  have hts := atoms_spec (ws := wsX8_compose) B.pre
  have hown : s.vm.findClass RX8 = some m.cls := findClass_of_methodNamed B.named
  have hlocks := B.notSynchronized
  subst hsz
  have hD := hD0.self (sz := s.heap.size)
  generalize hAe : va_A [(h0, .inr (8, [.ref d0, .ref d1, .ref d2, .ref d3, .ref d4, .ref d5, .ref d6, .int lf])), (d4, .inr (4, [.ref z0, .ref z1, .ref z2, .ref z3, .ref z4, .ref z5, .int cz])), (z0, .inl (cI, 300, .inl u0)), (z1, .inl (cI, 300, .inl u1)), (z2, .inl (cI, 300, .inl u2)), (z3, .inl (cI, 300, .inl u3)), (z4, .inl (cI, 300, .inl u4)), (z5, .inl (cI, 300, .inl u5)), (d5, .inr (4, [.ref o0, .ref o1, .ref o2, .ref o3, .ref o4, .ref o5, .int co])), (o0, .inl (cI, 300, .inl v0)), (o1, .inl (cI, 300, .inl v1)), (o2, .inl (cI, 300, .inl v2)), (o3, .inl (cI, 300, .inl v3)), (o4, .inl (cI, 300, .inl v4)), (o5, .inl (cI, 300, .inl v5))] s.heap.size = A at hD ⊢
  have hA : ∀ q : Nat, s.heap.size ≤ q → A q := fun q h => by rw [← hAe]; exact Or.inr h
  obtain ⟨H, hH⟩ : ∃ H : Heap, H = s.heap := ⟨_, rfl⟩
  have hS : va_S A s.heap H [] := by rw [hH]; exact va_S.rf
  rw [← hH] at hP ⊢
  generalize hR : fX8_compose lf cz u0 u1 u2 u3 u4 u5 co v0 v1 v2 v3 v4 v5 = R
  unfold fX8_compose at hR
  have hl := lv_entry ([.ref h0]) (n := 4) (Nat.le_of_ble_eq_true rfl)
  rw [lg_entry_eq]
  generalize (lg_sl ([.ref h0]) ++ List.replicate (4 - (lg_sl ([.ref h0])).length) Slot.unset).toArray = ls at hl ⊢
  have hl : lv_has ls 4 [(0, .ref h0)] := hl
  have loop_4 : ∀ (n : Nat), ∀ (te : Int32) (k : Int32) (uz2 : Nat → Int32) (uz3 : Nat → Int32) (uz4 : Nat → Int32) (uz5 : Nat → Int32) (H : Heap) (locs : List Loc) (ls : Array Slot), fX8_compose_4 lf cz u0 u1 u2 u3 u4 u5 co v0 v1 v2 v3 v4 v5 n te k uz2 uz3 uz4 uz5 = R → (0 ≤ k.toInt) → (k.toInt ≤ cz.toInt) → (cz.toInt - k.toInt < ((n : Nat) : Int)) → va_P (dC, dI) vwCl [(h0, .inr (8, [.ref d0, .ref d1, .ref d2, .ref d3, .ref d4, .ref d5, .ref d6, .int lf])), (d4, .inr (4, [.ref z0, .ref z1, .ref z2, .ref z3, .ref z4, .ref z5, .int cz])), (z0, .inl (cI, 300, .inl u0)), (z1, .inl (cI, 300, .inl u1)), (z2, .inl (cI, 300, .inl uz2)), (z3, .inl (cI, 300, .inl uz3)), (z4, .inl (cI, 300, .inl uz4)), (z5, .inl (cI, 300, .inl uz5)), (d5, .inr (4, [.ref o0, .ref o1, .ref o2, .ref o3, .ref o4, .ref o5, .int co])), (o0, .inl (cI, 300, .inl v0)), (o1, .inl (cI, 300, .inl v1)), (o2, .inl (cI, 300, .inl v2)), (o3, .inl (cI, 300, .inl v3)), (o4, .inl (cI, 300, .inl v4)), (o5, .inl (cI, 300, .inl v5))] H → va_D A [(h0, .inr (8, [.ref d0, .ref d1, .ref d2, .ref d3, .ref d4, .ref d5, .ref d6, .int lf])), (d4, .inr (4, [.ref z0, .ref z1, .ref z2, .ref z3, .ref z4, .ref z5, .int cz])), (z0, .inl (cI, 300, .inl u0)), (z1, .inl (cI, 300, .inl u1)), (z2, .inl (cI, 300, .inl uz2)), (z3, .inl (cI, 300, .inl uz3)), (z4, .inl (cI, 300, .inl uz4)), (z5, .inl (cI, 300, .inl uz5)), (d5, .inr (4, [.ref o0, .ref o1, .ref o2, .ref o3, .ref o4, .ref o5, .int co])), (o0, .inl (cI, 300, .inl v0)), (o1, .inl (cI, 300, .inl v1)), (o2, .inl (cI, 300, .inl v2)), (o3, .inl (cI, 300, .inl v3)), (o4, .inl (cI, 300, .inl v4)), (o5, .inl (cI, 300, .inl v5))] → va_S A s.heap H locs → lv_has ls 4 [(0, .ref h0), (1, .int te), (2, .int k)] → W p l e (headSpec wsX8_compose ({ frames := 2, cells := 0, slots := 0, locals := 44 } : Room)).room s m ([.ref h0] : List Value).toArray below meth c H locs 0 0 (MQ below (va_Qi (fun r _ => r = R.1) (cE dC dI (A) [(h0, .inr (8, [.ref d0, .ref d1, .ref d2, .ref d3, .ref d4, .ref d5, .ref d6, .int lf])), (d4, .inr (4, [.ref z0, .ref z1, .ref z2, .ref z3, .ref z4, .ref z5, .int cz])), (z0, .inl (cI, 300, .inl u0)), (z1, .inl (cI, 300, .inl u1)), (z2, .inl (cI, 300, .inl R.2.1)), (z3, .inl (cI, 300, .inl R.2.2.1)), (z4, .inl (cI, 300, .inl R.2.2.2.1)), (z5, .inl (cI, 300, .inl R.2.2.2.2)), (d5, .inr (4, [.ref o0, .ref o1, .ref o2, .ref o3, .ref o4, .ref o5, .int co])), (o0, .inl (cI, 300, .inl v0)), (o1, .inl (cI, 300, .inl v1)), (o2, .inl (cI, 300, .inl v2)), (o3, .inl (cI, 300, .inl v3)), (o4, .inl (cI, 300, .inl v4)), (o5, .inl (cI, 300, .inl v5))]) (A)) ([.ref h0] : List Value).toArray s 0 0 A) (F0 m 4 ls []) := by
    intro n
    induction n with
    | zero => intro te k uz2 uz3 uz4 uz5 H locs ls hR hk0 hk1 hmu; exfalso; omega
    | succ n ih =>
      intro te k uz2 uz3 uz4 uz5 H locs ls hR hk0 hk1 hmu hP hD hS hl
      rw [fX8_compose_4] at hR
      refine lv_iload_n hx hb dX8_compose_4 rfl (lv_at hl 2 rfl) ?_
      refine lv_aload_n hx hb dX8_compose_5 rfl (lv_at hl 0 rfl) ?_
      refine va_get (D := (dC, dI)) (ci := 8) (v := .ref d4) (C := RX8) (T := TX8) (N := 8) hx hb hts inc_X8_compose_8 hown hG.1 hP 0 rfl rfl 4 (by decide) (hts (.fieldLink RX8 40 "MappingDesk" "zero" "LMappingDesk$Table;") (by decide +kernel)) (fun _ h9 => h9) rfl dX8_compose_6 ?_
      refine va_getN (D := (dC, dI)) (ci := 4) (v := .int cz) (C := RX4) (T := TX4) (N := 7) hx hb hts inc_X8_compose_4 hown hG.1 hP 1 rfl rfl 6 (by decide) (hG.nf (a := RX8) (i := 87) (b := "MappingDesk$Table") (n := "count") (d := "I") (t := "MappingDesk") (by decide +kernel)) (fun _ h9 => h9) rfl dX8_compose_9 ?_
      refine lv_icmp_ge (tgt := 89) hx hb dX8_compose_12 (by decide) (fun c_1 => ?_) (fun c_1 => ?_)
      · rw [if_pos c_1] at hR
        refine lv_iload_n hx hb dX8_compose_89 rfl (lv_at hl 1 rfl) ?_
        subst hR
        exact W.iret (v := te) hx hb hr (fun t ht hW => ⟨⟨te, (), rfl, rfl, by rw [ht]; exact hP, hD⟩, hS.F ht⟩) hS.2.2 dX8_compose_90
      · rw [if_neg c_1] at hR
        refine lv_aload_n hx hb dX8_compose_15 rfl (lv_at hl 0 rfl) ?_
        refine va_get (D := (dC, dI)) (ci := 8) (v := .ref d4) (C := RX8) (T := TX8) (N := 8) hx hb hts inc_X8_compose_8 hown hG.1 hP 0 rfl rfl 4 (by decide) (hts (.fieldLink RX8 40 "MappingDesk" "zero" "LMappingDesk$Table;") (by decide +kernel)) (fun _ h9 => h9) rfl dX8_compose_16 ?_
        refine lv_iload_n hx hb dX8_compose_19 rfl (lv_at hl 2 rfl) ?_
        have p_2 : 0 ≤ k.toInt := by
          first | exact hk0 | assumption
        have p_3 : k.toInt < 300 := by
          have q_4 := i_nle c_1
          try generalize Int32.toInt co = z0 at *
          try generalize Int32.toInt cz = z1 at *
          try generalize Int32.toInt k = z2 at *
          first | omega | exact ⟨by omega, by omega⟩
        have hPc := hP.sub (ws' := [(d4, .inr (4, [.ref z0, .ref z1, .ref z2, .ref z3, .ref z4, .ref z5, .int cz])), (z2, .inl (cI, 300, .inl uz2))]) [1, 4] rfl
        have hDc := hD.sub (ws' := [(d4, .inr (4, [.ref z0, .ref z1, .ref z2, .ref z3, .ref z4, .ref z5, .int cz])), (z2, .inl (cI, 300, .inl uz2))]) [1, 4] (by decide) rfl
        refine vp_callSi (va_Run.run (va_runVN (C := RX4) (As := [.int k]) (rest := []) ⟨hx, hb, hml, hown, hts⟩ (c_X4_tells l dC dI cB cC cI cJ H.size d4 z0 z1 z2 z3 z4 z5 cz uz2 k p_2 p_3) ⟨va_cnB 1 hts gX8_compose_X4_tells_n146 rfl rfl rfl (hG.nm (A := #[]) (w := .methodLinkNest RX8 146 yX4_tells "MappingDesk") (by decide +kernel)) (hts (.initialized RX4) (by decide +kernel)) (by decide +kernel) ⟨(Nat.le_of_ble_eq_true rfl), (Nat.le_of_ble_eq_true rfl)⟩, hts (.instanceMethod yX4_tells) (by decide +kernel), hts (.selects RX4 yX4_tells yX4_tells) (by decide +kernel)⟩ ⟨cP_blind, va_recv hG.1 hPc (ci := 4) (q0 := 0) rfl rfl, cP_pre hPc hG hDc⟩ rfl rfl hl.1 rfl (lv_room (Nat.le_of_ble_eq_true rfl)) dX8_compose_20 ⟨Nat.le_of_ble_eq_true rfl, Nat.le_of_ble_eq_true rfl⟩)) (fun r_5 hr_5 => ?_)
        rw [bnd_eq hr_5.symm] at hR
        refine lv_if_eq (tgt := 83) hx hb dX8_compose_23 (by decide) (fun c_6 => ?_) (fun c_6 => ?_)
        · rw [if_pos c_6] at hR
          refine lv_iinc (v := (k + 1)) (lv' := [(2, .int (k + 1)), (0, .ref h0), (1, .int te)]) hx hb dX8_compose_83 hl (k := 2) rfl rfl (by decide) rfl (fun ls hl => ?_)
          refine lv_goto (tgt := 4) hx hb dX8_compose_86 (by decide) ?_
          have v_10 : 0 ≤ ((k + 1)).toInt := by
            have q_11 := i_nle c_1
            have k_12 : (0 : Int32).toInt = 0 := by decide
            have q_13 := i_eq c_6
            have k_14 : (1 : Int32).toInt = 1 := by decide
            have t_15 := ti_add (a := k) (b := 1) (by omega) (by omega)
            try generalize Int32.toInt (k + 1) = z0 at *
            try generalize Int32.toInt r_5 = z1 at *
            try generalize Int32.toInt co = z2 at *
            try generalize Int32.toInt cz = z3 at *
            try generalize Int32.toInt (0 : Int32) = z4 at *
            try generalize Int32.toInt (1 : Int32) = z5 at *
            try generalize Int32.toInt k = z6 at *
            omega
          have v_16 : ((k + 1)).toInt ≤ cz.toInt := by
            have q_17 := i_nle c_1
            have k_18 : (0 : Int32).toInt = 0 := by decide
            have q_19 := i_eq c_6
            have k_20 : (1 : Int32).toInt = 1 := by decide
            have t_21 := ti_add (a := k) (b := 1) (by omega) (by omega)
            try generalize Int32.toInt (k + 1) = z0 at *
            try generalize Int32.toInt r_5 = z1 at *
            try generalize Int32.toInt co = z2 at *
            try generalize Int32.toInt cz = z3 at *
            try generalize Int32.toInt (0 : Int32) = z4 at *
            try generalize Int32.toInt (1 : Int32) = z5 at *
            try generalize Int32.toInt k = z6 at *
            omega
          have v_22 : cz.toInt - ((k + 1)).toInt < ((n : Nat) : Int) := by
            have q_23 := i_nle c_1
            have k_24 : (0 : Int32).toInt = 0 := by decide
            have q_25 := i_eq c_6
            have k_26 : (1 : Int32).toInt = 1 := by decide
            have t_27 := ti_add (a := k) (b := 1) (by omega) (by omega)
            try generalize Int32.toInt (k + 1) = z0 at *
            try generalize Int32.toInt r_5 = z1 at *
            try generalize Int32.toInt co = z2 at *
            try generalize Int32.toInt cz = z3 at *
            try generalize Int32.toInt (0 : Int32) = z4 at *
            try generalize Int32.toInt (1 : Int32) = z5 at *
            try generalize Int32.toInt k = z6 at *
            omega
          exact ih (te) ((k + 1)) (uz2) (uz3) (uz4) (uz5) _ _ ls hR v_10 v_16 v_22 hP hD hS (lv_sub hl [1, 2, 0] rfl)
        · rw [if_neg c_6] at hR
          refine lv_aload_n hx hb dX8_compose_26 rfl (lv_at hl 0 rfl) ?_
          refine va_get (D := (dC, dI)) (ci := 8) (v := .ref d5) (C := RX8) (T := TX8) (N := 8) hx hb hts inc_X8_compose_8 hown hG.1 hP 0 rfl rfl 5 (by decide) (hts (.fieldLink RX8 44 "MappingDesk" "one" "LMappingDesk$Table;") (by decide +kernel)) (fun _ h9 => h9) rfl dX8_compose_27 ?_
          refine lv_aload_n hx hb dX8_compose_30 rfl (lv_at hl 0 rfl) ?_
          refine va_get (D := (dC, dI)) (ci := 8) (v := .ref d4) (C := RX8) (T := TX8) (N := 8) hx hb hts inc_X8_compose_8 hown hG.1 hP 0 rfl rfl 4 (by decide) (hts (.fieldLink RX8 40 "MappingDesk" "zero" "LMappingDesk$Table;") (by decide +kernel)) (fun _ h9 => h9) rfl dX8_compose_31 ?_
          refine va_getN (D := (dC, dI)) (ci := 4) (v := .ref z3) (C := RX4) (T := TX4) (N := 7) hx hb hts inc_X8_compose_4 hown hG.1 hP 1 rfl rfl 3 (by decide) (hG.nf (a := RX8) (i := 137) (b := "MappingDesk$Table") (n := "sourceLines") (d := "[I") (t := "MappingDesk") (by decide +kernel)) (fun _ h9 => h9) rfl dX8_compose_34 ?_
          refine lv_iload_n hx hb dX8_compose_37 rfl (lv_at hl 2 rfl) ?_
          have b_28 : vp_in k 300 := by
            have q_29 := i_nle c_1
            have k_30 : (0 : Int32).toInt = 0 := by decide
            have q_31 := i_ne c_6
            refine vin ?_ ?_
            all_goals (try generalize Int32.toInt r_5 = z0 at *; try generalize Int32.toInt co = z1 at *; try generalize Int32.toInt cz = z2 at *; try generalize Int32.toInt (0 : Int32) = z3 at *; try generalize Int32.toInt k = z4 at *; omega)
          refine va_iald hx hb hG.1 hP 5 2 rfl rfl b_28 dX8_compose_38 ?_
          refine lv_aload_n hx hb dX8_compose_39 rfl (lv_at hl 0 rfl) ?_
          refine va_get (D := (dC, dI)) (ci := 8) (v := .ref d4) (C := RX8) (T := TX8) (N := 8) hx hb hts inc_X8_compose_8 hown hG.1 hP 0 rfl rfl 4 (by decide) (hts (.fieldLink RX8 40 "MappingDesk" "zero" "LMappingDesk$Table;") (by decide +kernel)) (fun _ h9 => h9) rfl dX8_compose_40 ?_
          refine va_getN (D := (dC, dI)) (ci := 4) (v := .ref z4) (C := RX4) (T := TX4) (N := 7) hx hb hts inc_X8_compose_4 hown hG.1 hP 1 rfl rfl 4 (by decide) (hG.nf (a := RX8) (i := 140) (b := "MappingDesk$Table") (n := "sourceColumns") (d := "[I") (t := "MappingDesk") (by decide +kernel)) (fun _ h9 => h9) rfl dX8_compose_43 ?_
          refine lv_iload_n hx hb dX8_compose_46 rfl (lv_at hl 2 rfl) ?_
          have b_34 : vp_in k 300 := by
            have q_35 := i_nle c_1
            have k_36 : (0 : Int32).toInt = 0 := by decide
            have q_37 := i_ne c_6
            refine vin ?_ ?_
            all_goals (try generalize Int32.toInt r_5 = z0 at *; try generalize Int32.toInt co = z1 at *; try generalize Int32.toInt cz = z2 at *; try generalize Int32.toInt (0 : Int32) = z3 at *; try generalize Int32.toInt k = z4 at *; omega)
          refine va_iald hx hb hG.1 hP 6 2 rfl rfl b_34 dX8_compose_47 ?_
          have p_40 : 0 ≤ co.toInt := by
            first | exact ho0 | assumption
          have p_41 : co.toInt ≤ 300 := by
            first | exact ho1 | assumption
          have hPc := hP.sub (ws' := [(d5, .inr (4, [.ref o0, .ref o1, .ref o2, .ref o3, .ref o4, .ref o5, .int co])), (o0, .inl (cI, 300, .inl v0)), (o1, .inl (cI, 300, .inl v1)), (o2, .inl (cI, 300, .inl v2))]) [8, 9, 10, 11] rfl
          have hDc := hD.sub (ws' := [(d5, .inr (4, [.ref o0, .ref o1, .ref o2, .ref o3, .ref o4, .ref o5, .int co])), (o0, .inl (cI, 300, .inl v0)), (o1, .inl (cI, 300, .inl v1)), (o2, .inl (cI, 300, .inl v2))]) [8, 9, 10, 11] (by decide) rfl
          refine vp_callSi (va_Run.run (va_runVN (C := RX4) (As := [.int (uz3 k.toNatClampNeg), .int (uz4 k.toNatClampNeg)]) (rest := []) ⟨hx, hb, hml, hown, hts⟩ (c_X4_findTelling l dC dI cB cC cI cJ H.size d5 o0 o1 o2 o3 o4 o5 co v0 v1 v2 (uz3 k.toNatClampNeg) (uz4 k.toNatClampNeg) p_40 p_41) ⟨va_cnB 2 hts gX8_compose_X4_findTelling_n129 rfl rfl rfl (hG.nm (A := #[]) (w := .methodLinkNest RX8 129 yX4_findTelling "MappingDesk") (by decide +kernel)) (hts (.initialized RX4) (by decide +kernel)) (by decide +kernel) ⟨(Nat.le_of_ble_eq_true rfl), (Nat.le_of_ble_eq_true rfl)⟩, hts (.instanceMethod yX4_findTelling) (by decide +kernel), hts (.selects RX4 yX4_findTelling yX4_findTelling) (by decide +kernel)⟩ ⟨cP_blind, va_recv hG.1 hPc (ci := 4) (q0 := 0) rfl rfl, cP_pre hPc hG hDc⟩ rfl rfl hl.1 rfl (lv_room (Nat.le_of_ble_eq_true rfl)) dX8_compose_48 ⟨Nat.le_of_ble_eq_true rfl, Nat.le_of_ble_eq_true rfl⟩)) (fun r_42 hr_42 => ?_)
          obtain ⟨hr_42, er_42_0⟩ := hr_42
          rw [← hr_42] at er_42_0
          rw [bnd_eq hr_42.symm] at hR
          refine lv_istore_n (lv' := [(3, .int r_42), (0, .ref h0), (1, .int te), (2, .int k)]) hx hb dX8_compose_51 rfl hl (by decide) rfl (fun ls hl => ?_)
          refine lv_iload_n hx hb dX8_compose_52 rfl (lv_at hl 0 rfl) ?_
          refine lv_if_ge (tgt := 67) hx hb dX8_compose_53 (by decide) (fun c_43 => ?_) (fun c_43 => ?_)
          · rw [if_pos c_43] at hR
            refine lv_aload_n hx hb dX8_compose_67 rfl (lv_at hl 1 rfl) ?_
            refine va_get (D := (dC, dI)) (ci := 8) (v := .ref d4) (C := RX8) (T := TX8) (N := 8) hx hb hts inc_X8_compose_8 hown hG.1 hP 0 rfl rfl 4 (by decide) (hts (.fieldLink RX8 40 "MappingDesk" "zero" "LMappingDesk$Table;") (by decide +kernel)) (fun _ h9 => h9) rfl dX8_compose_68 ?_
            refine lv_iload_n hx hb dX8_compose_71 rfl (lv_at hl 3 rfl) ?_
            refine lv_aload_n hx hb dX8_compose_72 rfl (lv_at hl 1 rfl) ?_
            refine va_get (D := (dC, dI)) (ci := 8) (v := .ref d5) (C := RX8) (T := TX8) (N := 8) hx hb hts inc_X8_compose_8 hown hG.1 hP 0 rfl rfl 5 (by decide) (hts (.fieldLink RX8 44 "MappingDesk" "one" "LMappingDesk$Table;") (by decide +kernel)) (fun _ h9 => h9) rfl dX8_compose_73 ?_
            refine lv_iload_n hx hb dX8_compose_76 rfl (lv_at hl 0 rfl) ?_
            have p_44 : 0 ≤ k.toInt := by
              first | exact hk0 | assumption
            have p_45 : k.toInt < 300 := by
              have q_46 := i_nle c_1
              have k_47 : (0 : Int32).toInt = 0 := by decide
              have q_48 := i_ne c_6
              have q_49 := i_le c_43
              try generalize Int32.toInt r_42 = z0 at *
              try generalize Int32.toInt r_5 = z1 at *
              try generalize Int32.toInt co = z2 at *
              try generalize Int32.toInt cz = z3 at *
              try generalize Int32.toInt (0 : Int32) = z4 at *
              try generalize Int32.toInt k = z5 at *
              first | omega | exact ⟨by omega, by omega⟩
            have p_50 : 0 ≤ r_42.toInt := by
              have q_51 := i_nle c_1
              have k_52 : (0 : Int32).toInt = 0 := by decide
              have q_53 := i_ne c_6
              have q_54 := i_le c_43
              try generalize Int32.toInt r_42 = z0 at *
              try generalize Int32.toInt r_5 = z1 at *
              try generalize Int32.toInt co = z2 at *
              try generalize Int32.toInt cz = z3 at *
              try generalize Int32.toInt (0 : Int32) = z4 at *
              try generalize Int32.toInt k = z5 at *
              first | omega | exact ⟨by omega, by omega⟩
            have p_55 : r_42.toInt < 300 := by
              have q_56 := i_nle c_1
              have k_57 : (0 : Int32).toInt = 0 := by decide
              have q_58 := i_ne c_6
              have q_59 := i_le c_43
              try generalize Int32.toInt r_42 = z0 at *
              try generalize Int32.toInt r_5 = z1 at *
              try generalize Int32.toInt co = z2 at *
              try generalize Int32.toInt cz = z3 at *
              try generalize Int32.toInt (0 : Int32) = z4 at *
              try generalize Int32.toInt k = z5 at *
              first | omega | exact ⟨by omega, by omega⟩
            have hPc := hP.sub (ws' := [(d4, .inr (4, [.ref z0, .ref z1, .ref z2, .ref z3, .ref z4, .ref z5, .int cz])), (z0, .inl (cI, 300, .inl u0)), (z1, .inl (cI, 300, .inl u1)), (z2, .inl (cI, 300, .inl uz2)), (z3, .inl (cI, 300, .inl uz3)), (z4, .inl (cI, 300, .inl uz4)), (z5, .inl (cI, 300, .inl uz5)), (d5, .inr (4, [.ref o0, .ref o1, .ref o2, .ref o3, .ref o4, .ref o5, .int co])), (o0, .inl (cI, 300, .inl v0)), (o1, .inl (cI, 300, .inl v1)), (o2, .inl (cI, 300, .inl v2)), (o3, .inl (cI, 300, .inl v3)), (o4, .inl (cI, 300, .inl v4)), (o5, .inl (cI, 300, .inl v5))]) [1, 2, 3, 4, 5, 6, 7, 8, 9, 10, 11, 12, 13, 14] rfl
            have hDc := hD.sub (ws' := [(d4, .inr (4, [.ref z0, .ref z1, .ref z2, .ref z3, .ref z4, .ref z5, .int cz])), (z0, .inl (cI, 300, .inl u0)), (z1, .inl (cI, 300, .inl u1)), (z2, .inl (cI, 300, .inl uz2)), (z3, .inl (cI, 300, .inl uz3)), (z4, .inl (cI, 300, .inl uz4)), (z5, .inl (cI, 300, .inl uz5)), (d5, .inr (4, [.ref o0, .ref o1, .ref o2, .ref o3, .ref o4, .ref o5, .int co])), (o0, .inl (cI, 300, .inl v0)), (o1, .inl (cI, 300, .inl v1)), (o2, .inl (cI, 300, .inl v2)), (o3, .inl (cI, 300, .inl v3)), (o4, .inl (cI, 300, .inl v4)), (o5, .inl (cI, 300, .inl v5))]) [1, 2, 3, 4, 5, 6, 7, 8, 9, 10, 11, 12, 13, 14] (by decide) rfl
            have hFc := va_free (wc := [(d4, .inr (4, [.ref z0, .ref z1, .ref z2, .ref z3, .ref z4, .ref z5, .int cz])), (z0, .inl (cI, 300, .inl u0)), (z1, .inl (cI, 300, .inl u1)), (z2, .inl (cI, 300, .inl uz2)), (z3, .inl (cI, 300, .inl uz3)), (z4, .inl (cI, 300, .inl uz4)), (z5, .inl (cI, 300, .inl uz5)), (d5, .inr (4, [.ref o0, .ref o1, .ref o2, .ref o3, .ref o4, .ref o5, .int co])), (o0, .inl (cI, 300, .inl v0)), (o1, .inl (cI, 300, .inl v1)), (o2, .inl (cI, 300, .inl v2)), (o3, .inl (cI, 300, .inl v3)), (o4, .inl (cI, 300, .inl v4)), (o5, .inl (cI, 300, .inl v5))]) hD hS hA [1, 2, 3, 4, 5, 6, 7, 8, 9, 10, 11, 12, 13, 14] rfl
            refine va_callv (va_runVN (C := RX4) (As := [.int k, .ref d5, .int r_42]) (rest := []) ⟨hx, hb, hml, hown, hts⟩ (c_X4_tellAs l dC dI cB cC cI cJ H.size d4 d5 z0 z1 z2 z3 z4 z5 o0 o1 o2 o3 o4 o5 cz co u0 u1 uz2 uz3 uz4 uz5 v0 v1 v2 v3 v4 v5 k r_42 p_44 p_45 p_50 p_55) ⟨va_cnB 3 hts gX8_compose_X4_tellAs_n153 rfl rfl rfl (hG.nm (A := #[]) (w := .methodLinkNest RX8 153 yX4_tellAs "MappingDesk") (by decide +kernel)) (hts (.initialized RX4) (by decide +kernel)) (by decide +kernel) ⟨(Nat.le_of_ble_eq_true rfl), (Nat.le_of_ble_eq_true rfl)⟩, hts (.instanceMethod yX4_tellAs) (by decide +kernel), hts (.selects RX4 yX4_tellAs yX4_tellAs) (by decide +kernel)⟩ ⟨cP_blind, va_recv hG.1 hPc (ci := 4) (q0 := 0) rfl rfl, cP_pre hPc hG hDc⟩ rfl rfl hl.1 rfl (lv_room (Nat.le_of_ble_eq_true rfl)) dX8_compose_77 ⟨Nat.le_of_ble_eq_true rfl, Nat.le_of_ble_eq_true rfl⟩) hS (fun q _ h => hFc q h) hFc (fun u t H1 locs ht hvm hw hB hz1 hk1 hS => ?_)
            obtain ⟨hP1, hD1⟩ := hB
            rw [ht] at hP1
            generalize hr_60 : fX4_tellAs cz co u0 u1 uz2 uz3 uz4 uz5 v0 v1 v2 v3 v4 v5 k r_42 = r_60 at hP1 hD1
            rw [bnd_eq hr_60] at hR
            obtain ⟨hP, hD⟩ := va_join (wr := [(h0, .inr (8, [.ref d0, .ref d1, .ref d2, .ref d3, .ref d4, .ref d5, .ref d6, .int lf]))]) (w1 := [(d4, .inr (4, [.ref z0, .ref z1, .ref z2, .ref z3, .ref z4, .ref z5, .int cz])), (z0, .inl (cI, 300, .inl u0)), (z1, .inl (cI, 300, .inl u1)), (z2, .inl (cI, 300, .inl r_60.1)), (z3, .inl (cI, 300, .inl r_60.2.1)), (z4, .inl (cI, 300, .inl r_60.2.2.1)), (z5, .inl (cI, 300, .inl r_60.2.2.2)), (d5, .inr (4, [.ref o0, .ref o1, .ref o2, .ref o3, .ref o4, .ref o5, .int co])), (o0, .inl (cI, 300, .inl v0)), (o1, .inl (cI, 300, .inl v1)), (o2, .inl (cI, 300, .inl v2)), (o3, .inl (cI, 300, .inl v3)), (o4, .inl (cI, 300, .inl v4)), (o5, .inl (cI, 300, .inl v5))]) hP hD [1, 2, 3, 4, 5, 6, 7, 8, 9, 10, 11, 12, 13, 14] [0] rfl rfl (by decide) (by decide) hk1 hFc hP1 hD1
            generalize H1 = H at hP hS ⊢
            have hP := hP.sub (ws' := [(h0, .inr (8, [.ref d0, .ref d1, .ref d2, .ref d3, .ref d4, .ref d5, .ref d6, .int lf])), (d4, .inr (4, [.ref z0, .ref z1, .ref z2, .ref z3, .ref z4, .ref z5, .int cz])), (z0, .inl (cI, 300, .inl u0)), (z1, .inl (cI, 300, .inl u1)), (z2, .inl (cI, 300, .inl r_60.1)), (z3, .inl (cI, 300, .inl r_60.2.1)), (z4, .inl (cI, 300, .inl r_60.2.2.1)), (z5, .inl (cI, 300, .inl r_60.2.2.2)), (d5, .inr (4, [.ref o0, .ref o1, .ref o2, .ref o3, .ref o4, .ref o5, .int co])), (o0, .inl (cI, 300, .inl v0)), (o1, .inl (cI, 300, .inl v1)), (o2, .inl (cI, 300, .inl v2)), (o3, .inl (cI, 300, .inl v3)), (o4, .inl (cI, 300, .inl v4)), (o5, .inl (cI, 300, .inl v5))]) [0, 1, 2, 3, 4, 5, 6, 7, 8, 9, 10, 11, 12, 13, 14] rfl
            have hD := hD.sub (ws' := [(h0, .inr (8, [.ref d0, .ref d1, .ref d2, .ref d3, .ref d4, .ref d5, .ref d6, .int lf])), (d4, .inr (4, [.ref z0, .ref z1, .ref z2, .ref z3, .ref z4, .ref z5, .int cz])), (z0, .inl (cI, 300, .inl u0)), (z1, .inl (cI, 300, .inl u1)), (z2, .inl (cI, 300, .inl r_60.1)), (z3, .inl (cI, 300, .inl r_60.2.1)), (z4, .inl (cI, 300, .inl r_60.2.2.1)), (z5, .inl (cI, 300, .inl r_60.2.2.2)), (d5, .inr (4, [.ref o0, .ref o1, .ref o2, .ref o3, .ref o4, .ref o5, .int co])), (o0, .inl (cI, 300, .inl v0)), (o1, .inl (cI, 300, .inl v1)), (o2, .inl (cI, 300, .inl v2)), (o3, .inl (cI, 300, .inl v3)), (o4, .inl (cI, 300, .inl v4)), (o5, .inl (cI, 300, .inl v5))]) [0, 1, 2, 3, 4, 5, 6, 7, 8, 9, 10, 11, 12, 13, 14] (by decide) rfl
            refine lv_iinc (v := (te + 1)) (lv' := [(1, .int (te + 1)), (3, .int r_42), (0, .ref h0), (2, .int k)]) hx hb dX8_compose_80 hl (k := 2) rfl rfl (by decide) rfl (fun ls hl => ?_)
            refine lv_iinc (v := (k + 1)) (lv' := [(2, .int (k + 1)), (1, .int (te + 1)), (3, .int r_42), (0, .ref h0)]) hx hb dX8_compose_83 hl (k := 3) rfl rfl (by decide) rfl (fun ls hl => ?_)
            refine lv_goto (tgt := 4) hx hb dX8_compose_86 (by decide) ?_
            have v_65 : 0 ≤ ((k + 1)).toInt := by
              have q_66 := i_nle c_1
              have k_67 : (0 : Int32).toInt = 0 := by decide
              have q_68 := i_ne c_6
              have q_69 := i_le c_43
              have k_70 : (1 : Int32).toInt = 1 := by decide
              have t_71 := ti_add (a := k) (b := 1) (by omega) (by omega)
              try generalize Int32.toInt (k + 1) = z0 at *
              try generalize Int32.toInt r_42 = z1 at *
              try generalize Int32.toInt r_5 = z2 at *
              try generalize Int32.toInt co = z3 at *
              try generalize Int32.toInt cz = z4 at *
              try generalize Int32.toInt (0 : Int32) = z5 at *
              try generalize Int32.toInt (1 : Int32) = z6 at *
              try generalize Int32.toInt k = z7 at *
              omega
            have v_72 : ((k + 1)).toInt ≤ cz.toInt := by
              have q_73 := i_nle c_1
              have k_74 : (0 : Int32).toInt = 0 := by decide
              have q_75 := i_ne c_6
              have q_76 := i_le c_43
              have k_77 : (1 : Int32).toInt = 1 := by decide
              have t_78 := ti_add (a := k) (b := 1) (by omega) (by omega)
              try generalize Int32.toInt (k + 1) = z0 at *
              try generalize Int32.toInt r_42 = z1 at *
              try generalize Int32.toInt r_5 = z2 at *
              try generalize Int32.toInt co = z3 at *
              try generalize Int32.toInt cz = z4 at *
              try generalize Int32.toInt (0 : Int32) = z5 at *
              try generalize Int32.toInt (1 : Int32) = z6 at *
              try generalize Int32.toInt k = z7 at *
              omega
            have v_79 : cz.toInt - ((k + 1)).toInt < ((n : Nat) : Int) := by
              have q_80 := i_nle c_1
              have k_81 : (0 : Int32).toInt = 0 := by decide
              have q_82 := i_ne c_6
              have q_83 := i_le c_43
              have k_84 : (1 : Int32).toInt = 1 := by decide
              have t_85 := ti_add (a := k) (b := 1) (by omega) (by omega)
              try generalize Int32.toInt (k + 1) = z0 at *
              try generalize Int32.toInt r_42 = z1 at *
              try generalize Int32.toInt r_5 = z2 at *
              try generalize Int32.toInt co = z3 at *
              try generalize Int32.toInt cz = z4 at *
              try generalize Int32.toInt (0 : Int32) = z5 at *
              try generalize Int32.toInt (1 : Int32) = z6 at *
              try generalize Int32.toInt k = z7 at *
              omega
            exact ih ((te + 1)) ((k + 1)) (r_60.1) (r_60.2.1) (r_60.2.2.1) (r_60.2.2.2) _ _ ls hR v_65 v_72 v_79 hP hD hS (lv_sub hl [3, 1, 0] rfl)
          · rw [if_neg c_43] at hR
            refine lv_aload_n hx hb dX8_compose_56 rfl (lv_at hl 1 rfl) ?_
            refine va_get (D := (dC, dI)) (ci := 8) (v := .ref d4) (C := RX8) (T := TX8) (N := 8) hx hb hts inc_X8_compose_8 hown hG.1 hP 0 rfl rfl 4 (by decide) (hts (.fieldLink RX8 40 "MappingDesk" "zero" "LMappingDesk$Table;") (by decide +kernel)) (fun _ h9 => h9) rfl dX8_compose_57 ?_
            refine lv_iload_n hx hb dX8_compose_60 rfl (lv_at hl 3 rfl) ?_
            have p_86 : 0 ≤ k.toInt := by
              first | exact hk0 | assumption
            have p_87 : k.toInt < 300 := by
              have q_88 := i_nle c_1
              have k_89 : (0 : Int32).toInt = 0 := by decide
              have q_90 := i_ne c_6
              have q_91 := i_nle c_43
              try generalize Int32.toInt r_42 = z0 at *
              try generalize Int32.toInt r_5 = z1 at *
              try generalize Int32.toInt co = z2 at *
              try generalize Int32.toInt cz = z3 at *
              try generalize Int32.toInt (0 : Int32) = z4 at *
              try generalize Int32.toInt k = z5 at *
              first | omega | exact ⟨by omega, by omega⟩
            have hPc := hP.sub (ws' := [(d4, .inr (4, [.ref z0, .ref z1, .ref z2, .ref z3, .ref z4, .ref z5, .int cz])), (z0, .inl (cI, 300, .inl u0)), (z1, .inl (cI, 300, .inl u1)), (z2, .inl (cI, 300, .inl uz2)), (z3, .inl (cI, 300, .inl uz3)), (z4, .inl (cI, 300, .inl uz4)), (z5, .inl (cI, 300, .inl uz5))]) [1, 2, 3, 4, 5, 6, 7] rfl
            have hDc := hD.sub (ws' := [(d4, .inr (4, [.ref z0, .ref z1, .ref z2, .ref z3, .ref z4, .ref z5, .int cz])), (z0, .inl (cI, 300, .inl u0)), (z1, .inl (cI, 300, .inl u1)), (z2, .inl (cI, 300, .inl uz2)), (z3, .inl (cI, 300, .inl uz3)), (z4, .inl (cI, 300, .inl uz4)), (z5, .inl (cI, 300, .inl uz5))]) [1, 2, 3, 4, 5, 6, 7] (by decide) rfl
            have hFc := va_free (wc := [(d4, .inr (4, [.ref z0, .ref z1, .ref z2, .ref z3, .ref z4, .ref z5, .int cz])), (z0, .inl (cI, 300, .inl u0)), (z1, .inl (cI, 300, .inl u1)), (z2, .inl (cI, 300, .inl uz2)), (z3, .inl (cI, 300, .inl uz3)), (z4, .inl (cI, 300, .inl uz4)), (z5, .inl (cI, 300, .inl uz5))]) hD hS hA [1, 2, 3, 4, 5, 6, 7] rfl
            refine va_callv (va_runVN (C := RX4) (As := [.int k]) (rest := []) ⟨hx, hb, hml, hown, hts⟩ (c_X4_tellNothing l dC dI cB cC cI cJ H.size d4 z0 z1 z2 z3 z4 z5 cz u0 u1 uz2 uz3 uz4 uz5 k p_86 p_87) ⟨va_cnB 1 hts gX8_compose_X4_tellNothing_n150 rfl rfl rfl (hG.nm (A := #[]) (w := .methodLinkNest RX8 150 yX4_tellNothing "MappingDesk") (by decide +kernel)) (hts (.initialized RX4) (by decide +kernel)) (by decide +kernel) ⟨(Nat.le_of_ble_eq_true rfl), (Nat.le_of_ble_eq_true rfl)⟩, hts (.instanceMethod yX4_tellNothing) (by decide +kernel), hts (.selects RX4 yX4_tellNothing yX4_tellNothing) (by decide +kernel)⟩ ⟨cP_blind, va_recv hG.1 hPc (ci := 4) (q0 := 0) rfl rfl, cP_pre hPc hG hDc⟩ rfl rfl hl.1 rfl (lv_room (Nat.le_of_ble_eq_true rfl)) dX8_compose_61 ⟨Nat.le_of_ble_eq_true rfl, Nat.le_of_ble_eq_true rfl⟩) hS (fun q _ h => hFc q h) hFc (fun u t H1 locs ht hvm hw hB hz1 hk1 hS => ?_)
            obtain ⟨hP1, hD1⟩ := hB
            rw [ht] at hP1
            generalize hr_92 : fX4_tellNothing cz u0 u1 uz2 uz3 uz4 uz5 k = r_92 at hP1 hD1
            rw [bnd_eq hr_92] at hR
            obtain ⟨hP, hD⟩ := va_join (wr := [(h0, .inr (8, [.ref d0, .ref d1, .ref d2, .ref d3, .ref d4, .ref d5, .ref d6, .int lf])), (d5, .inr (4, [.ref o0, .ref o1, .ref o2, .ref o3, .ref o4, .ref o5, .int co])), (o0, .inl (cI, 300, .inl v0)), (o1, .inl (cI, 300, .inl v1)), (o2, .inl (cI, 300, .inl v2)), (o3, .inl (cI, 300, .inl v3)), (o4, .inl (cI, 300, .inl v4)), (o5, .inl (cI, 300, .inl v5))]) (w1 := [(d4, .inr (4, [.ref z0, .ref z1, .ref z2, .ref z3, .ref z4, .ref z5, .int cz])), (z0, .inl (cI, 300, .inl u0)), (z1, .inl (cI, 300, .inl u1)), (z2, .inl (cI, 300, .inl r_92.1)), (z3, .inl (cI, 300, .inl r_92.2.1)), (z4, .inl (cI, 300, .inl r_92.2.2.1)), (z5, .inl (cI, 300, .inl r_92.2.2.2))]) hP hD [1, 2, 3, 4, 5, 6, 7] [0, 8, 9, 10, 11, 12, 13, 14] rfl rfl (by decide) (by decide) hk1 hFc hP1 hD1
            generalize H1 = H at hP hS ⊢
            have hP := hP.sub (ws' := [(h0, .inr (8, [.ref d0, .ref d1, .ref d2, .ref d3, .ref d4, .ref d5, .ref d6, .int lf])), (d4, .inr (4, [.ref z0, .ref z1, .ref z2, .ref z3, .ref z4, .ref z5, .int cz])), (z0, .inl (cI, 300, .inl u0)), (z1, .inl (cI, 300, .inl u1)), (z2, .inl (cI, 300, .inl r_92.1)), (z3, .inl (cI, 300, .inl r_92.2.1)), (z4, .inl (cI, 300, .inl r_92.2.2.1)), (z5, .inl (cI, 300, .inl r_92.2.2.2)), (d5, .inr (4, [.ref o0, .ref o1, .ref o2, .ref o3, .ref o4, .ref o5, .int co])), (o0, .inl (cI, 300, .inl v0)), (o1, .inl (cI, 300, .inl v1)), (o2, .inl (cI, 300, .inl v2)), (o3, .inl (cI, 300, .inl v3)), (o4, .inl (cI, 300, .inl v4)), (o5, .inl (cI, 300, .inl v5))]) [0, 8, 9, 10, 11, 12, 13, 14, 1, 2, 3, 4, 5, 6, 7] rfl
            have hD := hD.sub (ws' := [(h0, .inr (8, [.ref d0, .ref d1, .ref d2, .ref d3, .ref d4, .ref d5, .ref d6, .int lf])), (d4, .inr (4, [.ref z0, .ref z1, .ref z2, .ref z3, .ref z4, .ref z5, .int cz])), (z0, .inl (cI, 300, .inl u0)), (z1, .inl (cI, 300, .inl u1)), (z2, .inl (cI, 300, .inl r_92.1)), (z3, .inl (cI, 300, .inl r_92.2.1)), (z4, .inl (cI, 300, .inl r_92.2.2.1)), (z5, .inl (cI, 300, .inl r_92.2.2.2)), (d5, .inr (4, [.ref o0, .ref o1, .ref o2, .ref o3, .ref o4, .ref o5, .int co])), (o0, .inl (cI, 300, .inl v0)), (o1, .inl (cI, 300, .inl v1)), (o2, .inl (cI, 300, .inl v2)), (o3, .inl (cI, 300, .inl v3)), (o4, .inl (cI, 300, .inl v4)), (o5, .inl (cI, 300, .inl v5))]) [0, 8, 9, 10, 11, 12, 13, 14, 1, 2, 3, 4, 5, 6, 7] (by decide) rfl
            refine lv_goto (tgt := 83) hx hb dX8_compose_64 (by decide) ?_
            refine lv_iinc (v := (k + 1)) (lv' := [(2, .int (k + 1)), (3, .int r_42), (0, .ref h0), (1, .int te)]) hx hb dX8_compose_83 hl (k := 3) rfl rfl (by decide) rfl (fun ls hl => ?_)
            refine lv_goto (tgt := 4) hx hb dX8_compose_86 (by decide) ?_
            have v_97 : 0 ≤ ((k + 1)).toInt := by
              have q_98 := i_nle c_1
              have k_99 : (0 : Int32).toInt = 0 := by decide
              have q_100 := i_ne c_6
              have q_101 := i_nle c_43
              have k_102 : (1 : Int32).toInt = 1 := by decide
              have t_103 := ti_add (a := k) (b := 1) (by omega) (by omega)
              try generalize Int32.toInt (k + 1) = z0 at *
              try generalize Int32.toInt r_42 = z1 at *
              try generalize Int32.toInt r_5 = z2 at *
              try generalize Int32.toInt co = z3 at *
              try generalize Int32.toInt cz = z4 at *
              try generalize Int32.toInt (0 : Int32) = z5 at *
              try generalize Int32.toInt (1 : Int32) = z6 at *
              try generalize Int32.toInt k = z7 at *
              omega
            have v_104 : ((k + 1)).toInt ≤ cz.toInt := by
              have q_105 := i_nle c_1
              have k_106 : (0 : Int32).toInt = 0 := by decide
              have q_107 := i_ne c_6
              have q_108 := i_nle c_43
              have k_109 : (1 : Int32).toInt = 1 := by decide
              have t_110 := ti_add (a := k) (b := 1) (by omega) (by omega)
              try generalize Int32.toInt (k + 1) = z0 at *
              try generalize Int32.toInt r_42 = z1 at *
              try generalize Int32.toInt r_5 = z2 at *
              try generalize Int32.toInt co = z3 at *
              try generalize Int32.toInt cz = z4 at *
              try generalize Int32.toInt (0 : Int32) = z5 at *
              try generalize Int32.toInt (1 : Int32) = z6 at *
              try generalize Int32.toInt k = z7 at *
              omega
            have v_111 : cz.toInt - ((k + 1)).toInt < ((n : Nat) : Int) := by
              have q_112 := i_nle c_1
              have k_113 : (0 : Int32).toInt = 0 := by decide
              have q_114 := i_ne c_6
              have q_115 := i_nle c_43
              have k_116 : (1 : Int32).toInt = 1 := by decide
              have t_117 := ti_add (a := k) (b := 1) (by omega) (by omega)
              try generalize Int32.toInt (k + 1) = z0 at *
              try generalize Int32.toInt r_42 = z1 at *
              try generalize Int32.toInt r_5 = z2 at *
              try generalize Int32.toInt co = z3 at *
              try generalize Int32.toInt cz = z4 at *
              try generalize Int32.toInt (0 : Int32) = z5 at *
              try generalize Int32.toInt (1 : Int32) = z6 at *
              try generalize Int32.toInt k = z7 at *
              omega
            exact ih (te) ((k + 1)) (r_92.1) (r_92.2.1) (r_92.2.2.1) (r_92.2.2.2) _ _ ls hR v_97 v_104 v_111 hP hD hS (lv_sub hl [2, 3, 0] rfl)
  refine lv_iconst (v := 0) hx hb dX8_compose_0 (by decide) ?_
  refine lv_istore_n (lv' := [(1, .int 0), (0, .ref h0)]) hx hb dX8_compose_1 rfl hl (by decide) rfl (fun ls hl => ?_)
  refine lv_iconst (v := 0) hx hb dX8_compose_2 (by decide) ?_
  refine lv_istore_n (lv' := [(2, .int 0), (1, .int 0), (0, .ref h0)]) hx hb dX8_compose_3 rfl hl (by decide) rfl (fun ls hl => ?_)
  have v_118 : 0 ≤ (0 : Int32).toInt := by
    have k_119 : (0 : Int32).toInt = 0 := by decide
    try generalize Int32.toInt co = z0 at *
    try generalize Int32.toInt cz = z1 at *
    try generalize Int32.toInt (0 : Int32) = z2 at *
    omega
  have v_120 : (0 : Int32).toInt ≤ cz.toInt := by
    have k_121 : (0 : Int32).toInt = 0 := by decide
    try generalize Int32.toInt co = z0 at *
    try generalize Int32.toInt cz = z1 at *
    try generalize Int32.toInt (0 : Int32) = z2 at *
    omega
  have v_122 : cz.toInt - (0 : Int32).toInt < ((301 : Nat) : Int) := by
    have k_123 : (0 : Int32).toInt = 0 := by decide
    try generalize Int32.toInt co = z0 at *
    try generalize Int32.toInt cz = z1 at *
    try generalize Int32.toInt (0 : Int32) = z2 at *
    omega
  exact loop_4 301 (0) (0) (u2) (u3) (u4) (u5) _ _ ls hR v_118 v_120 v_122 hP hD hS (lv_sub hl [2, 1, 0] rfl)
