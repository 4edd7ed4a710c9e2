def fX3_tellsSource (g0 g1 g2 g3 g4 g5 : Int32) : Int32 :=
  if g2 < 0 then
    0
  else
    1
theorem inc_X3_tellsSource_3 : ∀ w ∈ u_ws RX3 TX3 6, w ∈ wsX3_tellsSource := by decide +kernel
set_option maxHeartbeats 4000000 in
set_option maxRecDepth 100000 in
theorem c_X3_tellsSource (l : Launch) (dC : Nat → ClassId) (dI : Nat → Nat → Nat) (cB cC cI cJ : ClassId) (sz : Nat) (h0 : Nat) (g0 g1 g2 g3 g4 g5 : Int32) : Met l yX3_tellsSource wsX3_tellsSource ({ frames := 0, cells := 0, slots := 0, locals := 0 } : Room) (cP dC dI cB cC cI cJ [.ref h0] sz [(h0, .inr (3, [.int g0, .int g1, .int g2, .int g3, .int g4, .int g5]))]) (vp_Si (fun r => r = (fX3_tellsSource g0 g1 g2 g3 g4 g5))) 0 0 (fun _ => False) := by
  refine Met.ofW (cc := cX3_tellsSource) (maxL := 1) (ret := (some .boolean)) (by decide) rfl ?_
  intro p e s m args below meth c s₁ B hml hv
  obtain ⟨rfl, hsz, hP, hG, hD0⟩ := hv
  have hx := B.exec
  have hb := B.bytes
  have hr := B.returns
  have hts := atoms_spec (ws := wsX3_tellsSource) B.pre
  have hown : s.vm.findClass RX3 = some m.cls := findClass_of_methodNamed B.named
  have hlocks := B.notSynchronized
  subst hsz
  obtain ⟨H, hH⟩ : ∃ H : Heap, H = s.heap := ⟨_, rfl⟩
  rw [← hH] at hP ⊢
  generalize hR : fX3_tellsSource g0 g1 g2 g3 g4 g5 = R
  unfold fX3_tellsSource at hR
  have hl := lv_entry ([.ref h0]) (n := 1) (Nat.le_of_ble_eq_true rfl)
  rw [lg_entry_eq]
  generalize (lg_sl ([.ref h0]) ++ List.replicate (1 - (lg_sl ([.ref h0])).length) Slot.unset).toArray = ls at hl ⊢
  have hl : lv_has ls 1 [(0, .ref h0)] := hl
  refine lv_aload_n hx hb dX3_tellsSource_0 rfl (lv_at hl 0 rfl) ?_
  refine va_get (D := (dC, dI)) (ci := 3) (v := .int g2) (C := RX3) (T := TX3) (N := 6) hx hb hts inc_X3_tellsSource_3 hown hG.1 hP 0 rfl rfl 2 (by decide) (hts (.fieldLink RX3 18 "MappingDesk$Segment" "source" "I") (by decide +kernel)) (fun _ h9 => h9) rfl dX3_tellsSource_1 ?_
  refine lv_if_lt (tgt := 11) hx hb dX3_tellsSource_4 (by decide) (fun c_1 => ?_) (fun c_1 => ?_)
  · rw [if_pos c_1] at hR
    refine lv_iconst (v := 0) hx hb dX3_tellsSource_11 (by decide) ?_
    subst hR
    exact W.zret (v := 0) hx hb hr rfl (fun t ht hW => ⟨0, rfl, rfl, ht.trans hH⟩) t_nil dX3_tellsSource_12
  · rw [if_neg c_1] at hR
    refine lv_iconst (v := 1) hx hb dX3_tellsSource_7 (by decide) ?_
    refine lv_goto (tgt := 12) hx hb dX3_tellsSource_8 (by decide) ?_
    subst hR
    exact W.zret (v := 1) hx hb hr rfl (fun t ht hW => ⟨1, rfl, rfl, ht.trans hH⟩) t_nil dX3_tellsSource_12

def fX3_tellsName (g0 g1 g2 g3 g4 g5 : Int32) : Int32 :=
  if g5 < 0 then
    0
  else
    1
theorem inc_X3_tellsName_3 : ∀ w ∈ u_ws RX3 TX3 6, w ∈ wsX3_tellsName := by decide +kernel
set_option maxHeartbeats 4000000 in
set_option maxRecDepth 100000 in
theorem c_X3_tellsName (l : Launch) (dC : Nat → ClassId) (dI : Nat → Nat → Nat) (cB cC cI cJ : ClassId) (sz : Nat) (h0 : Nat) (g0 g1 g2 g3 g4 g5 : Int32) : Met l yX3_tellsName wsX3_tellsName ({ frames := 0, cells := 0, slots := 0, locals := 0 } : Room) (cP dC dI cB cC cI cJ [.ref h0] sz [(h0, .inr (3, [.int g0, .int g1, .int g2, .int g3, .int g4, .int g5]))]) (vp_Si (fun r => r = (fX3_tellsName g0 g1 g2 g3 g4 g5))) 0 0 (fun _ => False) := by
  refine Met.ofW (cc := cX3_tellsName) (maxL := 1) (ret := (some .boolean)) (by decide) rfl ?_
  intro p e s m args below meth c s₁ B hml hv
  obtain ⟨rfl, hsz, hP, hG, hD0⟩ := hv
  have hx := B.exec
  have hb := B.bytes
  have hr := B.returns
  have hts := atoms_spec (ws := wsX3_tellsName) B.pre
  have hown : s.vm.findClass RX3 = some m.cls := findClass_of_methodNamed B.named
  have hlocks := B.notSynchronized
  subst hsz
  obtain ⟨H, hH⟩ : ∃ H : Heap, H = s.heap := ⟨_, rfl⟩
  rw [← hH] at hP ⊢
  generalize hR : fX3_tellsName g0 g1 g2 g3 g4 g5 = R
  unfold fX3_tellsName at hR
  have hl := lv_entry ([.ref h0]) (n := 1) (Nat.le_of_ble_eq_true rfl)
  rw [lg_entry_eq]
  generalize (lg_sl ([.ref h0]) ++ List.replicate (1 - (lg_sl ([.ref h0])).length) Slot.unset).toArray = ls at hl ⊢
  have hl : lv_has ls 1 [(0, .ref h0)] := hl
  refine lv_aload_n hx hb dX3_tellsName_0 rfl (lv_at hl 0 rfl) ?_
  refine va_get (D := (dC, dI)) (ci := 3) (v := .int g5) (C := RX3) (T := TX3) (N := 6) hx hb hts inc_X3_tellsName_3 hown hG.1 hP 0 rfl rfl 5 (by decide) (hts (.fieldLink RX3 27 "MappingDesk$Segment" "name" "I") (by decide +kernel)) (fun _ h9 => h9) rfl dX3_tellsName_1 ?_
  refine lv_if_lt (tgt := 11) hx hb dX3_tellsName_4 (by decide) (fun c_1 => ?_) (fun c_1 => ?_)
  · rw [if_pos c_1] at hR
    refine lv_iconst (v := 0) hx hb dX3_tellsName_11 (by decide) ?_
    subst hR
    exact W.zret (v := 0) hx hb hr rfl (fun t ht hW => ⟨0, rfl, rfl, ht.trans hH⟩) t_nil dX3_tellsName_12
  · rw [if_neg c_1] at hR
    refine lv_iconst (v := 1) hx hb dX3_tellsName_7 (by decide) ?_
    refine lv_goto (tgt := 12) hx hb dX3_tellsName_8 (by decide) ?_
    subst hR
    exact W.zret (v := 1) hx hb hr rfl (fun t ht hW => ⟨1, rfl, rfl, ht.trans hH⟩) t_nil dX3_tellsName_12

def fX3_standAt (g0 g1 g2 g3 g4 g5 : Int32) (x y : Int32) : Int32 × Int32 × Int32 × Int32 × Int32 × Int32 :=
  (x, y, (-1), (-1), (-1), (-1))
theorem inc_X3_standAt_3 : ∀ w ∈ u_ws RX3 TX3 6, w ∈ wsX3_standAt := by decide +kernel
set_option maxHeartbeats 4000000 in
set_option maxRecDepth 100000 in
theorem c_X3_standAt (l : Launch) (dC : Nat → ClassId) (dI : Nat → Nat → Nat) (cB cC cI cJ : ClassId) (sz : Nat) (h0 : Nat) (g0 g1 g2 g3 g4 g5 : Int32) (x y : Int32) : Met l yX3_standAt wsX3_standAt ({ frames := 0, cells := 0, slots := 0, locals := 0 } : Room) (cP dC dI cB cC cI cJ [.ref h0, .int x, .int y] sz [(h0, .inr (3, [.int g0, .int g1, .int g2, .int g3, .int g4, .int g5]))]) (va_Qv (fun _ => ((fX3_standAt g0 g1 g2 g3 g4 g5 x y).1.toInt = x.toInt)) (cE dC dI (va_A [(h0, .inr (3, [.int g0, .int g1, .int g2, .int g3, .int g4, .int g5]))] sz) [(h0, .inr (3, [.int (fX3_standAt g0 g1 g2 g3 g4 g5 x y).1, .int (fX3_standAt g0 g1 g2 g3 g4 g5 x y).2.1, .int (fX3_standAt g0 g1 g2 g3 g4 g5 x y).2.2.1, .int (fX3_standAt g0 g1 g2 g3 g4 g5 x y).2.2.2.1, .int (fX3_standAt g0 g1 g2 g3 g4 g5 x y).2.2.2.2.1, .int (fX3_standAt g0 g1 g2 g3 g4 g5 x y).2.2.2.2.2]))]) (va_A [(h0, .inr (3, [.int g0, .int g1, .int g2, .int g3, .int g4, .int g5]))] sz)) 0 0 (va_A [(h0, .inr (3, [.int g0, .int g1, .int g2, .int g3, .int g4, .int g5]))] sz) := by
  refine Met.ofW (cc := cX3_standAt) (maxL := 3) (ret := none) (by decide) rfl ?_
  intro p e s m args below meth c s₁ B hml hv
  obtain ⟨rfl, hsz, hP, hG, hD0⟩ := hv
  have hx := B.exec
  have hb := B.bytes
  have hr := B.returns
  have hts := atoms_spec (ws := wsX3_standAt) B.pre
  have hown : s.vm.findClass RX3 = some m.cls := findClass_of_methodNamed B.named
  have hlocks := B.notSynchronized
  subst hsz
  have hD := hD0.self (sz := s.heap.size)
  generalize hAe : va_A [(h0, .inr (3, [.int g0, .int g1, .int g2, .int g3, .int g4, .int g5]))] s.heap.size = A at hD ⊢
  have hA : ∀ q : Nat, s.heap.size ≤ q → A q := fun q h => by rw [← hAe]; exact Or.inr h
  obtain ⟨H, hH⟩ : ∃ H : Heap, H = s.heap := ⟨_, rfl⟩
  have hS : va_S A s.heap H [] := by rw [hH]; exact va_S.rf
  rw [← hH] at hP ⊢
  generalize hR : fX3_standAt g0 g1 g2 g3 g4 g5 x y = R
  unfold fX3_standAt at hR
  have hl := lv_entry ([.ref h0, .int x, .int y]) (n := 3) (Nat.le_of_ble_eq_true rfl)
  rw [lg_entry_eq]
  generalize (lg_sl ([.ref h0, .int x, .int y]) ++ List.replicate (3 - (lg_sl ([.ref h0, .int x, .int y])).length) Slot.unset).toArray = ls at hl ⊢
  have hl : lv_has ls 3 [(0, .ref h0), (1, .int x), (2, .int y)] := hl
  refine lv_aload_n hx hb dX3_standAt_0 rfl (lv_at hl 0 rfl) ?_
  refine lv_iload_n hx hb dX3_standAt_1 rfl (lv_at hl 1 rfl) ?_
  refine va_put (D := (dC, dI)) (ci := 3) (v := .int x) (ty := .int) (C := RX3) (T := TX3) (N := 6) hx hb hts inc_X3_standAt_3 tyX3 tyX3_ok nmX3 hown hG.1 hP hD hS 0 rfl rfl 0 (by decide) (hts (.fieldLink RX3 9 "MappingDesk$Segment" "line" "I") (by decide +kernel)) (fun _ h9 => h9) rfl (by decide +kernel) rfl rfl (Nat.le_of_ble_eq_true rfl) dX3_standAt_2 (fun H locs hP hD hS => ?_)
  have hP : va_P (dC, dI) vwCl [(h0, .inr (3, [.int x, .int g1, .int g2, .int g3, .int g4, .int g5]))] H := hP
  have hD : va_D A [(h0, .inr (3, [.int x, .int g1, .int g2, .int g3, .int g4, .int g5]))] := hD
  refine lv_aload_n hx hb dX3_standAt_5 rfl (lv_at hl 0 rfl) ?_
  refine lv_iload_n hx hb dX3_standAt_6 rfl (lv_at hl 2 rfl) ?_
  refine va_put (D := (dC, dI)) (ci := 3) (v := .int y) (ty := .int) (C := RX3) (T := TX3) (N := 6) hx hb hts inc_X3_standAt_3 tyX3 tyX3_ok nmX3 hown hG.1 hP hD hS 0 rfl rfl 1 (by decide) (hts (.fieldLink RX3 15 "MappingDesk$Segment" "column" "I") (by decide +kernel)) (fun _ h9 => h9) rfl (by decide +kernel) rfl rfl (Nat.le_of_ble_eq_true rfl) dX3_standAt_7 (fun H locs hP hD hS => ?_)
  have hP : va_P (dC, dI) vwCl [(h0, .inr (3, [.int x, .int y, .int g2, .int g3, .int g4, .int g5]))] H := hP
  have hD : va_D A [(h0, .inr (3, [.int x, .int y, .int g2, .int g3, .int g4, .int g5]))] := hD
  refine lv_aload_n hx hb dX3_standAt_10 rfl (lv_at hl 0 rfl) ?_
  refine lv_iconst (v := (-1)) hx hb dX3_standAt_11 (by decide) ?_
  refine va_put (D := (dC, dI)) (ci := 3) (v := .int (-1)) (ty := .int) (C := RX3) (T := TX3) (N := 6) hx hb hts inc_X3_standAt_3 tyX3 tyX3_ok nmX3 hown hG.1 hP hD hS 0 rfl rfl 2 (by decide) (hts (.fieldLink RX3 18 "MappingDesk$Segment" "source" "I") (by decide +kernel)) (fun _ h9 => h9) rfl (by decide +kernel) rfl rfl (Nat.le_of_ble_eq_true rfl) dX3_standAt_12 (fun H locs hP hD hS => ?_)
  have hP : va_P (dC, dI) vwCl [(h0, .inr (3, [.int x, .int y, .int (-1), .int g3, .int g4, .int g5]))] H := hP
  have hD : va_D A [(h0, .inr (3, [.int x, .int y, .int (-1), .int g3, .int g4, .int g5]))] := hD
  refine lv_aload_n hx hb dX3_standAt_15 rfl (lv_at hl 0 rfl) ?_
  refine lv_iconst (v := (-1)) hx hb dX3_standAt_16 (by decide) ?_
  refine va_put (D := (dC, dI)) (ci := 3) (v := .int (-1)) (ty := .int) (C := RX3) (T := TX3) (N := 6) hx hb hts inc_X3_standAt_3 tyX3 tyX3_ok nmX3 hown hG.1 hP hD hS 0 rfl rfl 3 (by decide) (hts (.fieldLink RX3 21 "MappingDesk$Segment" "sourceLine" "I") (by decide +kernel)) (fun _ h9 => h9) rfl (by decide +kernel) rfl rfl (Nat.le_of_ble_eq_true rfl) dX3_standAt_17 (fun H locs hP hD hS => ?_)
  have hP : va_P (dC, dI) vwCl [(h0, .inr (3, [.int x, .int y, .int (-1), .int (-1), .int g4, .int g5]))] H := hP
  have hD : va_D A [(h0, .inr (3, [.int x, .int y, .int (-1), .int (-1), .int g4, .int g5]))] := hD
  refine lv_aload_n hx hb dX3_standAt_20 rfl (lv_at hl 0 rfl) ?_
  refine lv_iconst (v := (-1)) hx hb dX3_standAt_21 (by decide) ?_
  refine va_put (D := (dC, dI)) (ci := 3) (v := .int (-1)) (ty := .int) (C := RX3) (T := TX3) (N := 6) hx hb hts inc_X3_standAt_3 tyX3 tyX3_ok nmX3 hown hG.1 hP hD hS 0 rfl rfl 4 (by decide) (hts (.fieldLink RX3 24 "MappingDesk$Segment" "sourceColumn" "I") (by decide +kernel)) (fun _ h9 => h9) rfl (by decide +kernel) rfl rfl (Nat.le_of_ble_eq_true rfl) dX3_standAt_22 (fun H locs hP hD hS => ?_)
  have hP : va_P (dC, dI) vwCl [(h0, .inr (3, [.int x, .int y, .int (-1), .int (-1), .int (-1), .int g5]))] H := hP
  have hD : va_D A [(h0, .inr (3, [.int x, .int y, .int (-1), .int (-1), .int (-1), .int g5]))] := hD
  refine lv_aload_n hx hb dX3_standAt_25 rfl (lv_at hl 0 rfl) ?_
  refine lv_iconst (v := (-1)) hx hb dX3_standAt_26 (by decide) ?_
  refine va_put (D := (dC, dI)) (ci := 3) (v := .int (-1)) (ty := .int) (C := RX3) (T := TX3) (N := 6) hx hb hts inc_X3_standAt_3 tyX3 tyX3_ok nmX3 hown hG.1 hP hD hS 0 rfl rfl 5 (by decide) (hts (.fieldLink RX3 27 "MappingDesk$Segment" "name" "I") (by decide +kernel)) (fun _ h9 => h9) rfl (by decide +kernel) rfl rfl (Nat.le_of_ble_eq_true rfl) dX3_standAt_27 (fun H locs hP hD hS => ?_)
  have hP : va_P (dC, dI) vwCl [(h0, .inr (3, [.int x, .int y, .int (-1), .int (-1), .int (-1), .int (-1)]))] H := hP
  have hD : va_D A [(h0, .inr (3, [.int x, .int y, .int (-1), .int (-1), .int (-1), .int (-1)]))] := hD
  have e_1 : (x : Int32).toInt = x.toInt := by
    try generalize Int32.toInt x = z0 at *
    omega
  subst hR
  exact W.vret hx hb hr (fun t ht hW => ⟨⟨(), rfl, e_1, by rw [ht]; exact hP, hD⟩, hS.F ht⟩) hS.2.2 dX3_standAt_30

def fX3_tell (g0 g1 g2 g3 g4 g5 : Int32) (x y z v : Int32) : Int32 × Int32 × Int32 × Int32 :=
  if 0 ≤ v then
    (x, y, z, v)
  else
    (x, y, z, (-1))
theorem inc_X3_tell_3 : ∀ w ∈ u_ws RX3 TX3 6, w ∈ wsX3_tell := by decide +kernel
set_option maxHeartbeats 4000000 in
set_option maxRecDepth 100000 in
theorem c_X3_tell (l : Launch) (dC : Nat → ClassId) (dI : Nat → Nat → Nat) (cB cC cI cJ : ClassId) (sz : Nat) (h0 : Nat) (g0 g1 g2 g3 g4 g5 : Int32) (x y z v : Int32) : Met l yX3_tell wsX3_tell ({ frames := 0, cells := 0, slots := 0, locals := 0 } : Room) (cP dC dI cB cC cI cJ [.ref h0, .int x, .int y, .int z, .int v] sz [(h0, .inr (3, [.int g0, .int g1, .int g2, .int g3, .int g4, .int g5]))]) (va_Qv (fun _ => True) (cE dC dI (va_A [(h0, .inr (3, [.int g0, .int g1, .int g2, .int g3, .int g4, .int g5]))] sz) [(h0, .inr (3, [.int g0, .int g1, .int (fX3_tell g0 g1 g2 g3 g4 g5 x y z v).1, .int (fX3_tell g0 g1 g2 g3 g4 g5 x y z v).2.1, .int (fX3_tell g0 g1 g2 g3 g4 g5 x y z v).2.2.1, .int (fX3_tell g0 g1 g2 g3 g4 g5 x y z v).2.2.2]))]) (va_A [(h0, .inr (3, [.int g0, .int g1, .int g2, .int g3, .int g4, .int g5]))] sz)) 0 0 (va_A [(h0, .inr (3, [.int g0, .int g1, .int g2, .int g3, .int g4, .int g5]))] sz) := by
  refine Met.ofW (cc := cX3_tell) (maxL := 5) (ret := none) (by decide) rfl ?_
  intro p e s m args below meth c s₁ B hml hv
  obtain ⟨rfl, hsz, hP, hG, hD0⟩ := hv
  have hx := B.exec
  have hb := B.bytes
  have hr := B.returns
  have hts := atoms_spec (ws := wsX3_tell) B.pre
  have hown : s.vm.findClass RX3 = some m.cls := findClass_of_methodNamed B.named
  have hlocks := B.notSynchronized
  subst hsz
  have hD := hD0.self (sz := s.heap.size)
  generalize hAe : va_A [(h0, .inr (3, [.int g0, .int g1, .int g2, .int g3, .int g4, .int g5]))] s.heap.size = A at hD ⊢
  have hA : ∀ q : Nat, s.heap.size ≤ q → A q := fun q h => by rw [← hAe]; exact Or.inr h
  obtain ⟨H, hH⟩ : ∃ H : Heap, H = s.heap := ⟨_, rfl⟩
  have hS : va_S A s.heap H [] := by rw [hH]; exact va_S.rf
  rw [← hH] at hP ⊢
  generalize hR : fX3_tell g0 g1 g2 g3 g4 g5 x y z v = R
  unfold fX3_tell at hR
  have hl := lv_entry ([.ref h0, .int x, .int y, .int z, .int v]) (n := 5) (Nat.le_of_ble_eq_true rfl)
  rw [lg_entry_eq]
  generalize (lg_sl ([.ref h0, .int x, .int y, .int z, .int v]) ++ List.replicate (5 - (lg_sl ([.ref h0, .int x, .int y, .int z, .int v])).length) Slot.unset).toArray = ls at hl ⊢
  have hl : lv_has ls 5 [(0, .ref h0), (1, .int x), (2, .int y), (3, .int z), (4, .int v)] := hl
  refine lv_aload_n hx hb dX3_tell_0 rfl (lv_at hl 0 rfl) ?_
  refine lv_iload_n hx hb dX3_tell_1 rfl (lv_at hl 1 rfl) ?_
  refine va_put (D := (dC, dI)) (ci := 3) (v := .int x) (ty := .int) (C := RX3) (T := TX3) (N := 6) hx hb hts inc_X3_tell_3 tyX3 tyX3_ok nmX3 hown hG.1 hP hD hS 0 rfl rfl 2 (by decide) (hts (.fieldLink RX3 18 "MappingDesk$Segment" "source" "I") (by decide +kernel)) (fun _ h9 => h9) rfl (by decide +kernel) rfl rfl (Nat.le_of_ble_eq_true rfl) dX3_tell_2 (fun H locs hP hD hS => ?_)
  have hP : va_P (dC, dI) vwCl [(h0, .inr (3, [.int g0, .int g1, .int x, .int g3, .int g4, .int g5]))] H := hP
  have hD : va_D A [(h0, .inr (3, [.int g0, .int g1, .int x, .int g3, .int g4, .int g5]))] := hD
  refine lv_aload_n hx hb dX3_tell_5 rfl (lv_at hl 0 rfl) ?_
  refine lv_iload_n hx hb dX3_tell_6 rfl (lv_at hl 2 rfl) ?_
  refine va_put (D := (dC, dI)) (ci := 3) (v := .int y) (ty := .int) (C := RX3) (T := TX3) (N := 6) hx hb hts inc_X3_tell_3 tyX3 tyX3_ok nmX3 hown hG.1 hP hD hS 0 rfl rfl 3 (by decide) (hts (.fieldLink RX3 21 "MappingDesk$Segment" "sourceLine" "I") (by decide +kernel)) (fun _ h9 => h9) rfl (by decide +kernel) rfl rfl (Nat.le_of_ble_eq_true rfl) dX3_tell_7 (fun H locs hP hD hS => ?_)
  have hP : va_P (dC, dI) vwCl [(h0, .inr (3, [.int g0, .int g1, .int x, .int y, .int g4, .int g5]))] H := hP
  have hD : va_D A [(h0, .inr (3, [.int g0, .int g1, .int x, .int y, .int g4, .int g5]))] := hD
  refine lv_aload_n hx hb dX3_tell_10 rfl (lv_at hl 0 rfl) ?_
  refine lv_iload_n hx hb dX3_tell_11 rfl (lv_at hl 3 rfl) ?_
  refine va_put (D := (dC, dI)) (ci := 3) (v := .int z) (ty := .int) (C := RX3) (T := TX3) (N := 6) hx hb hts inc_X3_tell_3 tyX3 tyX3_ok nmX3 hown hG.1 hP hD hS 0 rfl rfl 4 (by decide) (hts (.fieldLink RX3 24 "MappingDesk$Segment" "sourceColumn" "I") (by decide +kernel)) (fun _ h9 => h9) rfl (by decide +kernel) rfl rfl (Nat.le_of_ble_eq_true rfl) dX3_tell_12 (fun H locs hP hD hS => ?_)
  have hP : va_P (dC, dI) vwCl [(h0, .inr (3, [.int g0, .int g1, .int x, .int y, .int z, .int g5]))] H := hP
  have hD : va_D A [(h0, .inr (3, [.int g0, .int g1, .int x, .int y, .int z, .int g5]))] := hD
  refine lv_aload_n hx hb dX3_tell_15 rfl (lv_at hl 0 rfl) ?_
  refine lv_iload hx hb dX3_tell_16 (lv_at hl 4 rfl) ?_
  refine lv_if_ge (tgt := 25) hx hb dX3_tell_18 (by decide) (fun c_1 => ?_) (fun c_1 => ?_)
  · rw [if_pos c_1] at hR
    refine lv_iload hx hb dX3_tell_25 (lv_at hl 4 rfl) ?_
    refine va_put (D := (dC, dI)) (ci := 3) (v := .int v) (ty := .int) (C := RX3) (T := TX3) (N := 6) hx hb hts inc_X3_tell_3 tyX3 tyX3_ok nmX3 hown hG.1 hP hD hS 0 rfl rfl 5 (by decide) (hts (.fieldLink RX3 27 "MappingDesk$Segment" "name" "I") (by decide +kernel)) (fun _ h9 => h9) rfl (by decide +kernel) rfl rfl (Nat.le_of_ble_eq_true rfl) dX3_tell_27 (fun H locs hP hD hS => ?_)
    have hP : va_P (dC, dI) vwCl [(h0, .inr (3, [.int g0, .int g1, .int x, .int y, .int z, .int v]))] H := hP
    have hD : va_D A [(h0, .inr (3, [.int g0, .int g1, .int x, .int y, .int z, .int v]))] := hD
    subst hR
    exact W.vret hx hb hr (fun t ht hW => ⟨⟨(), rfl, trivial, by rw [ht]; exact hP, hD⟩, hS.F ht⟩) hS.2.2 dX3_tell_30
  · rw [if_neg c_1] at hR
    refine lv_iconst (v := (-1)) hx hb dX3_tell_21 (by decide) ?_
    refine lv_goto (tgt := 27) hx hb dX3_tell_22 (by decide) ?_
    refine va_put (D := (dC, dI)) (ci := 3) (v := .int (-1)) (ty := .int) (C := RX3) (T := TX3) (N := 6) hx hb hts inc_X3_tell_3 tyX3 tyX3_ok nmX3 hown hG.1 hP hD hS 0 rfl rfl 5 (by decide) (hts (.fieldLink RX3 27 "MappingDesk$Segment" "name" "I") (by decide +kernel)) (fun _ h9 => h9) rfl (by decide +kernel) rfl rfl (Nat.le_of_ble_eq_true rfl) dX3_tell_27 (fun H locs hP hD hS => ?_)
    have hP : va_P (dC, dI) vwCl [(h0, .inr (3, [.int g0, .int g1, .int x, .int y, .int z, .int (-1)]))] H := hP
    have hD : va_D A [(h0, .inr (3, [.int g0, .int g1, .int x, .int y, .int z, .int (-1)]))] := hD
    subst hR
    exact W.vret hx hb hr (fun t ht hW => ⟨⟨(), rfl, trivial, by rw [ht]; exact hP, hD⟩, hS.F ht⟩) hS.2.2 dX3_tell_30

def fX0_startText (a0 a1 a2 a3 a4 : Int32) : Int32 × Int32 × Int32 × Int32 × Int32 :=
  (0, 0, 0, 0, 0)
theorem inc_X0_startText_0 : ∀ w ∈ u_ws RX0 TX0 5, w ∈ wsX0_startText := by decide +kernel
set_option maxHeartbeats 4000000 in
set_option maxRecDepth 100000 in
theorem c_X0_startText (l : Launch) (dC : Nat → ClassId) (dI : Nat → Nat → Nat) (cB cC cI cJ : ClassId) (sz : Nat) (h0 : Nat) (a0 a1 a2 a3 a4 : Int32) : Met l yX0_startText wsX0_startText ({ frames := 0, cells := 0, slots := 0, locals := 0 } : Room) (cP dC dI cB cC cI cJ [.ref h0] sz [(h0, .inr (0, [.int a0, .int a1, .int a2, .int a3, .int a4]))]) (va_Qv (fun _ => True) (cE dC dI (va_A [(h0, .inr (0, [.int a0, .int a1, .int a2, .int a3, .int a4]))] sz) [(h0, .inr (0, [.int (fX0_startText a0 a1 a2 a3 a4).1, .int (fX0_startText a0 a1 a2 a3 a4).2.1, .int (fX0_startText a0 a1 a2 a3 a4).2.2.1, .int (fX0_startText a0 a1 a2 a3 a4).2.2.2.1, .int (fX0_startText a0 a1 a2 a3 a4).2.2.2.2]))]) (va_A [(h0, .inr (0, [.int a0, .int a1, .int a2, .int a3, .int a4]))] sz)) 0 0 (va_A [(h0, .inr (0, [.int a0, .int a1, .int a2, .int a3, .int a4]))] sz) := by
  refine Met.ofW (cc := cX0_startText) (maxL := 1) (ret := none) (by decide) rfl ?_
  intro p e s m args below meth c s₁ B hml hv
  obtain ⟨rfl, hsz, hP, hG, hD0⟩ := hv
  have hx := B.exec
  have hb := B.bytes
  have hr := B.returns
  have hts := atoms_spec (ws := wsX0_startText) B.pre
  have hown : s.vm.findClass RX0 = some m.cls := findClass_of_methodNamed B.named
  have hlocks := B.notSynchronized
  subst hsz
  have hD := hD0.self (sz := s.heap.size)
  generalize hAe : va_A [(h0, .inr (0, [.int a0, .int a1, .int a2, .int a3, .int a4]))] s.heap.size = A at hD ⊢
  have hA : ∀ q : Nat, s.heap.size ≤ q → A q := fun q h => by rw [← hAe]; exact Or.inr h
  obtain ⟨H, hH⟩ : ∃ H : Heap, H = s.heap := ⟨_, rfl⟩
  have hS : va_S A s.heap H [] := by rw [hH]; exact va_S.rf
  rw [← hH] at hP ⊢
  generalize hR : fX0_startText a0 a1 a2 a3 a4 = R
  unfold fX0_startText at hR
  have hl := lv_entry ([.ref h0]) (n := 1) (Nat.le_of_ble_eq_true rfl)
  rw [lg_entry_eq]
  generalize (lg_sl ([.ref h0]) ++ List.replicate (1 - (lg_sl ([.ref h0])).length) Slot.unset).toArray = ls at hl ⊢
  have hl : lv_has ls 1 [(0, .ref h0)] := hl
  refine lv_aload_n hx hb dX0_startText_0 rfl (lv_at hl 0 rfl) ?_
  refine lv_iconst (v := 0) hx hb dX0_startText_1 (by decide) ?_
  refine va_put (D := (dC, dI)) (ci := 0) (v := .int 0) (ty := .int) (C := RX0) (T := TX0) (N := 5) hx hb hts inc_X0_startText_0 tyX0 tyX0_ok nmX0 hown hG.1 hP hD hS 0 rfl rfl 0 (by decide) (hts (.fieldLink RX0 7 "MappingDesk$Ahead" "column" "I") (by decide +kernel)) (fun _ h9 => h9) rfl (by decide +kernel) rfl rfl (Nat.le_of_ble_eq_true rfl) dX0_startText_2 (fun H locs hP hD hS => ?_)
  have hP : va_P (dC, dI) vwCl [(h0, .inr (0, [.int 0, .int a1, .int a2, .int a3, .int a4]))] H := hP
  have hD : va_D A [(h0, .inr (0, [.int 0, .int a1, .int a2, .int a3, .int a4]))] := hD
  refine lv_aload_n hx hb dX0_startText_5 rfl (lv_at hl 0 rfl) ?_
  refine lv_iconst (v := 0) hx hb dX0_startText_6 (by decide) ?_
  refine va_put (D := (dC, dI)) (ci := 0) (v := .int 0) (ty := .int) (C := RX0) (T := TX0) (N := 5) hx hb hts inc_X0_startText_0 tyX0 tyX0_ok nmX0 hown hG.1 hP hD hS 0 rfl rfl 1 (by decide) (hts (.fieldLink RX0 13 "MappingDesk$Ahead" "source" "I") (by decide +kernel)) (fun _ h9 => h9) rfl (by decide +kernel) rfl rfl (Nat.le_of_ble_eq_true rfl) dX0_startText_7 (fun H locs hP hD hS => ?_)
  have hP : va_P (dC, dI) vwCl [(h0, .inr (0, [.int 0, .int 0, .int a2, .int a3, .int a4]))] H := hP
  have hD : va_D A [(h0, .inr (0, [.int 0, .int 0, .int a2, .int a3, .int a4]))] := hD
  refine lv_aload_n hx hb dX0_startText_10 rfl (lv_at hl 0 rfl) ?_
  refine lv_iconst (v := 0) hx hb dX0_startText_11 (by decide) ?_
  refine va_put (D := (dC, dI)) (ci := 0) (v := .int 0) (ty := .int) (C := RX0) (T := TX0) (N := 5) hx hb hts inc_X0_startText_0 tyX0 tyX0_ok nmX0 hown hG.1 hP hD hS 0 rfl rfl 2 (by decide) (hts (.fieldLink RX0 16 "MappingDesk$Ahead" "sourceLine" "I") (by decide +kernel)) (fun _ h9 => h9) rfl (by decide +kernel) rfl rfl (Nat.le_of_ble_eq_true rfl) dX0_startText_12 (fun H locs hP hD hS => ?_)
  have hP : va_P (dC, dI) vwCl [(h0, .inr (0, [.int 0, .int 0, .int 0, .int a3, .int a4]))] H := hP
  have hD : va_D A [(h0, .inr (0, [.int 0, .int 0, .int 0, .int a3, .int a4]))] := hD
  refine lv_aload_n hx hb dX0_startText_15 rfl (lv_at hl 0 rfl) ?_
  refine lv_iconst (v := 0) hx hb dX0_startText_16 (by decide) ?_
  refine va_put (D := (dC, dI)) (ci := 0) (v := .int 0) (ty := .int) (C := RX0) (T := TX0) (N := 5) hx hb hts inc_X0_startText_0 tyX0 tyX0_ok nmX0 hown hG.1 hP hD hS 0 rfl rfl 3 (by decide) (hts (.fieldLink RX0 19 "MappingDesk$Ahead" "sourceColumn" "I") (by decide +kernel)) (fun _ h9 => h9) rfl (by decide +kernel) rfl rfl (Nat.le_of_ble_eq_true rfl) dX0_startText_17 (fun H locs hP hD hS => ?_)
  have hP : va_P (dC, dI) vwCl [(h0, .inr (0, [.int 0, .int 0, .int 0, .int 0, .int a4]))] H := hP
  have hD : va_D A [(h0, .inr (0, [.int 0, .int 0, .int 0, .int 0, .int a4]))] := hD
  refine lv_aload_n hx hb dX0_startText_20 rfl (lv_at hl 0 rfl) ?_
  refine lv_iconst (v := 0) hx hb dX0_startText_21 (by decide) ?_
  refine va_put (D := (dC, dI)) (ci := 0) (v := .int 0) (ty := .int) (C := RX0) (T := TX0) (N := 5) hx hb hts inc_X0_startText_0 tyX0 tyX0_ok nmX0 hown hG.1 hP hD hS 0 rfl rfl 4 (by decide) (hts (.fieldLink RX0 22 "MappingDesk$Ahead" "name" "I") (by decide +kernel)) (fun _ h9 => h9) rfl (by decide +kernel) rfl rfl (Nat.le_of_ble_eq_true rfl) dX0_startText_22 (fun H locs hP hD hS => ?_)
  have hP : va_P (dC, dI) vwCl [(h0, .inr (0, [.int 0, .int 0, .int 0, .int 0, .int 0]))] H := hP
  have hD : va_D A [(h0, .inr (0, [.int 0, .int 0, .int 0, .int 0, .int 0]))] := hD
  subst hR
  exact W.vret hx hb hr (fun t ht hW => ⟨⟨(), rfl, trivial, by rw [ht]; exact hP, hD⟩, hS.F ht⟩) hS.2.2 dX0_startText_25

def fX0_startLine (a0 a1 a2 a3 a4 : Int32) : Int32 :=
  0
theorem inc_X0_startLine_0 : ∀ w ∈ u_ws RX0 TX0 5, w ∈ wsX0_startLine := by decide +kernel
set_option maxHeartbeats 4000000 in
set_option maxRecDepth 100000 in
theorem c_X0_startLine (l : Launch) (dC : Nat → ClassId) (dI : Nat → Nat → Nat) (cB cC cI cJ : ClassId) (sz : Nat) (h0 : Nat) (a0 a1 a2 a3 a4 : Int32) : Met l yX0_startLine wsX0_startLine ({ frames := 0, cells := 0, slots := 0, locals := 0 } : Room) (cP dC dI cB cC cI cJ [.ref h0] sz [(h0, .inr (0, [.int a0, .int a1, .int a2, .int a3, .int a4]))]) (va_Qv (fun _ => True) (cE dC dI (va_A [(h0, .inr (0, [.int a0, .int a1, .int a2, .int a3, .int a4]))] sz) [(h0, .inr (0, [.int (fX0_startLine a0 a1 a2 a3 a4), .int a1, .int a2, .int a3, .int a4]))]) (va_A [(h0, .inr (0, [.int a0, .int a1, .int a2, .int a3, .int a4]))] sz)) 0 0 (va_A [(h0, .inr (0, [.int a0, .int a1, .int a2, .int a3, .int a4]))] sz) := by
  refine Met.ofW (cc := cX0_startLine) (maxL := 1) (ret := none) (by decide) rfl ?_
  intro p e s m args below meth c s₁ B hml hv
  obtain ⟨rfl, hsz, hP, hG, hD0⟩ := hv
  have hx := B.exec
  have hb := B.bytes
  have hr := B.returns
  have hts := atoms_spec (ws := wsX0_startLine) B.pre
  have hown : s.vm.findClass RX0 = some m.cls := findClass_of_methodNamed B.named
  have hlocks := B.notSynchronized
  subst hsz
  have hD := hD0.self (sz := s.heap.size)
  generalize hAe : va_A [(h0, .inr (0, [.int a0, .int a1, .int a2, .int a3, .int a4]))] s.heap.size = A at hD ⊢
  have hA : ∀ q : Nat, s.heap.size ≤ q → A q := fun q h => by rw [← hAe]; exact Or.inr h
  obtain ⟨H, hH⟩ : ∃ H : Heap, H = s.heap := ⟨_, rfl⟩
  have hS : va_S A s.heap H [] := by rw [hH]; exact va_S.rf
  rw [← hH] at hP ⊢
  generalize hR : fX0_startLine a0 a1 a2 a3 a4 = R
  unfold fX0_startLine at hR
  have hl := lv_entry ([.ref h0]) (n := 1) (Nat.le_of_ble_eq_true rfl)
  rw [lg_entry_eq]
  generalize (lg_sl ([.ref h0]) ++ List.replicate (1 - (lg_sl ([.ref h0])).length) Slot.unset).toArray = ls at hl ⊢
  have hl : lv_has ls 1 [(0, .ref h0)] := hl
  refine lv_aload_n hx hb dX0_startLine_0 rfl (lv_at hl 0 rfl) ?_
  refine lv_iconst (v := 0) hx hb dX0_startLine_1 (by decide) ?_
  refine va_put (D := (dC, dI)) (ci := 0) (v := .int 0) (ty := .int) (C := RX0) (T := TX0) (N := 5) hx hb hts inc_X0_startLine_0 tyX0 tyX0_ok nmX0 hown hG.1 hP hD hS 0 rfl rfl 0 (by decide) (hts (.fieldLink RX0 7 "MappingDesk$Ahead" "column" "I") (by decide +kernel)) (fun _ h9 => h9) rfl (by decide +kernel) rfl rfl (Nat.le_of_ble_eq_true rfl) dX0_startLine_2 (fun H locs hP hD hS => ?_)
  have hP : va_P (dC, dI) vwCl [(h0, .inr (0, [.int 0, .int a1, .int a2, .int a3, .int a4]))] H := hP
  have hD : va_D A [(h0, .inr (0, [.int 0, .int a1, .int a2, .int a3, .int a4]))] := hD
  subst hR
  exact W.vret hx hb hr (fun t ht hW => ⟨⟨(), rfl, trivial, by rw [ht]; exact hP, hD⟩, hS.F ht⟩) hS.2.2 dX0_startLine_5

def fX0_pass (a0 a1 a2 a3 a4 : Int32) (g0 g1 g2 g3 g4 g5 : Int32) : Int32 × Int32 × Int32 × Int32 × Int32 :=
  bnd (fX3_tellsSource g0 g1 g2 g3 g4 g5) fun r_1 =>
  if r_1 = 0 then
    bnd (fX3_tellsName g0 g1 g2 g3 g4 g5) fun r_3 =>
    if r_3 = 0 then
      (g1, a1, a2, a3, a4)
    else
      (g1, a1, a2, a3, g5)
  else
    bnd (fX3_tellsName g0 g1 g2 g3 g4 g5) fun r_5 =>
    if r_5 = 0 then
      (g1, g2, g3, g4, a4)
    else
      (g1, g2, g3, g4, g5)
theorem inc_X0_pass_3 : ∀ w ∈ u_ws RX3 TX3 6, w ∈ wsX0_pass := by decide +kernel
theorem inc_X0_pass_0 : ∀ w ∈ u_ws RX0 TX0 5, w ∈ wsX0_pass := by decide +kernel
set_option maxHeartbeats 4000000 in
set_option maxRecDepth 100000 in
theorem c_X0_pass (l : Launch) (dC : Nat → ClassId) (dI : Nat → Nat → Nat) (cB cC cI cJ : ClassId) (sz : Nat) (h0 h1 : Nat) (a0 a1 a2 a3 a4 : Int32) (g0 g1 g2 g3 g4 g5 : Int32) : Met l yX0_pass wsX0_pass ({ frames := 1, cells := 0, slots := 0, locals := 20 } : Room) (cP dC dI cB cC cI cJ [.ref h0, .ref h1] sz [(h0, .inr (0, [.int a0, .int a1, .int a2, .int a3, .int a4])), (h1, .inr (3, [.int g0, .int g1, .int g2, .int g3, .int g4, .int g5]))]) (va_Qv (fun _ => True) (cE dC dI (va_A [(h0, .inr (0, [.int a0, .int a1, .int a2, .int a3, .int a4])), (h1, .inr (3, [.int g0, .int g1, .int g2, .int g3, .int g4, .int g5]))] sz) [(h0, .inr (0, [.int (fX0_pass a0 a1 a2 a3 a4 g0 g1 g2 g3 g4 g5).1, .int (fX0_pass a0 a1 a2 a3 a4 g0 g1 g2 g3 g4 g5).2.1, .int (fX0_pass a0 a1 a2 a3 a4 g0 g1 g2 g3 g4 g5).2.2.1, .int (fX0_pass a0 a1 a2 a3 a4 g0 g1 g2 g3 g4 g5).2.2.2.1, .int (fX0_pass a0 a1 a2 a3 a4 g0 g1 g2 g3 g4 g5).2.2.2.2])), (h1, .inr (3, [.int g0, .int g1, .int g2, .int g3, .int g4, .int g5]))]) (va_A [(h0, .inr (0, [.int a0, .int a1, .int a2, .int a3, .int a4])), (h1, .inr (3, [.int g0, .int g1, .int g2, .int g3, .int g4, .int g5]))] sz)) 0 0 (va_A [(h0, .inr (0, [.int a0, .int a1, .int a2, .int a3, .int a4])), (h1, .inr (3, [.int g0, .int g1, .int g2, .int g3, .int g4, .int g5]))] sz) := by
  refine Met.ofW (cc := cX0_pass) (maxL := 2) (ret := none) (by decide) rfl ?_
  intro p e s m args below meth c s₁ B hml hv
  obtain ⟨rfl, hsz, hP, hG, hD0⟩ := hv
  have hx := B.exec
  have hb := B.bytes
  have hr := B.returns
  have hts := atoms_spec (ws := wsX0_pass) B.pre
  have hown : s.vm.findClass RX0 = some m.cls := findClass_of_methodNamed B.named
  have hlocks := B.notSynchronized
  subst hsz
  have hD := hD0.self (sz := s.heap.size)
  generalize hAe : va_A [(h0, .inr (0, [.int a0, .int a1, .int a2, .int a3, .int a4])), (h1, .inr (3, [.int g0, .int g1, .int g2, .int g3, .int g4, .int g5]))] s.heap.size = A at hD ⊢
  have hA : ∀ q : Nat, s.heap.size ≤ q → A q := fun q h => by rw [← hAe]; exact Or.inr h
  obtain ⟨H, hH⟩ : ∃ H : Heap, H = s.heap := ⟨_, rfl⟩
  have hS : va_S A s.heap H [] := by rw [hH]; exact va_S.rf
  rw [← hH] at hP ⊢
  generalize hR : fX0_pass a0 a1 a2 a3 a4 g0 g1 g2 g3 g4 g5 = R
  unfold fX0_pass at hR
  have hl := lv_entry ([.ref h0, .ref h1]) (n := 2) (Nat.le_of_ble_eq_true rfl)
  rw [lg_entry_eq]
  generalize (lg_sl ([.ref h0, .ref h1]) ++ List.replicate (2 - (lg_sl ([.ref h0, .ref h1])).length) Slot.unset).toArray = ls at hl ⊢
  have hl : lv_has ls 2 [(0, .ref h0), (1, .ref h1)] := hl
  refine lv_aload_n hx hb dX0_pass_0 rfl (lv_at hl 0 rfl) ?_
  refine lv_aload_n hx hb dX0_pass_1 rfl (lv_at hl 1 rfl) ?_
  refine va_getN (D := (dC, dI)) (ci := 3) (v := .int g1) (C := RX3) (T := TX3) (N := 6) hx hb hts inc_X0_pass_3 hown hG.1 hP 1 rfl rfl 1 (by decide) (hG.nf (a := RX0) (i := 25) (b := "MappingDesk$Segment") (n := "column") (d := "I") (t := "MappingDesk") (by decide +kernel)) (fun _ h9 => h9) rfl dX0_pass_2 ?_
  refine va_put (D := (dC, dI)) (ci := 0) (v := .int g1) (ty := .int) (C := RX0) (T := TX0) (N := 5) hx hb hts inc_X0_pass_0 tyX0 tyX0_ok nmX0 hown hG.1 hP hD hS 0 rfl rfl 0 (by decide) (hts (.fieldLink RX0 7 "MappingDesk$Ahead" "column" "I") (by decide +kernel)) (fun _ h9 => h9) rfl (by decide +kernel) rfl rfl (Nat.le_of_ble_eq_true rfl) dX0_pass_5 (fun H locs hP hD hS => ?_)
  have hP : va_P (dC, dI) vwCl [(h0, .inr (0, [.int g1, .int a1, .int a2, .int a3, .int a4])), (h1, .inr (3, [.int g0, .int g1, .int g2, .int g3, .int g4, .int g5]))] H := hP
  have hD : va_D A [(h0, .inr (0, [.int g1, .int a1, .int a2, .int a3, .int a4])), (h1, .inr (3, [.int g0, .int g1, .int g2, .int g3, .int g4, .int g5]))] := hD
  refine lv_aload_n hx hb dX0_pass_8 rfl (lv_at hl 1 rfl) ?_
  have hPc := hP.sub (ws' := [(h1, .inr (3, [.int g0, .int g1, .int g2, .int g3, .int g4, .int g5]))]) [1] rfl
  have hDc := hD.sub (ws' := [(h1, .inr (3, [.int g0, .int g1, .int g2, .int g3, .int g4, .int g5]))]) [1] (by decide) rfl
  refine vp_callSi (va_Run.run (va_runVN (C := RX3) (As := []) (rest := []) ⟨hx, hb, hml, hown, hts⟩ (c_X3_tellsSource l dC dI cB cC cI cJ H.size h1 g0 g1 g2 g3 g4 g5 ) ⟨va_cnB 0 hts gX0_pass_X3_tellsSource_n28 rfl rfl rfl (hG.nm (A := #[]) (w := .methodLinkNest RX0 28 yX3_tellsSource "MappingDesk") (by decide +kernel)) (hts (.initialized RX3) (by decide +kernel)) (by decide +kernel) ⟨(Nat.le_of_ble_eq_true rfl), (Nat.le_of_ble_eq_true rfl)⟩, hts (.instanceMethod yX3_tellsSource) (by decide +kernel), hts (.selects RX3 yX3_tellsSource yX3_tellsSource) (by decide +kernel)⟩ ⟨cP_blind, va_recv hG.1 hPc (ci := 3) (q0 := 0) rfl rfl, cP_pre hPc hG hDc⟩ rfl rfl hl.1 rfl (lv_room (Nat.le_of_ble_eq_true rfl)) dX0_pass_9 ⟨Nat.le_of_ble_eq_true rfl, Nat.le_of_ble_eq_true rfl⟩)) (fun r_1 hr_1 => ?_)
  rw [bnd_eq hr_1.symm] at hR
  refine lv_if_eq (tgt := 39) hx hb dX0_pass_12 (by decide) (fun c_2 => ?_) (fun c_2 => ?_)
  · rw [if_pos c_2] at hR
    refine lv_aload_n hx hb dX0_pass_39 rfl (lv_at hl 1 rfl) ?_
    have hPc := hP.sub (ws' := [(h1, .inr (3, [.int g0, .int g1, .int g2, .int g3, .int g4, .int g5]))]) [1] rfl
    have hDc := hD.sub (ws' := [(h1, .inr (3, [.int g0, .int g1, .int g2, .int g3, .int g4, .int g5]))]) [1] (by decide) rfl
    refine vp_callSi (va_Run.run (va_runVN (C := RX3) (As := []) (rest := []) ⟨hx, hb, hml, hown, hts⟩ (c_X3_tellsName l dC dI cB cC cI cJ H.size h1 g0 g1 g2 g3 g4 g5 ) ⟨va_cnB 0 hts gX0_pass_X3_tellsName_n35 rfl rfl rfl (hG.nm (A := #[]) (w := .methodLinkNest RX0 35 yX3_tellsName "MappingDesk") (by decide +kernel)) (hts (.initialized RX3) (by decide +kernel)) (by decide +kernel) ⟨(Nat.le_of_ble_eq_true rfl), (Nat.le_of_ble_eq_true rfl)⟩, hts (.instanceMethod yX3_tellsName) (by decide +kernel), hts (.selects RX3 yX3_tellsName yX3_tellsName) (by decide +kernel)⟩ ⟨cP_blind, va_recv hG.1 hPc (ci := 3) (q0 := 0) rfl rfl, cP_pre hPc hG hDc⟩ rfl rfl hl.1 rfl (lv_room (Nat.le_of_ble_eq_true rfl)) dX0_pass_40 ⟨Nat.le_of_ble_eq_true rfl, Nat.le_of_ble_eq_true rfl⟩)) (fun r_3 hr_3 => ?_)
    rw [bnd_eq hr_3.symm] at hR
    refine lv_if_eq (tgt := 54) hx hb dX0_pass_43 (by decide) (fun c_4 => ?_) (fun c_4 => ?_)
    · rw [if_pos c_4] at hR
      subst hR
      exact W.vret hx hb hr (fun t ht hW => ⟨⟨(), rfl, trivial, by rw [ht]; exact hP, hD⟩, hS.F ht⟩) hS.2.2 dX0_pass_54
    · rw [if_neg c_4] at hR
      refine lv_aload_n hx hb dX0_pass_46 rfl (lv_at hl 0 rfl) ?_
      refine lv_aload_n hx hb dX0_pass_47 rfl (lv_at hl 1 rfl) ?_
      refine va_getN (D := (dC, dI)) (ci := 3) (v := .int g5) (C := RX3) (T := TX3) (N := 6) hx hb hts inc_X0_pass_3 hown hG.1 hP 1 rfl rfl 5 (by decide) (hG.nf (a := RX0) (i := 38) (b := "MappingDesk$Segment") (n := "name") (d := "I") (t := "MappingDesk") (by decide +kernel)) (fun _ h9 => h9) rfl dX0_pass_48 ?_
      refine va_put (D := (dC, dI)) (ci := 0) (v := .int g5) (ty := .int) (C := RX0) (T := TX0) (N := 5) hx hb hts inc_X0_pass_0 tyX0 tyX0_ok nmX0 hown hG.1 hP hD hS 0 rfl rfl 4 (by decide) (hts (.fieldLink RX0 22 "MappingDesk$Ahead" "name" "I") (by decide +kernel)) (fun _ h9 => h9) rfl (by decide +kernel) rfl rfl (Nat.le_of_ble_eq_true rfl) dX0_pass_51 (fun H locs hP hD hS => ?_)
      have hP : va_P (dC, dI) vwCl [(h0, .inr (0, [.int g1, .int a1, .int a2, .int a3, .int g5])), (h1, .inr (3, [.int g0, .int g1, .int g2, .int g3, .int g4, .int g5]))] H := hP
      have hD : va_D A [(h0, .inr (0, [.int g1, .int a1, .int a2, .int a3, .int g5])), (h1, .inr (3, [.int g0, .int g1, .int g2, .int g3, .int g4, .int g5]))] := hD
      subst hR
      exact W.vret hx hb hr (fun t ht hW => ⟨⟨(), rfl, trivial, by rw [ht]; exact hP, hD⟩, hS.F ht⟩) hS.2.2 dX0_pass_54
  · rw [if_neg c_2] at hR
    refine lv_aload_n hx hb dX0_pass_15 rfl (lv_at hl 0 rfl) ?_
    refine lv_aload_n hx hb dX0_pass_16 rfl (lv_at hl 1 rfl) ?_
    refine va_getN (D := (dC, dI)) (ci := 3) (v := .int g2) (C := RX3) (T := TX3) (N := 6) hx hb hts inc_X0_pass_3 hown hG.1 hP 1 rfl rfl 2 (by decide) (hG.nf (a := RX0) (i := 32) (b := "MappingDesk$Segment") (n := "source") (d := "I") (t := "MappingDesk") (by decide +kernel)) (fun _ h9 => h9) rfl dX0_pass_17 ?_
    refine va_put (D := (dC, dI)) (ci := 0) (v := .int g2) (ty := .int) (C := RX0) (T := TX0) (N := 5) hx hb hts inc_X0_pass_0 tyX0 tyX0_ok nmX0 hown hG.1 hP hD hS 0 rfl rfl 1 (by decide) (hts (.fieldLink RX0 13 "MappingDesk$Ahead" "source" "I") (by decide +kernel)) (fun _ h9 => h9) rfl (by decide +kernel) rfl rfl (Nat.le_of_ble_eq_true rfl) dX0_pass_20 (fun H locs hP hD hS => ?_)
    have hP : va_P (dC, dI) vwCl [(h0, .inr (0, [.int g1, .int g2, .int a2, .int a3, .int a4])), (h1, .inr (3, [.int g0, .int g1, .int g2, .int g3, .int g4, .int g5]))] H := hP
    have hD : va_D A [(h0, .inr (0, [.int g1, .int g2, .int a2, .int a3, .int a4])), (h1, .inr (3, [.int g0, .int g1, .int g2, .int g3, .int g4, .int g5]))] := hD
    refine lv_aload_n hx hb dX0_pass_23 rfl (lv_at hl 0 rfl) ?_
    refine lv_aload_n hx hb dX0_pass_24 rfl (lv_at hl 1 rfl) ?_
    refine va_getN (D := (dC, dI)) (ci := 3) (v := .int g3) (C := RX3) (T := TX3) (N := 6) hx hb hts inc_X0_pass_3 hown hG.1 hP 1 rfl rfl 3 (by decide) (hG.nf (a := RX0) (i := 33) (b := "MappingDesk$Segment") (n := "sourceLine") (d := "I") (t := "MappingDesk") (by decide +kernel)) (fun _ h9 => h9) rfl dX0_pass_25 ?_
    refine va_put (D := (dC, dI)) (ci := 0) (v := .int g3) (ty := .int) (C := RX0) (T := TX0) (N := 5) hx hb hts inc_X0_pass_0 tyX0 tyX0_ok nmX0 hown hG.1 hP hD hS 0 rfl rfl 2 (by decide) (hts (.fieldLink RX0 16 "MappingDesk$Ahead" "sourceLine" "I") (by decide +kernel)) (fun _ h9 => h9) rfl (by decide +kernel) rfl rfl (Nat.le_of_ble_eq_true rfl) dX0_pass_28 (fun H locs hP hD hS => ?_)
    have hP : va_P (dC, dI) vwCl [(h0, .inr (0, [.int g1, .int g2, .int g3, .int a3, .int a4])), (h1, .inr (3, [.int g0, .int g1, .int g2, .int g3, .int g4, .int g5]))] H := hP
    have hD : va_D A [(h0, .inr (0, [.int g1, .int g2, .int g3, .int a3, .int a4])), (h1, .inr (3, [.int g0, .int g1, .int g2, .int g3, .int g4, .int g5]))] := hD
    refine lv_aload_n hx hb dX0_pass_31 rfl (lv_at hl 0 rfl) ?_
    refine lv_aload_n hx hb dX0_pass_32 rfl (lv_at hl 1 rfl) ?_
    refine va_getN (D := (dC, dI)) (ci := 3) (v := .int g4) (C := RX3) (T := TX3) (N := 6) hx hb hts inc_X0_pass_3 hown hG.1 hP 1 rfl rfl 4 (by decide) (hG.nf (a := RX0) (i := 34) (b := "MappingDesk$Segment") (n := "sourceColumn") (d := "I") (t := "MappingDesk") (by decide +kernel)) (fun _ h9 => h9) rfl dX0_pass_33 ?_
    refine va_put (D := (dC, dI)) (ci := 0) (v := .int g4) (ty := .int) (C := RX0) (T := TX0) (N := 5) hx hb hts inc_X0_pass_0 tyX0 tyX0_ok nmX0 hown hG.1 hP hD hS 0 rfl rfl 3 (by decide) (hts (.fieldLink RX0 19 "MappingDesk$Ahead" "sourceColumn" "I") (by decide +kernel)) (fun _ h9 => h9) rfl (by decide +kernel) rfl rfl (Nat.le_of_ble_eq_true rfl) dX0_pass_36 (fun H locs hP hD hS => ?_)
    have hP : va_P (dC, dI) vwCl [(h0, .inr (0, [.int g1, .int g2, .int g3, .int g4, .int a4])), (h1, .inr (3, [.int g0, .int g1, .int g2, .int g3, .int g4, .int g5]))] H := hP
    have hD : va_D A [(h0, .inr (0, [.int g1, .int g2, .int g3, .int g4, .int a4])), (h1, .inr (3, [.int g0, .int g1, .int g2, .int g3, .int g4, .int g5]))] := hD
    refine lv_aload_n hx hb dX0_pass_39 rfl (lv_at hl 1 rfl) ?_
    have hPc := hP.sub (ws' := [(h1, .inr (3, [.int g0, .int g1, .int g2, .int g3, .int g4, .int g5]))]) [1] rfl
    have hDc := hD.sub (ws' := [(h1, .inr (3, [.int g0, .int g1, .int g2, .int g3, .int g4, .int g5]))]) [1] (by decide) rfl
    refine vp_callSi (va_Run.run (va_runVN (C := RX3) (As := []) (rest := []) ⟨hx, hb, hml, hown, hts⟩ (c_X3_tellsName l dC dI cB cC cI cJ H.size h1 g0 g1 g2 g3 g4 g5 ) ⟨va_cnB 0 hts gX0_pass_X3_tellsName_n35 rfl rfl rfl (hG.nm (A := #[]) (w := .methodLinkNest RX0 35 yX3_tellsName "MappingDesk") (by decide +kernel)) (hts (.initialized RX3) (by decide +kernel)) (by decide +kernel) ⟨(Nat.le_of_ble_eq_true rfl), (Nat.le_of_ble_eq_true rfl)⟩, hts (.instanceMethod yX3_tellsName) (by decide +kernel), hts (.selects RX3 yX3_tellsName yX3_tellsName) (by decide +kernel)⟩ ⟨cP_blind, va_recv hG.1 hPc (ci := 3) (q0 := 0) rfl rfl, cP_pre hPc hG hDc⟩ rfl rfl hl.1 rfl (lv_room (Nat.le_of_ble_eq_true rfl)) dX0_pass_40 ⟨Nat.le_of_ble_eq_true rfl, Nat.le_of_ble_eq_true rfl⟩)) (fun r_5 hr_5 => ?_)
    rw [bnd_eq hr_5.symm] at hR
    refine lv_if_eq (tgt := 54) hx hb dX0_pass_43 (by decide) (fun c_6 => ?_) (fun c_6 => ?_)
    · rw [if_pos c_6] at hR
      subst hR
      exact W.vret hx hb hr (fun t ht hW => ⟨⟨(), rfl, trivial, by rw [ht]; exact hP, hD⟩, hS.F ht⟩) hS.2.2 dX0_pass_54
    · rw [if_neg c_6] at hR
      refine lv_aload_n hx hb dX0_pass_46 rfl (lv_at hl 0 rfl) ?_
      refine lv_aload_n hx hb dX0_pass_47 rfl (lv_at hl 1 rfl) ?_
      refine va_getN (D := (dC, dI)) (ci := 3) (v := .int g5) (C := RX3) (T := TX3) (N := 6) hx hb hts inc_X0_pass_3 hown hG.1 hP 1 rfl rfl 5 (by decide) (hG.nf (a := RX0) (i := 38) (b := "MappingDesk$Segment") (n := "name") (d := "I") (t := "MappingDesk") (by decide +kernel)) (fun _ h9 => h9) rfl dX0_pass_48 ?_
      refine va_put (D := (dC, dI)) (ci := 0) (v := .int g5) (ty := .int) (C := RX0) (T := TX0) (N := 5) hx hb hts inc_X0_pass_0 tyX0 tyX0_ok nmX0 hown hG.1 hP hD hS 0 rfl rfl 4 (by decide) (hts (.fieldLink RX0 22 "MappingDesk$Ahead" "name" "I") (by decide +kernel)) (fun _ h9 => h9) rfl (by decide +kernel) rfl rfl (Nat.le_of_ble_eq_true rfl) dX0_pass_51 (fun H locs hP hD hS => ?_)
      have hP : va_P (dC, dI) vwCl [(h0, .inr (0, [.int g1, .int g2, .int g3, .int g4, .int g5])), (h1, .inr (3, [.int g0, .int g1, .int g2, .int g3, .int g4, .int g5]))] H := hP
      have hD : va_D A [(h0, .inr (0, [.int g1, .int g2, .int g3, .int g4, .int g5])), (h1, .inr (3, [.int g0, .int g1, .int g2, .int g3, .int g4, .int g5]))] := hD
      subst hR
      exact W.vret hx hb hr (fun t ht hW => ⟨⟨(), rfl, trivial, by rw [ht]; exact hP, hD⟩, hS.F ht⟩) hS.2.2 dX0_pass_54

def fX1_forget (n0 n1 : Int32) (n2 : Int64) (n3 n4 : Int32) : Int32 :=
  0
theorem inc_X1_forget_1 : ∀ w ∈ u_ws RX1 TX1 5, w ∈ wsX1_forget := by decide +kernel
set_option maxHeartbeats 4000000 in
set_option maxRecDepth 100000 in
theorem c_X1_forget (l : Launch) (dC : Nat → ClassId) (dI : Nat → Nat → Nat) (cB cC cI cJ : ClassId) (sz : Nat) (h0 : Nat) (n0 n1 : Int32) (n2 : Int64) (n3 n4 : Int32) : Met l yX1_forget wsX1_forget ({ frames := 0, cells := 0, slots := 0, locals := 0 } : Room) (cP dC dI cB cC cI cJ [.ref h0] sz [(h0, .inr (1, [.int n0, .int n1, .long n2, .int n3, .int n4]))]) (va_Qv (fun _ => True) (cE dC dI (va_A [(h0, .inr (1, [.int n0, .int n1, .long n2, .int n3, .int n4]))] sz) [(h0, .inr (1, [.int (fX1_forget n0 n1 n2 n3 n4), .int n1, .long n2, .int n3, .int n4]))]) (va_A [(h0, .inr (1, [.int n0, .int n1, .long n2, .int n3, .int n4]))] sz)) 0 0 (va_A [(h0, .inr (1, [.int n0, .int n1, .long n2, .int n3, .int n4]))] sz) := by
  refine Met.ofW (cc := cX1_forget) (maxL := 1) (ret := none) (by decide) rfl ?_
  intro p e s m args below meth c s₁ B hml hv
  obtain ⟨rfl, hsz, hP, hG, hD0⟩ := hv
  have hx := B.exec
  have hb := B.bytes
  have hr := B.returns
  have hts := atoms_spec (ws := wsX1_forget) B.pre
  have hown : s.vm.findClass RX1 = some m.cls := findClass_of_methodNamed B.named
  have hlocks := B.notSynchronized
  subst hsz
  have hD := hD0.self (sz := s.heap.size)
  generalize hAe : va_A [(h0, .inr (1, [.int n0, .int n1, .long n2, .int n3, .int n4]))] s.heap.size = A at hD ⊢
  have hA : ∀ q : Nat, s.heap.size ≤ q → A q := fun q h => by rw [← hAe]; exact Or.inr h
  obtain ⟨H, hH⟩ : ∃ H : Heap, H = s.heap := ⟨_, rfl⟩
  have hS : va_S A s.heap H [] := by rw [hH]; exact va_S.rf
  rw [← hH] at hP ⊢
  generalize hR : fX1_forget n0 n1 n2 n3 n4 = R
  unfold fX1_forget at hR
  have hl := lv_entry ([.ref h0]) (n := 1) (Nat.le_of_ble_eq_true rfl)
  rw [lg_entry_eq]
  generalize (lg_sl ([.ref h0]) ++ List.replicate (1 - (lg_sl ([.ref h0])).length) Slot.unset).toArray = ls at hl ⊢
  have hl : lv_has ls 1 [(0, .ref h0)] := hl
  refine lv_aload_n hx hb dX1_forget_0 rfl (lv_at hl 0 rfl) ?_
  refine lv_iconst (v := 0) hx hb dX1_forget_1 (by decide) ?_
  refine va_put (D := (dC, dI)) (ci := 1) (v := .int 0) (ty := .boolean) (C := RX1) (T := TX1) (N := 5) hx hb hts inc_X1_forget_1 tyX1 tyX1_ok nmX1 hown hG.1 hP hD hS 0 rfl rfl 0 (by decide) (hts (.fieldLink RX1 9 "MappingDesk$NumberTaker" "isOpen" "Z") (by decide +kernel)) (fun _ h9 => h9) rfl (by decide +kernel) rfl rfl (Nat.le_of_ble_eq_true rfl) dX1_forget_2 (fun H locs hP hD hS => ?_)
  have hP : va_P (dC, dI) vwCl [(h0, .inr (1, [.int 0, .int n1, .long n2, .int n3, .int n4]))] H := hP
  have hD : va_D A [(h0, .inr (1, [.int 0, .int n1, .long n2, .int n3, .int n4]))] := hD
  subst hR
  exact W.vret hx hb hr (fun t ht hW => ⟨⟨(), rfl, trivial, by rw [ht]; exact hP, hD⟩, hS.F ht⟩) hS.2.2 dX1_forget_5

def fX1_take (n0 n1 : Int32) (n2 : Int64) (n3 n4 : Int32) (x y : Int32) : Int32 × Int32 × Int64 × Int32 × Int32 :=
  if n0 = 0 then
    if x < 32 then
      (0, y, (0 ||| (((((x &&& 31) : Int32).toInt64) : Int64) <<< ((0 : Int32).toInt64 &&& 63))), (0 + 5), 0)
    else
      (1, y, (0 ||| (((((x &&& 31) : Int32).toInt64) : Int64) <<< ((0 : Int32).toInt64 &&& 63))), (0 + 5), 0)
  else
    if 30 < n3 then
      if (x &&& 31) = 0 then
        if x < 32 then
          (0, n1, n2, n3, n4)
        else
          (1, n1, n2, n3, n4)
      else
        if x < 32 then
          (0, n1, n2, n3, 1)
        else
          (1, n1, n2, n3, 1)
    else
      if x < 32 then
        (0, n1, (n2 ||| (((((x &&& 31) : Int32).toInt64) : Int64) <<< ((n3 : Int32).toInt64 &&& 63))), (n3 + 5), n4)
      else
        (1, n1, (n2 ||| (((((x &&& 31) : Int32).toInt64) : Int64) <<< ((n3 : Int32).toInt64 &&& 63))), (n3 + 5), n4)
theorem inc_X1_take_1 : ∀ w ∈ u_ws RX1 TX1 5, w ∈ wsX1_take := by decide +kernel
set_option maxHeartbeats 4000000 in
set_option maxRecDepth 100000 in
theorem c_X1_take (l : Launch) (dC : Nat → ClassId) (dI : Nat → Nat → Nat) (cB cC cI cJ : ClassId) (sz : Nat) (h0 : Nat) (n0 n1 : Int32) (n2 : Int64) (n3 n4 : Int32) (x y : Int32) : Met l yX1_take wsX1_take ({ frames := 0, cells := 0, slots := 0, locals := 0 } : Room) (cP dC dI cB cC cI cJ [.ref h0, .int x, .int y] sz [(h0, .inr (1, [.int n0, .int n1, .long n2, .int n3, .int n4]))]) (va_Qv (fun _ => True) (cE dC dI (va_A [(h0, .inr (1, [.int n0, .int n1, .long n2, .int n3, .int n4]))] sz) [(h0, .inr (1, [.int (fX1_take n0 n1 n2 n3 n4 x y).1, .int (fX1_take n0 n1 n2 n3 n4 x y).2.1, .long (fX1_take n0 n1 n2 n3 n4 x y).2.2.1, .int (fX1_take n0 n1 n2 n3 n4 x y).2.2.2.1, .int (fX1_take n0 n1 n2 n3 n4 x y).2.2.2.2]))]) (va_A [(h0, .inr (1, [.int n0, .int n1, .long n2, .int n3, .int n4]))] sz)) 0 0 (va_A [(h0, .inr (1, [.int n0, .int n1, .long n2, .int n3, .int n4]))] sz) := by
  refine Met.ofW (cc := cX1_take) (maxL := 4) (ret := none) (by decide) rfl ?_
  intro p e s m args below meth c s₁ B hml hv
  obtain ⟨rfl, hsz, hP, hG, hD0⟩ := hv
  have hx := B.exec
  have hb := B.bytes
  have hr := B.returns
  have hts := atoms_spec (ws := wsX1_take) B.pre
  have hown : s.vm.findClass RX1 = some m.cls := findClass_of_methodNamed B.named
  have hlocks := B.notSynchronized
  subst hsz
  have hD := hD0.self (sz := s.heap.size)
  generalize hAe : va_A [(h0, .inr (1, [.int n0, .int n1, .long n2, .int n3, .int n4]))] s.heap.size = A at hD ⊢
  have hA : ∀ q : Nat, s.heap.size ≤ q → A q := fun q h => by rw [← hAe]; exact Or.inr h
  obtain ⟨H, hH⟩ : ∃ H : Heap, H = s.heap := ⟨_, rfl⟩
  have hS : va_S A s.heap H [] := by rw [hH]; exact va_S.rf
  rw [← hH] at hP ⊢
  generalize hR : fX1_take n0 n1 n2 n3 n4 x y = R
  unfold fX1_take at hR
  have hl := lv_entry ([.ref h0, .int x, .int y]) (n := 4) (Nat.le_of_ble_eq_true rfl)
  rw [lg_entry_eq]
  generalize (lg_sl ([.ref h0, .int x, .int y]) ++ List.replicate (4 - (lg_sl ([.ref h0, .int x, .int y])).length) Slot.unset).toArray = ls at hl ⊢
  have hl : lv_has ls 4 [(0, .ref h0), (1, .int x), (2, .int y)] := hl
  refine lv_aload_n hx hb dX1_take_0 rfl (lv_at hl 0 rfl) ?_
  refine va_get (D := (dC, dI)) (ci := 1) (v := .int n0) (C := RX1) (T := TX1) (N := 5) hx hb hts inc_X1_take_1 hown hG.1 hP 0 rfl rfl 0 (by decide) (hts (.fieldLink RX1 9 "MappingDesk$NumberTaker" "isOpen" "Z") (by decide +kernel)) (fun _ h9 => h9) rfl dX1_take_1 ?_
  refine lv_if_ne (tgt := 27) hx hb dX1_take_4 (by decide) (fun c_1 => ?_) (fun c_1 => ?_)
  · rw [if_neg c_1] at hR
    refine lv_iload_n hx hb dX1_take_27 rfl (lv_at hl 1 rfl) ?_
    refine lv_bipush (v := 31) hx hb dX1_take_28 (by decide) ?_
    refine lv_iand hx hb dX1_take_30 ?_
    refine lv_istore_n (lv' := [(3, .int (x &&& 31)), (0, .ref h0), (1, .int x), (2, .int y)]) hx hb dX1_take_31 rfl hl (by decide) rfl (fun ls hl => ?_)
    refine lv_aload_n hx hb dX1_take_32 rfl (lv_at hl 1 rfl) ?_
    refine va_get (D := (dC, dI)) (ci := 1) (v := .int n3) (C := RX1) (T := TX1) (N := 5) hx hb hts inc_X1_take_1 hown hG.1 hP 0 rfl rfl 3 (by decide) (hts (.fieldLink RX1 23 "MappingDesk$NumberTaker" "shift" "I") (by decide +kernel)) (fun _ h9 => h9) rfl dX1_take_33 ?_
    refine lv_bipush (v := 30) hx hb dX1_take_36 (by decide) ?_
    refine lv_icmp_gt (tgt := 70) hx hb dX1_take_38 (by decide) (fun c_2 => ?_) (fun c_2 => ?_)
    · rw [if_pos c_2] at hR
      refine lv_iload_n hx hb dX1_take_70 rfl (lv_at hl 0 rfl) ?_
      refine lv_if_eq (tgt := 79) hx hb dX1_take_71 (by decide) (fun c_3 => ?_) (fun c_3 => ?_)
      · rw [if_pos c_3] at hR
        refine lv_aload_n hx hb dX1_take_79 rfl (lv_at hl 1 rfl) ?_
        refine lv_iload_n hx hb dX1_take_80 rfl (lv_at hl 2 rfl) ?_
        refine lv_bipush (v := 32) hx hb dX1_take_81 (by decide) ?_
        refine lv_icmp_lt (tgt := 90) hx hb dX1_take_83 (by decide) (fun c_4 => ?_) (fun c_4 => ?_)
        · rw [if_pos c_4] at hR
          refine lv_iconst (v := 0) hx hb dX1_take_90 (by decide) ?_
          refine va_put (D := (dC, dI)) (ci := 1) (v := .int 0) (ty := .boolean) (C := RX1) (T := TX1) (N := 5) hx hb hts inc_X1_take_1 tyX1 tyX1_ok nmX1 hown hG.1 hP hD hS 0 rfl rfl 0 (by decide) (hts (.fieldLink RX1 9 "MappingDesk$NumberTaker" "isOpen" "Z") (by decide +kernel)) (fun _ h9 => h9) rfl (by decide +kernel) rfl rfl (Nat.le_of_ble_eq_true rfl) dX1_take_91 (fun H locs hP hD hS => ?_)
          have hP : va_P (dC, dI) vwCl [(h0, .inr (1, [.int 0, .int n1, .long n2, .int n3, .int n4]))] H := hP
          have hD : va_D A [(h0, .inr (1, [.int 0, .int n1, .long n2, .int n3, .int n4]))] := hD
          subst hR
          exact W.vret hx hb hr (fun t ht hW => ⟨⟨(), rfl, trivial, by rw [ht]; exact hP, hD⟩, hS.F ht⟩) hS.2.2 dX1_take_94
        · rw [if_neg c_4] at hR
          refine lv_iconst (v := 1) hx hb dX1_take_86 (by decide) ?_
          refine lv_goto (tgt := 91) hx hb dX1_take_87 (by decide) ?_
          refine va_put (D := (dC, dI)) (ci := 1) (v := .int 1) (ty := .boolean) (C := RX1) (T := TX1) (N := 5) hx hb hts inc_X1_take_1 tyX1 tyX1_ok nmX1 hown hG.1 hP hD hS 0 rfl rfl 0 (by decide) (hts (.fieldLink RX1 9 "MappingDesk$NumberTaker" "isOpen" "Z") (by decide +kernel)) (fun _ h9 => h9) rfl (by decide +kernel) rfl rfl (Nat.le_of_ble_eq_true rfl) dX1_take_91 (fun H locs hP hD hS => ?_)
          have hP : va_P (dC, dI) vwCl [(h0, .inr (1, [.int 1, .int n1, .long n2, .int n3, .int n4]))] H := hP
          have hD : va_D A [(h0, .inr (1, [.int 1, .int n1, .long n2, .int n3, .int n4]))] := hD
          subst hR
          exact W.vret hx hb hr (fun t ht hW => ⟨⟨(), rfl, trivial, by rw [ht]; exact hP, hD⟩, hS.F ht⟩) hS.2.2 dX1_take_94
      · rw [if_neg c_3] at hR
        refine lv_aload_n hx hb dX1_take_74 rfl (lv_at hl 1 rfl) ?_
        refine lv_iconst (v := 1) hx hb dX1_take_75 (by decide) ?_
        refine va_put (D := (dC, dI)) (ci := 1) (v := .int 1) (ty := .boolean) (C := RX1) (T := TX1) (N := 5) hx hb hts inc_X1_take_1 tyX1 tyX1_ok nmX1 hown hG.1 hP hD hS 0 rfl rfl 4 (by decide) (hts (.fieldLink RX1 26 "MappingDesk$NumberTaker" "isTooLong" "Z") (by decide +kernel)) (fun _ h9 => h9) rfl (by decide +kernel) rfl rfl (Nat.le_of_ble_eq_true rfl) dX1_take_76 (fun H locs hP hD hS => ?_)
        have hP : va_P (dC, dI) vwCl [(h0, .inr (1, [.int n0, .int n1, .long n2, .int n3, .int 1]))] H := hP
        have hD : va_D A [(h0, .inr (1, [.int n0, .int n1, .long n2, .int n3, .int 1]))] := hD
        refine lv_aload_n hx hb dX1_take_79 rfl (lv_at hl 1 rfl) ?_
        refine lv_iload_n hx hb dX1_take_80 rfl (lv_at hl 2 rfl) ?_
        refine lv_bipush (v := 32) hx hb dX1_take_81 (by decide) ?_
        refine lv_icmp_lt (tgt := 90) hx hb dX1_take_83 (by decide) (fun c_5 => ?_) (fun c_5 => ?_)
        · rw [if_pos c_5] at hR
          refine lv_iconst (v := 0) hx hb dX1_take_90 (by decide) ?_
          refine va_put (D := (dC, dI)) (ci := 1) (v := .int 0) (ty := .boolean) (C := RX1) (T := TX1) (N := 5) hx hb hts inc_X1_take_1 tyX1 tyX1_ok nmX1 hown hG.1 hP hD hS 0 rfl rfl 0 (by decide) (hts (.fieldLink RX1 9 "MappingDesk$NumberTaker" "isOpen" "Z") (by decide +kernel)) (fun _ h9 => h9) rfl (by decide +kernel) rfl rfl (Nat.le_of_ble_eq_true rfl) dX1_take_91 (fun H locs hP hD hS => ?_)
          have hP : va_P (dC, dI) vwCl [(h0, .inr (1, [.int 0, .int n1, .long n2, .int n3, .int 1]))] H := hP
          have hD : va_D A [(h0, .inr (1, [.int 0, .int n1, .long n2, .int n3, .int 1]))] := hD
          subst hR
          exact W.vret hx hb hr (fun t ht hW => ⟨⟨(), rfl, trivial, by rw [ht]; exact hP, hD⟩, hS.F ht⟩) hS.2.2 dX1_take_94
        · rw [if_neg c_5] at hR
          refine lv_iconst (v := 1) hx hb dX1_take_86 (by decide) ?_
          refine lv_goto (tgt := 91) hx hb dX1_take_87 (by decide) ?_
          refine va_put (D := (dC, dI)) (ci := 1) (v := .int 1) (ty := .boolean) (C := RX1) (T := TX1) (N := 5) hx hb hts inc_X1_take_1 tyX1 tyX1_ok nmX1 hown hG.1 hP hD hS 0 rfl rfl 0 (by decide) (hts (.fieldLink RX1 9 "MappingDesk$NumberTaker" "isOpen" "Z") (by decide +kernel)) (fun _ h9 => h9) rfl (by decide +kernel) rfl rfl (Nat.le_of_ble_eq_true rfl) dX1_take_91 (fun H locs hP hD hS => ?_)
          have hP : va_P (dC, dI) vwCl [(h0, .inr (1, [.int 1, .int n1, .long n2, .int n3, .int 1]))] H := hP
          have hD : va_D A [(h0, .inr (1, [.int 1, .int n1, .long n2, .int n3, .int 1]))] := hD
          subst hR
          exact W.vret hx hb hr (fun t ht hW => ⟨⟨(), rfl, trivial, by rw [ht]; exact hP, hD⟩, hS.F ht⟩) hS.2.2 dX1_take_94
    · rw [if_neg c_2] at hR
      refine lv_aload_n hx hb dX1_take_41 rfl (lv_at hl 1 rfl) ?_
      refine lv_dup hx hb dX1_take_42 rfl ?_
      refine va_get (D := (dC, dI)) (ci := 1) (v := .long n2) (C := RX1) (T := TX1) (N := 5) hx hb hts inc_X1_take_1 hown hG.1 hP 0 rfl rfl 2 (by decide) (hts (.fieldLink RX1 19 "MappingDesk$NumberTaker" "bits" "J") (by decide +kernel)) (fun _ h9 => h9) rfl dX1_take_43 ?_
      refine lv_iload_n hx hb dX1_take_46 rfl (lv_at hl 0 rfl) ?_
      refine lv_i2l hx hb dX1_take_47 rfl ?_
      refine lv_aload_n hx hb dX1_take_48 rfl (lv_at hl 1 rfl) ?_
      refine va_get (D := (dC, dI)) (ci := 1) (v := .int n3) (C := RX1) (T := TX1) (N := 5) hx hb hts inc_X1_take_1 hown hG.1 hP 0 rfl rfl 3 (by decide) (hts (.fieldLink RX1 23 "MappingDesk$NumberTaker" "shift" "I") (by decide +kernel)) (fun _ h9 => h9) rfl dX1_take_49 ?_
      refine lv_lshl hx hb dX1_take_52 rfl ?_
      refine lv_lor hx hb dX1_take_53 ?_
      refine va_put (D := (dC, dI)) (ci := 1) (v := .long (n2 ||| (((((x &&& 31) : Int32).toInt64) : Int64) <<< ((n3 : Int32).toInt64 &&& 63)))) (ty := .long) (C := RX1) (T := TX1) (N := 5) hx hb hts inc_X1_take_1 tyX1 tyX1_ok nmX1 hown hG.1 hP hD hS 0 rfl rfl 2 (by decide) (hts (.fieldLink RX1 19 "MappingDesk$NumberTaker" "bits" "J") (by decide +kernel)) (fun _ h9 => h9) rfl (by decide +kernel) rfl rfl (Nat.le_of_ble_eq_true rfl) dX1_take_54 (fun H locs hP hD hS => ?_)
      have hP : va_P (dC, dI) vwCl [(h0, .inr (1, [.int n0, .int n1, .long (n2 ||| (((((x &&& 31) : Int32).toInt64) : Int64) <<< ((n3 : Int32).toInt64 &&& 63))), .int n3, .int n4]))] H := hP
      have hD : va_D A [(h0, .inr (1, [.int n0, .int n1, .long (n2 ||| (((((x &&& 31) : Int32).toInt64) : Int64) <<< ((n3 : Int32).toInt64 &&& 63))), .int n3, .int n4]))] := hD
      refine lv_aload_n hx hb dX1_take_57 rfl (lv_at hl 1 rfl) ?_
      refine lv_dup hx hb dX1_take_58 rfl ?_
      refine va_get (D := (dC, dI)) (ci := 1) (v := .int n3) (C := RX1) (T := TX1) (N := 5) hx hb hts inc_X1_take_1 hown hG.1 hP 0 rfl rfl 3 (by decide) (hts (.fieldLink RX1 23 "MappingDesk$NumberTaker" "shift" "I") (by decide +kernel)) (fun _ h9 => h9) rfl dX1_take_59 ?_
      refine lv_iconst (v := 5) hx hb dX1_take_62 (by decide) ?_
      refine lv_iadd hx hb dX1_take_63 ?_
      refine va_put (D := (dC, dI)) (ci := 1) (v := .int (n3 + 5)) (ty := .int) (C := RX1) (T := TX1) (N := 5) hx hb hts inc_X1_take_1 tyX1 tyX1_ok nmX1 hown hG.1 hP hD hS 0 rfl rfl 3 (by decide) (hts (.fieldLink RX1 23 "MappingDesk$NumberTaker" "shift" "I") (by decide +kernel)) (fun _ h9 => h9) rfl (by decide +kernel) rfl rfl (Nat.le_of_ble_eq_true rfl) dX1_take_64 (fun H locs hP hD hS => ?_)
      have hP : va_P (dC, dI) vwCl [(h0, .inr (1, [.int n0, .int n1, .long (n2 ||| (((((x &&& 31) : Int32).toInt64) : Int64) <<< ((n3 : Int32).toInt64 &&& 63))), .int (n3 + 5), .int n4]))] H := hP
      have hD : va_D A [(h0, .inr (1, [.int n0, .int n1, .long (n2 ||| (((((x &&& 31) : Int32).toInt64) : Int64) <<< ((n3 : Int32).toInt64 &&& 63))), .int (n3 + 5), .int n4]))] := hD
      refine lv_goto (tgt := 79) hx hb dX1_take_67 (by decide) ?_
      refine lv_aload_n hx hb dX1_take_79 rfl (lv_at hl 1 rfl) ?_
      refine lv_iload_n hx hb dX1_take_80 rfl (lv_at hl 2 rfl) ?_
      refine lv_bipush (v := 32) hx hb dX1_take_81 (by decide) ?_
      refine lv_icmp_lt (tgt := 90) hx hb dX1_take_83 (by decide) (fun c_6 => ?_) (fun c_6 => ?_)
      · rw [if_pos c_6] at hR
        refine lv_iconst (v := 0) hx hb dX1_take_90 (by decide) ?_
        refine va_put (D := (dC, dI)) (ci := 1) (v := .int 0) (ty := .boolean) (C := RX1) (T := TX1) (N := 5) hx hb hts inc_X1_take_1 tyX1 tyX1_ok nmX1 hown hG.1 hP hD hS 0 rfl rfl 0 (by decide) (hts (.fieldLink RX1 9 "MappingDesk$NumberTaker" "isOpen" "Z") (by decide +kernel)) (fun _ h9 => h9) rfl (by decide +kernel) rfl rfl (Nat.le_of_ble_eq_true rfl) dX1_take_91 (fun H locs hP hD hS => ?_)
        have hP : va_P (dC, dI) vwCl [(h0, .inr (1, [.int 0, .int n1, .long (n2 ||| (((((x &&& 31) : Int32).toInt64) : Int64) <<< ((n3 : Int32).toInt64 &&& 63))), .int (n3 + 5), .int n4]))] H := hP
        have hD : va_D A [(h0, .inr (1, [.int 0, .int n1, .long (n2 ||| (((((x &&& 31) : Int32).toInt64) : Int64) <<< ((n3 : Int32).toInt64 &&& 63))), .int (n3 + 5), .int n4]))] := hD
        subst hR
        exact W.vret hx hb hr (fun t ht hW => ⟨⟨(), rfl, trivial, by rw [ht]; exact hP, hD⟩, hS.F ht⟩) hS.2.2 dX1_take_94
      · rw [if_neg c_6] at hR
        refine lv_iconst (v := 1) hx hb dX1_take_86 (by decide) ?_
        refine lv_goto (tgt := 91) hx hb dX1_take_87 (by decide) ?_
        refine va_put (D := (dC, dI)) (ci := 1) (v := .int 1) (ty := .boolean) (C := RX1) (T := TX1) (N := 5) hx hb hts inc_X1_take_1 tyX1 tyX1_ok nmX1 hown hG.1 hP hD hS 0 rfl rfl 0 (by decide) (hts (.fieldLink RX1 9 "MappingDesk$NumberTaker" "isOpen" "Z") (by decide +kernel)) (fun _ h9 => h9) rfl (by decide +kernel) rfl rfl (Nat.le_of_ble_eq_true rfl) dX1_take_91 (fun H locs hP hD hS => ?_)
        have hP : va_P (dC, dI) vwCl [(h0, .inr (1, [.int 1, .int n1, .long (n2 ||| (((((x &&& 31) : Int32).toInt64) : Int64) <<< ((n3 : Int32).toInt64 &&& 63))), .int (n3 + 5), .int n4]))] H := hP
        have hD : va_D A [(h0, .inr (1, [.int 1, .int n1, .long (n2 ||| (((((x &&& 31) : Int32).toInt64) : Int64) <<< ((n3 : Int32).toInt64 &&& 63))), .int (n3 + 5), .int n4]))] := hD
        subst hR
        exact W.vret hx hb hr (fun t ht hW => ⟨⟨(), rfl, trivial, by rw [ht]; exact hP, hD⟩, hS.F ht⟩) hS.2.2 dX1_take_94
  · rw [if_pos c_1] at hR
    refine lv_aload_n hx hb dX1_take_7 rfl (lv_at hl 0 rfl) ?_
    refine lv_iload_n hx hb dX1_take_8 rfl (lv_at hl 2 rfl) ?_
    refine va_put (D := (dC, dI)) (ci := 1) (v := .int y) (ty := .int) (C := RX1) (T := TX1) (N := 5) hx hb hts inc_X1_take_1 tyX1 tyX1_ok nmX1 hown hG.1 hP hD hS 0 rfl rfl 1 (by decide) (hts (.fieldLink RX1 15 "MappingDesk$NumberTaker" "start" "I") (by decide +kernel)) (fun _ h9 => h9) rfl (by decide +kernel) rfl rfl (Nat.le_of_ble_eq_true rfl) dX1_take_9 (fun H locs hP hD hS => ?_)
    have hP : va_P (dC, dI) vwCl [(h0, .inr (1, [.int n0, .int y, .long n2, .int n3, .int n4]))] H := hP
    have hD : va_D A [(h0, .inr (1, [.int n0, .int y, .long n2, .int n3, .int n4]))] := hD
    refine lv_aload_n hx hb dX1_take_12 rfl (lv_at hl 0 rfl) ?_
    refine lv_lconst (v := 0) hx hb dX1_take_13 (by decide) ?_
    refine va_put (D := (dC, dI)) (ci := 1) (v := .long 0) (ty := .long) (C := RX1) (T := TX1) (N := 5) hx hb hts inc_X1_take_1 tyX1 tyX1_ok nmX1 hown hG.1 hP hD hS 0 rfl rfl 2 (by decide) (hts (.fieldLink RX1 19 "MappingDesk$NumberTaker" "bits" "J") (by decide +kernel)) (fun _ h9 => h9) rfl (by decide +kernel) rfl rfl (Nat.le_of_ble_eq_true rfl) dX1_take_14 (fun H locs hP hD hS => ?_)
    have hP : va_P (dC, dI) vwCl [(h0, .inr (1, [.int n0, .int y, .long 0, .int n3, .int n4]))] H := hP
    have hD : va_D A [(h0, .inr (1, [.int n0, .int y, .long 0, .int n3, .int n4]))] := hD
    refine lv_aload_n hx hb dX1_take_17 rfl (lv_at hl 0 rfl) ?_
    refine lv_iconst (v := 0) hx hb dX1_take_18 (by decide) ?_
    refine va_put (D := (dC, dI)) (ci := 1) (v := .int 0) (ty := .int) (C := RX1) (T := TX1) (N := 5) hx hb hts inc_X1_take_1 tyX1 tyX1_ok nmX1 hown hG.1 hP hD hS 0 rfl rfl 3 (by decide) (hts (.fieldLink RX1 23 "MappingDesk$NumberTaker" "shift" "I") (by decide +kernel)) (fun _ h9 => h9) rfl (by decide +kernel) rfl rfl (Nat.le_of_ble_eq_true rfl) dX1_take_19 (fun H locs hP hD hS => ?_)
    have hP : va_P (dC, dI) vwCl [(h0, .inr (1, [.int n0, .int y, .long 0, .int 0, .int n4]))] H := hP
    have hD : va_D A [(h0, .inr (1, [.int n0, .int y, .long 0, .int 0, .int n4]))] := hD
    refine lv_aload_n hx hb dX1_take_22 rfl (lv_at hl 0 rfl) ?_
    refine lv_iconst (v := 0) hx hb dX1_take_23 (by decide) ?_
    refine va_put (D := (dC, dI)) (ci := 1) (v := .int 0) (ty := .boolean) (C := RX1) (T := TX1) (N := 5) hx hb hts inc_X1_take_1 tyX1 tyX1_ok nmX1 hown hG.1 hP hD hS 0 rfl rfl 4 (by decide) (hts (.fieldLink RX1 26 "MappingDesk$NumberTaker" "isTooLong" "Z") (by decide +kernel)) (fun _ h9 => h9) rfl (by decide +kernel) rfl rfl (Nat.le_of_ble_eq_true rfl) dX1_take_24 (fun H locs hP hD hS => ?_)
    have hP : va_P (dC, dI) vwCl [(h0, .inr (1, [.int n0, .int y, .long 0, .int 0, .int 0]))] H := hP
    have hD : va_D A [(h0, .inr (1, [.int n0, .int y, .long 0, .int 0, .int 0]))] := hD
    refine lv_iload_n hx hb dX1_take_27 rfl (lv_at hl 1 rfl) ?_
    refine lv_bipush (v := 31) hx hb dX1_take_28 (by decide) ?_
    refine lv_iand hx hb dX1_take_30 ?_
    refine lv_istore_n (lv' := [(3, .int (x &&& 31)), (0, .ref h0), (1, .int x), (2, .int y)]) hx hb dX1_take_31 rfl hl (by decide) rfl (fun ls hl => ?_)
    refine lv_aload_n hx hb dX1_take_32 rfl (lv_at hl 1 rfl) ?_
    refine va_get (D := (dC, dI)) (ci := 1) (v := .int 0) (C := RX1) (T := TX1) (N := 5) hx hb hts inc_X1_take_1 hown hG.1 hP 0 rfl rfl 3 (by decide) (hts (.fieldLink RX1 23 "MappingDesk$NumberTaker" "shift" "I") (by decide +kernel)) (fun _ h9 => h9) rfl dX1_take_33 ?_
    refine lv_bipush (v := 30) hx hb dX1_take_36 (by decide) ?_
    refine lv_icmp_gt (tgt := 70) hx hb dX1_take_38 (by decide) (fun c_7 => ?_) (fun c_7 => ?_)
    · exact absurd c_7 (by decide)
    · refine lv_aload_n hx hb dX1_take_41 rfl (lv_at hl 1 rfl) ?_
      refine lv_dup hx hb dX1_take_42 rfl ?_
      refine va_get (D := (dC, dI)) (ci := 1) (v := .long 0) (C := RX1) (T := TX1) (N := 5) hx hb hts inc_X1_take_1 hown hG.1 hP 0 rfl rfl 2 (by decide) (hts (.fieldLink RX1 19 "MappingDesk$NumberTaker" "bits" "J") (by decide +kernel)) (fun _ h9 => h9) rfl dX1_take_43 ?_
      refine lv_iload_n hx hb dX1_take_46 rfl (lv_at hl 0 rfl) ?_
      refine lv_i2l hx hb dX1_take_47 rfl ?_
      refine lv_aload_n hx hb dX1_take_48 rfl (lv_at hl 1 rfl) ?_
      refine va_get (D := (dC, dI)) (ci := 1) (v := .int 0) (C := RX1) (T := TX1) (N := 5) hx hb hts inc_X1_take_1 hown hG.1 hP 0 rfl rfl 3 (by decide) (hts (.fieldLink RX1 23 "MappingDesk$NumberTaker" "shift" "I") (by decide +kernel)) (fun _ h9 => h9) rfl dX1_take_49 ?_
      refine lv_lshl hx hb dX1_take_52 rfl ?_
      refine lv_lor hx hb dX1_take_53 ?_
      refine va_put (D := (dC, dI)) (ci := 1) (v := .long (0 ||| (((((x &&& 31) : Int32).toInt64) : Int64) <<< ((0 : Int32).toInt64 &&& 63)))) (ty := .long) (C := RX1) (T := TX1) (N := 5) hx hb hts inc_X1_take_1 tyX1 tyX1_ok nmX1 hown hG.1 hP hD hS 0 rfl rfl 2 (by decide) (hts (.fieldLink RX1 19 "MappingDesk$NumberTaker" "bits" "J") (by decide +kernel)) (fun _ h9 => h9) rfl (by decide +kernel) rfl rfl (Nat.le_of_ble_eq_true rfl) dX1_take_54 (fun H locs hP hD hS => ?_)
      have hP : va_P (dC, dI) vwCl [(h0, .inr (1, [.int n0, .int y, .long (0 ||| (((((x &&& 31) : Int32).toInt64) : Int64) <<< ((0 : Int32).toInt64 &&& 63))), .int 0, .int 0]))] H := hP
      have hD : va_D A [(h0, .inr (1, [.int n0, .int y, .long (0 ||| (((((x &&& 31) : Int32).toInt64) : Int64) <<< ((0 : Int32).toInt64 &&& 63))), .int 0, .int 0]))] := hD
      refine lv_aload_n hx hb dX1_take_57 rfl (lv_at hl 1 rfl) ?_
      refine lv_dup hx hb dX1_take_58 rfl ?_
      refine va_get (D := (dC, dI)) (ci := 1) (v := .int 0) (C := RX1) (T := TX1) (N := 5) hx hb hts inc_X1_take_1 hown hG.1 hP 0 rfl rfl 3 (by decide) (hts (.fieldLink RX1 23 "MappingDesk$NumberTaker" "shift" "I") (by decide +kernel)) (fun _ h9 => h9) rfl dX1_take_59 ?_
      refine lv_iconst (v := 5) hx hb dX1_take_62 (by decide) ?_
      refine lv_iadd hx hb dX1_take_63 ?_
      refine va_put (D := (dC, dI)) (ci := 1) (v := .int (0 + 5)) (ty := .int) (C := RX1) (T := TX1) (N := 5) hx hb hts inc_X1_take_1 tyX1 tyX1_ok nmX1 hown hG.1 hP hD hS 0 rfl rfl 3 (by decide) (hts (.fieldLink RX1 23 "MappingDesk$NumberTaker" "shift" "I") (by decide +kernel)) (fun _ h9 => h9) rfl (by decide +kernel) rfl rfl (Nat.le_of_ble_eq_true rfl) dX1_take_64 (fun H locs hP hD hS => ?_)
      have hP : va_P (dC, dI) vwCl [(h0, .inr (1, [.int n0, .int y, .long (0 ||| (((((x &&& 31) : Int32).toInt64) : Int64) <<< ((0 : Int32).toInt64 &&& 63))), .int (0 + 5), .int 0]))] H := hP
      have hD : va_D A [(h0, .inr (1, [.int n0, .int y, .long (0 ||| (((((x &&& 31) : Int32).toInt64) : Int64) <<< ((0 : Int32).toInt64 &&& 63))), .int (0 + 5), .int 0]))] := hD
      refine lv_goto (tgt := 79) hx hb dX1_take_67 (by decide) ?_
      refine lv_aload_n hx hb dX1_take_79 rfl (lv_at hl 1 rfl) ?_
      refine lv_iload_n hx hb dX1_take_80 rfl (lv_at hl 2 rfl) ?_
      refine lv_bipush (v := 32) hx hb dX1_take_81 (by decide) ?_
      refine lv_icmp_lt (tgt := 90) hx hb dX1_take_83 (by decide) (fun c_8 => ?_) (fun c_8 => ?_)
      · rw [if_pos c_8] at hR
        refine lv_iconst (v := 0) hx hb dX1_take_90 (by decide) ?_
        refine va_put (D := (dC, dI)) (ci := 1) (v := .int 0) (ty := .boolean) (C := RX1) (T := TX1) (N := 5) hx hb hts inc_X1_take_1 tyX1 tyX1_ok nmX1 hown hG.1 hP hD hS 0 rfl rfl 0 (by decide) (hts (.fieldLink RX1 9 "MappingDesk$NumberTaker" "isOpen" "Z") (by decide +kernel)) (fun _ h9 => h9) rfl (by decide +kernel) rfl rfl (Nat.le_of_ble_eq_true rfl) dX1_take_91 (fun H locs hP hD hS => ?_)
        have hP : va_P (dC, dI) vwCl [(h0, .inr (1, [.int 0, .int y, .long (0 ||| (((((x &&& 31) : Int32).toInt64) : Int64) <<< ((0 : Int32).toInt64 &&& 63))), .int (0 + 5), .int 0]))] H := hP
        have hD : va_D A [(h0, .inr (1, [.int 0, .int y, .long (0 ||| (((((x &&& 31) : Int32).toInt64) : Int64) <<< ((0 : Int32).toInt64 &&& 63))), .int (0 + 5), .int 0]))] := hD
        subst hR
        exact W.vret hx hb hr (fun t ht hW => ⟨⟨(), rfl, trivial, by rw [ht]; exact hP, hD⟩, hS.F ht⟩) hS.2.2 dX1_take_94
      · rw [if_neg c_8] at hR
        refine lv_iconst (v := 1) hx hb dX1_take_86 (by decide) ?_
        refine lv_goto (tgt := 91) hx hb dX1_take_87 (by decide) ?_
        refine va_put (D := (dC, dI)) (ci := 1) (v := .int 1) (ty := .boolean) (C := RX1) (T := TX1) (N := 5) hx hb hts inc_X1_take_1 tyX1 tyX1_ok nmX1 hown hG.1 hP hD hS 0 rfl rfl 0 (by decide) (hts (.fieldLink RX1 9 "MappingDesk$NumberTaker" "isOpen" "Z") (by decide +kernel)) (fun _ h9 => h9) rfl (by decide +kernel) rfl rfl (Nat.le_of_ble_eq_true rfl) dX1_take_91 (fun H locs hP hD hS => ?_)
        have hP : va_P (dC, dI) vwCl [(h0, .inr (1, [.int 1, .int y, .long (0 ||| (((((x &&& 31) : Int32).toInt64) : Int64) <<< ((0 : Int32).toInt64 &&& 63))), .int (0 + 5), .int 0]))] H := hP
        have hD : va_D A [(h0, .inr (1, [.int 1, .int y, .long (0 ||| (((((x &&& 31) : Int32).toInt64) : Int64) <<< ((0 : Int32).toInt64 &&& 63))), .int (0 + 5), .int 0]))] := hD
        subst hR
        exact W.vret hx hb hr (fun t ht hW => ⟨⟨(), rfl, trivial, by rw [ht]; exact hP, hD⟩, hS.F ht⟩) hS.2.2 dX1_take_94

def fX1_isTooLarge (n0 n1 : Int32) (n2 : Int64) (n3 n4 : Int32) : Int32 :=
  if n4 = 0 then
    if (lg_cmp ((n2 : Int64) >>> ((1 : Int32).toInt64 &&& 63)) 2147483647) ≤ 0 then
      0
    else
      1
  else
    1
theorem inc_X1_isTooLarge_1 : ∀ w ∈ u_ws RX1 TX1 5, w ∈ wsX1_isTooLarge := by decide +kernel
set_option maxHeartbeats 4000000 in
set_option maxRecDepth 100000 in
theorem c_X1_isTooLarge (l : Launch) (dC : Nat → ClassId) (dI : Nat → Nat → Nat) (cB cC cI cJ : ClassId) (sz : Nat) (h0 : Nat) (n0 n1 : Int32) (n2 : Int64) (n3 n4 : Int32) : Met l yX1_isTooLarge wsX1_isTooLarge ({ frames := 0, cells := 0, slots := 0, locals := 0 } : Room) (cP dC dI cB cC cI cJ [.ref h0] sz [(h0, .inr (1, [.int n0, .int n1, .long n2, .int n3, .int n4]))]) (vp_Si (fun r => r = (fX1_isTooLarge n0 n1 n2 n3 n4))) 0 0 (fun _ => False) := by
  refine Met.ofW (cc := cX1_isTooLarge) (maxL := 1) (ret := (some .boolean)) (by decide) rfl ?_
  intro p e s m args below meth c s₁ B hml hv
  obtain ⟨rfl, hsz, hP, hG, hD0⟩ := hv
  have hx := B.exec
  have hb := B.bytes
  have hr := B.returns
  have hts := atoms_spec (ws := wsX1_isTooLarge) B.pre
  have hown : s.vm.findClass RX1 = some m.cls := findClass_of_methodNamed B.named
  have hlocks := B.notSynchronized
  subst hsz
  obtain ⟨H, hH⟩ : ∃ H : Heap, H = s.heap := ⟨_, rfl⟩
  rw [← hH] at hP ⊢
  generalize hR : fX1_isTooLarge n0 n1 n2 n3 n4 = R
  unfold fX1_isTooLarge at hR
  have hl := lv_entry ([.ref h0]) (n := 1) (Nat.le_of_ble_eq_true rfl)
  rw [lg_entry_eq]
  generalize (lg_sl ([.ref h0]) ++ List.replicate (1 - (lg_sl ([.ref h0])).length) Slot.unset).toArray = ls at hl ⊢
  have hl : lv_has ls 1 [(0, .ref h0)] := hl
  refine lv_aload_n hx hb dX1_isTooLarge_0 rfl (lv_at hl 0 rfl) ?_
  refine va_get (D := (dC, dI)) (ci := 1) (v := .int n4) (C := RX1) (T := TX1) (N := 5) hx hb hts inc_X1_isTooLarge_1 hown hG.1 hP 0 rfl rfl 4 (by decide) (hts (.fieldLink RX1 26 "MappingDesk$NumberTaker" "isTooLong" "Z") (by decide +kernel)) (fun _ h9 => h9) rfl dX1_isTooLarge_1 ?_
  refine lv_if_ne (tgt := 20) hx hb dX1_isTooLarge_4 (by decide) (fun c_1 => ?_) (fun c_1 => ?_)
  · rw [if_neg c_1] at hR
    refine lv_iconst (v := 1) hx hb dX1_isTooLarge_20 (by decide) ?_
    refine lv_goto (tgt := 25) hx hb dX1_isTooLarge_21 (by decide) ?_
    subst hR
    exact W.zret (v := 1) hx hb hr rfl (fun t ht hW => ⟨1, rfl, rfl, ht.trans hH⟩) t_nil dX1_isTooLarge_25
  · rw [if_pos c_1] at hR
    refine lv_aload_n hx hb dX1_isTooLarge_7 rfl (lv_at hl 0 rfl) ?_
    refine va_get (D := (dC, dI)) (ci := 1) (v := .long n2) (C := RX1) (T := TX1) (N := 5) hx hb hts inc_X1_isTooLarge_1 hown hG.1 hP 0 rfl rfl 2 (by decide) (hts (.fieldLink RX1 19 "MappingDesk$NumberTaker" "bits" "J") (by decide +kernel)) (fun _ h9 => h9) rfl dX1_isTooLarge_8 ?_
    refine lv_iconst (v := 1) hx hb dX1_isTooLarge_11 (by decide) ?_
    refine lv_lshr hx hb dX1_isTooLarge_12 rfl ?_
    refine lv_ldc2 (v := 2147483647) hx hb hown (hts (.constantLong RX1 29 2147483647) (by decide +kernel)) dX1_isTooLarge_13 ?_
    refine W.lcmp hx hb dX1_isTooLarge_16 ?_
    refine lv_if_le (tgt := 24) hx hb dX1_isTooLarge_17 (by decide) (fun c_2 => ?_) (fun c_2 => ?_)
    · rw [if_pos c_2] at hR
      refine lv_iconst (v := 0) hx hb dX1_isTooLarge_24 (by decide) ?_
      subst hR
      exact W.zret (v := 0) hx hb hr rfl (fun t ht hW => ⟨0, rfl, rfl, ht.trans hH⟩) t_nil dX1_isTooLarge_25
    · rw [if_neg c_2] at hR
      refine lv_iconst (v := 1) hx hb dX1_isTooLarge_20 (by decide) ?_
      refine lv_goto (tgt := 25) hx hb dX1_isTooLarge_21 (by decide) ?_
      subst hR
      exact W.zret (v := 1) hx hb hr rfl (fun t ht hW => ⟨1, rfl, rfl, ht.trans hH⟩) t_nil dX1_isTooLarge_25

def fX1_value (n0 n1 : Int32) (n2 : Int64) (n3 n4 : Int32) : Int64 :=
  if (lg_cmp (n2 &&& 1) 0) = 0 then
    ((n2 : Int64) >>> ((1 : Int32).toInt64 &&& 63))
  else
    (-((n2 : Int64) >>> ((1 : Int32).toInt64 &&& 63)))
theorem inc_X1_value_1 : ∀ w ∈ u_ws RX1 TX1 5, w ∈ wsX1_value := by decide +kernel
set_option maxHeartbeats 4000000 in
set_option maxRecDepth 100000 in
theorem c_X1_value (l : Launch) (dC : Nat → ClassId) (dI : Nat → Nat → Nat) (cB cC cI cJ : ClassId) (sz : Nat) (h0 : Nat) (n0 n1 : Int32) (n2 : Int64) (n3 n4 : Int32) : Met l yX1_value wsX1_value ({ frames := 0, cells := 0, slots := 0, locals := 0 } : Room) (cP dC dI cB cC cI cJ [.ref h0] sz [(h0, .inr (1, [.int n0, .int n1, .long n2, .int n3, .int n4]))]) (vp_Sl (fun r => r = (fX1_value n0 n1 n2 n3 n4))) 0 0 (fun _ => False) := by
  refine Met.ofW (cc := cX1_value) (maxL := 3) (ret := (some .long)) (by decide) rfl ?_
  intro p e s m args below meth c s₁ B hml hv
  obtain ⟨rfl, hsz, hP, hG, hD0⟩ := hv
  have hx := B.exec
  have hb := B.bytes
  have hr := B.returns
  have hts := atoms_spec (ws := wsX1_value) B.pre
  have hown : s.vm.findClass RX1 = some m.cls := findClass_of_methodNamed B.named
  have hlocks := B.notSynchronized
  subst hsz
  obtain ⟨H, hH⟩ : ∃ H : Heap, H = s.heap := ⟨_, rfl⟩
  rw [← hH] at hP ⊢
  generalize hR : fX1_value n0 n1 n2 n3 n4 = R
  unfold fX1_value at hR
  have hl := lv_entry ([.ref h0]) (n := 3) (Nat.le_of_ble_eq_true rfl)
  rw [lg_entry_eq]
  generalize (lg_sl ([.ref h0]) ++ List.replicate (3 - (lg_sl ([.ref h0])).length) Slot.unset).toArray = ls at hl ⊢
  have hl : lv_has ls 3 [(0, .ref h0)] := hl
  refine lv_aload_n hx hb dX1_value_0 rfl (lv_at hl 0 rfl) ?_
  refine va_get (D := (dC, dI)) (ci := 1) (v := .long n2) (C := RX1) (T := TX1) (N := 5) hx hb hts inc_X1_value_1 hown hG.1 hP 0 rfl rfl 2 (by decide) (hts (.fieldLink RX1 19 "MappingDesk$NumberTaker" "bits" "J") (by decide +kernel)) (fun _ h9 => h9) rfl dX1_value_1 ?_
  refine lv_iconst (v := 1) hx hb dX1_value_4 (by decide) ?_
  refine lv_lshr hx hb dX1_value_5 rfl ?_
  refine lv_lstore_n (lv' := [(1, .long ((n2 : Int64) >>> ((1 : Int32).toInt64 &&& 63))), (0, .ref h0)]) hx hb dX1_value_6 rfl hl (by decide) rfl (fun ls hl => ?_)
  refine lv_aload_n hx hb dX1_value_7 rfl (lv_at hl 1 rfl) ?_
  refine va_get (D := (dC, dI)) (ci := 1) (v := .long n2) (C := RX1) (T := TX1) (N := 5) hx hb hts inc_X1_value_1 hown hG.1 hP 0 rfl rfl 2 (by decide) (hts (.fieldLink RX1 19 "MappingDesk$NumberTaker" "bits" "J") (by decide +kernel)) (fun _ h9 => h9) rfl dX1_value_8 ?_
  refine lv_lconst (v := 1) hx hb dX1_value_11 (by decide) ?_
  refine lv_land hx hb dX1_value_12 ?_
  refine lv_lconst (v := 0) hx hb dX1_value_13 (by decide) ?_
  refine W.lcmp hx hb dX1_value_14 ?_
  refine lv_if_ne (tgt := 22) hx hb dX1_value_15 (by decide) (fun c_1 => ?_) (fun c_1 => ?_)
  · rw [if_neg c_1] at hR
    refine lv_lload_n hx hb dX1_value_22 rfl (lv_at hl 0 rfl) ?_
    refine lv_lneg hx hb dX1_value_23 ?_
    subst hR
    exact W.lret (v := (-((n2 : Int64) >>> ((1 : Int32).toInt64 &&& 63)))) hx hb hr (fun t ht hW => ⟨(-((n2 : Int64) >>> ((1 : Int32).toInt64 &&& 63))), rfl, rfl, ht.trans hH⟩) t_nil dX1_value_24
  · rw [if_pos c_1] at hR
    refine lv_lload_n hx hb dX1_value_18 rfl (lv_at hl 0 rfl) ?_
    refine lv_goto (tgt := 24) hx hb dX1_value_19 (by decide) ?_
    subst hR
    exact W.lret (v := ((n2 : Int64) >>> ((1 : Int32).toInt64 &&& 63))) hx hb hr (fun t ht hW => ⟨((n2 : Int64) >>> ((1 : Int32).toInt64 &&& 63)), rfl, rfl, ht.trans hH⟩) t_nil dX1_value_24

def fX5_hasRoomForFive (bt : Nat → Int32) (ln : Int32) : Int32 :=
  if 3000 < (ln + 20) then
    0
  else
    1
theorem inc_X5_hasRoomForFive_5 : ∀ w ∈ u_ws RX5 TX5 2, w ∈ wsX5_hasRoomForFive := by decide +kernel
set_option maxHeartbeats 4000000 in
set_option maxRecDepth 100000 in
theorem c_X5_hasRoomForFive (l : Launch) (dC : Nat → ClassId) (dI : Nat → Nat → Nat) (cB cC cI cJ : ClassId) (sz : Nat) (h0 b0 : Nat) (bt : Nat → Int32) (ln : Int32) : Met l yX5_hasRoomForFive wsX5_hasRoomForFive ({ frames := 0, cells := 0, slots := 0, locals := 0 } : Room) (cP dC dI cB cC cI cJ [.ref h0] sz [(h0, .inr (5, [.ref b0, .int ln])), (b0, .inl (cB, 3000, .inl bt))]) (vp_Si (fun r => r = (fX5_hasRoomForFive bt ln))) 0 0 (fun _ => False) := by
  refine Met.ofW (cc := cX5_hasRoomForFive) (maxL := 1) (ret := (some .boolean)) (by decide) rfl ?_
  intro p e s m args below meth c s₁ B hml hv
  obtain ⟨rfl, hsz, hP, hG, hD0⟩ := hv
  have hx := B.exec
  have hb := B.bytes
  have hr := B.returns
  have hts := atoms_spec (ws := wsX5_hasRoomForFive) B.pre
  have hown : s.vm.findClass RX5 = some m.cls := findClass_of_methodNamed B.named
  have hlocks := B.notSynchronized
  subst hsz
  obtain ⟨H, hH⟩ : ∃ H : Heap, H = s.heap := ⟨_, rfl⟩
  rw [← hH] at hP ⊢
  generalize hR : fX5_hasRoomForFive bt ln = R
  unfold fX5_hasRoomForFive at hR
  have hl := lv_entry ([.ref h0]) (n := 1) (Nat.le_of_ble_eq_true rfl)
  rw [lg_entry_eq]
  generalize (lg_sl ([.ref h0]) ++ List.replicate (1 - (lg_sl ([.ref h0])).length) Slot.unset).toArray = ls at hl ⊢
  have hl : lv_has ls 1 [(0, .ref h0)] := hl
  refine lv_aload_n hx hb dX5_hasRoomForFive_0 rfl (lv_at hl 0 rfl) ?_
  refine va_get (D := (dC, dI)) (ci := 5) (v := .int ln) (C := RX5) (T := TX5) (N := 2) hx hb hts inc_X5_hasRoomForFive_5 hown hG.1 hP 0 rfl rfl 1 (by decide) (hts (.fieldLink RX5 15 "MappingDesk$Tape" "length" "I") (by decide +kernel)) (fun _ h9 => h9) rfl dX5_hasRoomForFive_1 ?_
  refine lv_bipush (v := 20) hx hb dX5_hasRoomForFive_4 (by decide) ?_
  refine lv_iadd hx hb dX5_hasRoomForFive_6 ?_
  refine lv_sipush (v := 3000) hx hb dX5_hasRoomForFive_7 (by decide) ?_
  refine lv_icmp_gt (tgt := 17) hx hb dX5_hasRoomForFive_10 (by decide) (fun c_1 => ?_) (fun c_1 => ?_)
  · rw [if_pos c_1] at hR
    refine lv_iconst (v := 0) hx hb dX5_hasRoomForFive_17 (by decide) ?_
    subst hR
    exact W.zret (v := 0) hx hb hr rfl (fun t ht hW => ⟨0, rfl, rfl, ht.trans hH⟩) t_nil dX5_hasRoomForFive_18
  · rw [if_neg c_1] at hR
    refine lv_iconst (v := 1) hx hb dX5_hasRoomForFive_13 (by decide) ?_
    refine lv_goto (tgt := 18) hx hb dX5_hasRoomForFive_14 (by decide) ?_
    subst hR
    exact W.zret (v := 1) hx hb hr rfl (fun t ht hW => ⟨1, rfl, rfl, ht.trans hH⟩) t_nil dX5_hasRoomForFive_18

def fX5_appendFour_3 (bt : Nat → Int32) (ln : Int32) (x : Int32) : Nat → Int32 → (Nat → Int32) → Int32 → Int32 × (Nat → Int32)
  | 0, _, _, _ => (0, (fun _ => 0))
  | n + 1, sh, bz, lz =>
    if sh < 0 then
      (lz, bz)
    else
      if 3000 ≤ lz then
        (lz, bz)
      else
        fX5_appendFour_3 bt ln x n (sh + (-8)) (upd bz lz.toNatClampNeg (vp_nar .byte ((((x : Int32).toUInt32 >>> ((sh : Int32).toUInt32 &&& Int32.toUInt32 31)).toInt32 : Int32).toInt8.toInt32))) (lz + 1)
def fX5_appendFour (bt : Nat → Int32) (ln : Int32) (x : Int32) : Int32 × (Nat → Int32) :=
  fX5_appendFour_3 bt ln x 40 24 bt ln
theorem inc_X5_appendFour_5 : ∀ w ∈ u_ws RX5 TX5 2, w ∈ wsX5_appendFour := by decide +kernel
set_option maxHeartbeats 4000000 in
set_option maxRecDepth 100000 in
theorem c_X5_appendFour (l : Launch) (dC : Nat → ClassId) (dI : Nat → Nat → Nat) (cB cC cI cJ : ClassId) (sz : Nat) (h0 b0 : Nat) (bt : Nat → Int32) (ln : Int32) (x : Int32) (hl0 : 0 ≤ ln.toInt) (hl1 : ln.toInt ≤ 3000) : Met l yX5_appendFour wsX5_appendFour ({ frames := 0, cells := 0, slots := 0, locals := 0 } : Room) (cP dC dI cB cC cI cJ [.ref h0, .int x] sz [(h0, .inr (5, [.ref b0, .int ln])), (b0, .inl (cB, 3000, .inl bt))]) (va_Qv (fun _ => (0 ≤ (fX5_appendFour bt ln x).1.toInt ∧ (fX5_appendFour bt ln x).1.toInt ≤ 3000)) (cE dC dI (va_A [(h0, .inr (5, [.ref b0, .int ln])), (b0, .inl (cB, 3000, .inl bt))] sz) [(h0, .inr (5, [.ref b0, .int (fX5_appendFour bt ln x).1])), (b0, .inl (cB, 3000, .inl (fX5_appendFour bt ln x).2))]) (va_A [(h0, .inr (5, [.ref b0, .int ln])), (b0, .inl (cB, 3000, .inl bt))] sz)) 0 0 (va_A [(h0, .inr (5, [.ref b0, .int ln])), (b0, .inl (cB, 3000, .inl bt))] sz) := by
  refine Met.ofW (cc := cX5_appendFour) (maxL := 3) (ret := none) (by decide) rfl ?_
  intro p e s m args below meth c s₁ B hml hv
  obtain ⟨rfl, hsz, hP, hG, hD0⟩ := hv
  have hx := B.exec
  have hb := B.bytes
  have hr := B.returns
  have hts := atoms_spec (ws := wsX5_appendFour) B.pre
  have hown : s.vm.findClass RX5 = some m.cls := findClass_of_methodNamed B.named
  have hlocks := B.notSynchronized
  subst hsz
  have hD := hD0.self (sz := s.heap.size)
  generalize hAe : va_A [(h0, .inr (5, [.ref b0, .int ln])), (b0, .inl (cB, 3000, .inl bt))] s.heap.size = A at hD ⊢
  have hA : ∀ q : Nat, s.heap.size ≤ q → A q := fun q h => by rw [← hAe]; exact Or.inr h
  obtain ⟨H, hH⟩ : ∃ H : Heap, H = s.heap := ⟨_, rfl⟩
  have hS : va_S A s.heap H [] := by rw [hH]; exact va_S.rf
  rw [← hH] at hP ⊢
  generalize hR : fX5_appendFour bt ln x = R
  unfold fX5_appendFour at hR
  have hl := lv_entry ([.ref h0, .int x]) (n := 3) (Nat.le_of_ble_eq_true rfl)
  rw [lg_entry_eq]
  generalize (lg_sl ([.ref h0, .int x]) ++ List.replicate (3 - (lg_sl ([.ref h0, .int x])).length) Slot.unset).toArray = ls at hl ⊢
  have hl : lv_has ls 3 [(0, .ref h0), (1, .int x)] := hl
  have loop_3 : ∀ (n : Nat), ∀ (sh : Int32) (bz : Nat → Int32) (lz : Int32) (H : Heap) (locs : List Loc) (ls : Array Slot), fX5_appendFour_3 bt ln x n sh bz lz = R → (-8 ≤ sh.toInt) → (sh.toInt ≤ 24) → (0 ≤ lz.toInt) → (lz.toInt ≤ 3000) → (sh.toInt + 8 < ((n : Nat) : Int)) → va_P (dC, dI) vwCl [(h0, .inr (5, [.ref b0, .int lz])), (b0, .inl (cB, 3000, .inl bz))] H → va_D A [(h0, .inr (5, [.ref b0, .int lz])), (b0, .inl (cB, 3000, .inl bz))] → va_S A s.heap H locs → lv_has ls 3 [(0, .ref h0), (1, .int x), (2, .int sh)] → W p l e (headSpec wsX5_appendFour ({ frames := 0, cells := 0, slots := 0, locals := 0 } : Room)).room s m ([.ref h0, .int x] : List Value).toArray below meth c H locs 0 0 (MQ below (va_Qv (fun _ => (0 ≤ R.1.toInt ∧ R.1.toInt ≤ 3000)) (cE dC dI (A) [(h0, .inr (5, [.ref b0, .int R.1])), (b0, .inl (cB, 3000, .inl R.2))]) (A)) ([.ref h0, .int x] : List Value).toArray s 0 0 A) (F0 m 3 ls []) := by
    intro n
    induction n with
    | zero => intro sh bz lz H locs ls hR hs0 hs1 hz0 hz1 hmu; exfalso; omega
    | succ n ih =>
      intro sh bz lz H locs ls hR hs0 hs1 hz0 hz1 hmu hP hD hS hl
      rw [fX5_appendFour_3] at hR
      refine lv_iload_n hx hb dX5_appendFour_3 rfl (lv_at hl 2 rfl) ?_
      refine lv_if_lt (tgt := 46) hx hb dX5_appendFour_4 (by decide) (fun c_1 => ?_) (fun c_1 => ?_)
      · rw [if_pos c_1] at hR
        have e_2 : 0 ≤ (lz : Int32).toInt ∧ (lz : Int32).toInt ≤ 3000 := by
          have k_3 : (0 : Int32).toInt = 0 := by decide
          have q_4 := i_lt c_1
          try generalize Int32.toInt ln = z0 at *
          try generalize Int32.toInt lz = z1 at *
          try generalize Int32.toInt sh = z2 at *
          try generalize Int32.toInt (0 : Int32) = z3 at *
          omega
        subst hR
        exact W.vret hx hb hr (fun t ht hW => ⟨⟨(), rfl, e_2, by rw [ht]; exact hP, hD⟩, hS.F ht⟩) hS.2.2 dX5_appendFour_46
      · rw [if_neg c_1] at hR
        refine lv_aload_n hx hb dX5_appendFour_7 rfl (lv_at hl 0 rfl) ?_
        refine va_get (D := (dC, dI)) (ci := 5) (v := .int lz) (C := RX5) (T := TX5) (N := 2) hx hb hts inc_X5_appendFour_5 hown hG.1 hP 0 rfl rfl 1 (by decide) (hts (.fieldLink RX5 15 "MappingDesk$Tape" "length" "I") (by decide +kernel)) (fun _ h9 => h9) rfl dX5_appendFour_8 ?_
        refine lv_sipush (v := 3000) hx hb dX5_appendFour_11 (by decide) ?_
        refine lv_icmp_ge (tgt := 46) hx hb dX5_appendFour_14 (by decide) (fun c_5 => ?_) (fun c_5 => ?_)
        · rw [if_pos c_5] at hR
          have e_6 : 0 ≤ (lz : Int32).toInt ∧ (lz : Int32).toInt ≤ 3000 := by
            have k_7 : (0 : Int32).toInt = 0 := by decide
            have q_8 := i_nlt c_1
            have k_9 : (3000 : Int32).toInt = 3000 := by decide
            have q_10 := i_le c_5
            try generalize Int32.toInt (3000 : Int32) = z0 at *
            try generalize Int32.toInt ln = z1 at *
            try generalize Int32.toInt lz = z2 at *
            try generalize Int32.toInt sh = z3 at *
            try generalize Int32.toInt (0 : Int32) = z4 at *
            omega
          subst hR
          exact W.vret hx hb hr (fun t ht hW => ⟨⟨(), rfl, e_6, by rw [ht]; exact hP, hD⟩, hS.F ht⟩) hS.2.2 dX5_appendFour_46
        · rw [if_neg c_5] at hR
          refine lv_aload_n hx hb dX5_appendFour_17 rfl (lv_at hl 0 rfl) ?_
          refine va_get (D := (dC, dI)) (ci := 5) (v := .ref b0) (C := RX5) (T := TX5) (N := 2) hx hb hts inc_X5_appendFour_5 hown hG.1 hP 0 rfl rfl 0 (by decide) (hts (.fieldLink RX5 9 "MappingDesk$Tape" "bytes" "[B") (by decide +kernel)) (fun _ h9 => h9) rfl dX5_appendFour_18 ?_
          refine lv_aload_n hx hb dX5_appendFour_21 rfl (lv_at hl 0 rfl) ?_
          refine va_get (D := (dC, dI)) (ci := 5) (v := .int lz) (C := RX5) (T := TX5) (N := 2) hx hb hts inc_X5_appendFour_5 hown hG.1 hP 0 rfl rfl 1 (by decide) (hts (.fieldLink RX5 15 "MappingDesk$Tape" "length" "I") (by decide +kernel)) (fun _ h9 => h9) rfl dX5_appendFour_22 ?_
          refine lv_iload_n hx hb dX5_appendFour_25 rfl (lv_at hl 1 rfl) ?_
          refine lv_iload_n hx hb dX5_appendFour_26 rfl (lv_at hl 2 rfl) ?_
          refine lv_iushr hx hb dX5_appendFour_27 rfl ?_
          refine lv_i2b hx hb dX5_appendFour_28 rfl ?_
          have b_11 : vp_in lz 3000 := by
            have k_12 : (0 : Int32).toInt = 0 := by decide
            have q_13 := i_nlt c_1
            have k_14 : (3000 : Int32).toInt = 3000 := by decide
            have q_15 := i_nle c_5
            refine vin ?_ ?_
            all_goals (try generalize Int32.toInt (3000 : Int32) = z0 at *; try generalize Int32.toInt ln = z1 at *; try generalize Int32.toInt lz = z2 at *; try generalize Int32.toInt sh = z3 at *; try generalize Int32.toInt (0 : Int32) = z4 at *; omega)
          refine va_bast hx hb hG.1 hP hD hS 1 0 rfl rfl b_11 dX5_appendFour_29 (fun H locs hP hD hS => ?_)
          have hP : va_P (dC, dI) vwCl [(h0, .inr (5, [.ref b0, .int lz])), (b0, .inl (cB, 3000, .inl (upd bz lz.toNatClampNeg (vp_nar .byte ((((x : Int32).toUInt32 >>> ((sh : Int32).toUInt32 &&& Int32.toUInt32 31)).toInt32 : Int32).toInt8.toInt32)))))] H := hP
          have hD : va_D A [(h0, .inr (5, [.ref b0, .int lz])), (b0, .inl (cB, 3000, .inl (upd bz lz.toNatClampNeg (vp_nar .byte ((((x : Int32).toUInt32 >>> ((sh : Int32).toUInt32 &&& Int32.toUInt32 31)).toInt32 : Int32).toInt8.toInt32)))))] := hD
          refine lv_aload_n hx hb dX5_appendFour_30 rfl (lv_at hl 0 rfl) ?_
          refine lv_dup hx hb dX5_appendFour_31 rfl ?_
          refine va_get (D := (dC, dI)) (ci := 5) (v := .int lz) (C := RX5) (T := TX5) (N := 2) hx hb hts inc_X5_appendFour_5 hown hG.1 hP 0 rfl rfl 1 (by decide) (hts (.fieldLink RX5 15 "MappingDesk$Tape" "length" "I") (by decide +kernel)) (fun _ h9 => h9) rfl dX5_appendFour_32 ?_
          refine lv_iconst (v := 1) hx hb dX5_appendFour_35 (by decide) ?_
          refine lv_iadd hx hb dX5_appendFour_36 ?_
          refine va_put (D := (dC, dI)) (ci := 5) (v := .int (lz + 1)) (ty := .int) (C := RX5) (T := TX5) (N := 2) hx hb hts inc_X5_appendFour_5 tyX5 tyX5_ok nmX5 hown hG.1 hP hD hS 0 rfl rfl 1 (by decide) (hts (.fieldLink RX5 15 "MappingDesk$Tape" "length" "I") (by decide +kernel)) (fun _ h9 => h9) rfl (by decide +kernel) rfl rfl (Nat.le_of_ble_eq_true rfl) dX5_appendFour_37 (fun H locs hP hD hS => ?_)
          have hP : va_P (dC, dI) vwCl [(h0, .inr (5, [.ref b0, .int (lz + 1)])), (b0, .inl (cB, 3000, .inl (upd bz lz.toNatClampNeg (vp_nar .byte ((((x : Int32).toUInt32 >>> ((sh : Int32).toUInt32 &&& Int32.toUInt32 31)).toInt32 : Int32).toInt8.toInt32)))))] H := hP
          have hD : va_D A [(h0, .inr (5, [.ref b0, .int (lz + 1)])), (b0, .inl (cB, 3000, .inl (upd bz lz.toNatClampNeg (vp_nar .byte ((((x : Int32).toUInt32 >>> ((sh : Int32).toUInt32 &&& Int32.toUInt32 31)).toInt32 : Int32).toInt8.toInt32)))))] := hD
          refine lv_iinc (v := (sh + (-8))) (lv' := [(2, .int (sh + (-8))), (0, .ref h0), (1, .int x)]) hx hb dX5_appendFour_40 hl (k := 2) rfl rfl (by decide) rfl (fun ls hl => ?_)
          refine lv_goto (tgt := 3) hx hb dX5_appendFour_43 (by decide) ?_
          have v_22 : -8 ≤ ((sh + (-8))).toInt := by
            have k_23 : (0 : Int32).toInt = 0 := by decide
            have q_24 := i_nlt c_1
            have k_25 : (3000 : Int32).toInt = 3000 := by decide
            have q_26 := i_nle c_5
            have k_27 : ((-8) : Int32).toInt = -8 := by decide
            have t_28 := ti_add (a := sh) (b := (-8)) (by omega) (by omega)
            try generalize Int32.toInt (sh + (-8)) = z0 at *
            try generalize Int32.toInt ((-8) : Int32) = z1 at *
            try generalize Int32.toInt (3000 : Int32) = z2 at *
            try generalize Int32.toInt ln = z3 at *
            try generalize Int32.toInt lz = z4 at *
            try generalize Int32.toInt sh = z5 at *
            try generalize Int32.toInt (0 : Int32) = z6 at *
            omega
          have v_29 : ((sh + (-8))).toInt ≤ 24 := by
            have k_30 : (0 : Int32).toInt = 0 := by decide
            have q_31 := i_nlt c_1
            have k_32 : (3000 : Int32).toInt = 3000 := by decide
            have q_33 := i_nle c_5
            have k_34 : ((-8) : Int32).toInt = -8 := by decide
            have t_35 := ti_add (a := sh) (b := (-8)) (by omega) (by omega)
            try generalize Int32.toInt (sh + (-8)) = z0 at *
            try generalize Int32.toInt ((-8) : Int32) = z1 at *
            try generalize Int32.toInt (3000 : Int32) = z2 at *
            try generalize Int32.toInt ln = z3 at *
            try generalize Int32.toInt lz = z4 at *
            try generalize Int32.toInt sh = z5 at *
            try generalize Int32.toInt (0 : Int32) = z6 at *
            omega
          have v_36 : 0 ≤ ((lz + 1)).toInt := by
            have k_37 : (0 : Int32).toInt = 0 := by decide
            have q_38 := i_nlt c_1
            have k_39 : (3000 : Int32).toInt = 3000 := by decide
            have q_40 := i_nle c_5
            have k_41 : (1 : Int32).toInt = 1 := by decide
            have t_42 := ti_add (a := lz) (b := 1) (by omega) (by omega)
            try generalize Int32.toInt (lz + 1) = z0 at *
            try generalize Int32.toInt (3000 : Int32) = z1 at *
            try generalize Int32.toInt ln = z2 at *
            try generalize Int32.toInt lz = z3 at *
            try generalize Int32.toInt sh = z4 at *
            try generalize Int32.toInt (0 : Int32) = z5 at *
            try generalize Int32.toInt (1 : Int32) = z6 at *
            omega
          have v_43 : ((lz + 1)).toInt ≤ 3000 := by
            have k_44 : (0 : Int32).toInt = 0 := by decide
            have q_45 := i_nlt c_1
            have k_46 : (3000 : Int32).toInt = 3000 := by decide
            have q_47 := i_nle c_5
            have k_48 : (1 : Int32).toInt = 1 := by decide
            have t_49 := ti_add (a := lz) (b := 1) (by omega) (by omega)
            try generalize Int32.toInt (lz + 1) = z0 at *
            try generalize Int32.toInt (3000 : Int32) = z1 at *
            try generalize Int32.toInt ln = z2 at *
            try generalize Int32.toInt lz = z3 at *
            try generalize Int32.toInt sh = z4 at *
            try generalize Int32.toInt (0 : Int32) = z5 at *
            try generalize Int32.toInt (1 : Int32) = z6 at *
            omega
          have v_50 : ((sh + (-8))).toInt + 8 < ((n : Nat) : Int) := by
            have k_51 : (0 : Int32).toInt = 0 := by decide
            have q_52 := i_nlt c_1
            have k_53 : (3000 : Int32).toInt = 3000 := by decide
            have q_54 := i_nle c_5
            have k_55 : ((-8) : Int32).toInt = -8 := by decide
            have t_56 := ti_add (a := sh) (b := (-8)) (by omega) (by omega)
            try generalize Int32.toInt (sh + (-8)) = z0 at *
            try generalize Int32.toInt ((-8) : Int32) = z1 at *
            try generalize Int32.toInt (3000 : Int32) = z2 at *
            try generalize Int32.toInt ln = z3 at *
            try generalize Int32.toInt lz = z4 at *
            try generalize Int32.toInt sh = z5 at *
            try generalize Int32.toInt (0 : Int32) = z6 at *
            omega
          exact ih ((sh + (-8))) ((upd bz lz.toNatClampNeg (vp_nar .byte ((((x : Int32).toUInt32 >>> ((sh : Int32).toUInt32 &&& Int32.toUInt32 31)).toInt32 : Int32).toInt8.toInt32)))) ((lz + 1)) _ _ ls hR v_22 v_29 v_36 v_43 v_50 hP hD hS (lv_sub hl [1, 2, 0] rfl)
  refine lv_bipush (v := 24) hx hb dX5_appendFour_0 (by decide) ?_
  refine lv_istore_n (lv' := [(2, .int 24), (0, .ref h0), (1, .int x)]) hx hb dX5_appendFour_2 rfl hl (by decide) rfl (fun ls hl => ?_)
  have v_57 : -8 ≤ (24 : Int32).toInt := by
    have k_58 : (24 : Int32).toInt = 24 := by decide
    try generalize Int32.toInt (24 : Int32) = z0 at *
    try generalize Int32.toInt ln = z1 at *
    omega
  have v_59 : (24 : Int32).toInt ≤ 24 := by
    have k_60 : (24 : Int32).toInt = 24 := by decide
    try generalize Int32.toInt (24 : Int32) = z0 at *
    try generalize Int32.toInt ln = z1 at *
    omega
  have v_61 : 0 ≤ ln.toInt := by
    try generalize Int32.toInt ln = z0 at *
    omega
  have v_62 : ln.toInt ≤ 3000 := by
    try generalize Int32.toInt ln = z0 at *
    omega
  have v_63 : (24 : Int32).toInt + 8 < ((40 : Nat) : Int) := by
    have k_64 : (24 : Int32).toInt = 24 := by decide
    try generalize Int32.toInt (24 : Int32) = z0 at *
    try generalize Int32.toInt ln = z1 at *
    omega
  exact loop_3 40 (24) (bt) (ln) _ _ ls hR v_57 v_59 v_61 v_62 v_63 hP hD hS (lv_sub hl [1, 2, 0] rfl)

def fX5_characterAt (bt : Nat → Int32) (ln : Int32) (x : Int32) : Int32 :=
  (((((bt x.toNatClampNeg) &&& 255) : Int32).toUInt32 % 65536).toInt32)
theorem inc_X5_characterAt_5 : ∀ w ∈ u_ws RX5 TX5 2, w ∈ wsX5_characterAt := by decide +kernel
set_option maxHeartbeats 4000000 in
set_option maxRecDepth 100000 in
theorem c_X5_characterAt (l : Launch) (dC : Nat → ClassId) (dI : Nat → Nat → Nat) (cB cC cI cJ : ClassId) (sz : Nat) (h0 b0 : Nat) (bt : Nat → Int32) (ln : Int32) (x : Int32) (hx0 : 0 ≤ x.toInt) (hx1 : x.toInt < 3000) : Met l yX5_characterAt wsX5_characterAt ({ frames := 0, cells := 0, slots := 0, locals := 0 } : Room) (cP dC dI cB cC cI cJ [.ref h0, .int x] sz [(h0, .inr (5, [.ref b0, .int ln])), (b0, .inl (cB, 3000, .inl bt))]) (vp_Si (fun r => r = (fX5_characterAt bt ln x))) 0 0 (fun _ => False) := by
  refine Met.ofW (cc := cX5_characterAt) (maxL := 2) (ret := (some .char)) (by decide) rfl ?_
  intro p e s m args below meth c s₁ B hml hv
  obtain ⟨rfl, hsz, hP, hG, hD0⟩ := hv
  have hx := B.exec
  have hb := B.bytes
  have hr := B.returns
  have hts := atoms_spec (ws := wsX5_characterAt) B.pre
  have hown : s.vm.findClass RX5 = some m.cls := findClass_of_methodNamed B.named
  have hlocks := B.notSynchronized
  subst hsz
  obtain ⟨H, hH⟩ : ∃ H : Heap, H = s.heap := ⟨_, rfl⟩
  rw [← hH] at hP ⊢
  generalize hR : fX5_characterAt bt ln x = R
  unfold fX5_characterAt at hR
  have hl := lv_entry ([.ref h0, .int x]) (n := 2) (Nat.le_of_ble_eq_true rfl)
  rw [lg_entry_eq]
  generalize (lg_sl ([.ref h0, .int x]) ++ List.replicate (2 - (lg_sl ([.ref h0, .int x])).length) Slot.unset).toArray = ls at hl ⊢
  have hl : lv_has ls 2 [(0, .ref h0), (1, .int x)] := hl
  refine lv_aload_n hx hb dX5_characterAt_0 rfl (lv_at hl 0 rfl) ?_
  refine va_get (D := (dC, dI)) (ci := 5) (v := .ref b0) (C := RX5) (T := TX5) (N := 2) hx hb hts inc_X5_characterAt_5 hown hG.1 hP 0 rfl rfl 0 (by decide) (hts (.fieldLink RX5 9 "MappingDesk$Tape" "bytes" "[B") (by decide +kernel)) (fun _ h9 => h9) rfl dX5_characterAt_1 ?_
  refine lv_iload_n hx hb dX5_characterAt_4 rfl (lv_at hl 1 rfl) ?_
  have b_1 : vp_in x 3000 := by
    refine vin ?_ ?_
    all_goals (try generalize Int32.toInt x = z0 at *; omega)
  refine va_bald hx hb hG.1 hP 1 0 rfl rfl b_1 dX5_characterAt_5 ?_
  refine lv_sipush (v := 255) hx hb dX5_characterAt_6 (by decide) ?_
  refine lv_iand hx hb dX5_characterAt_9 ?_
  refine lv_i2c hx hb dX5_characterAt_10 rfl ?_
  subst hR
  exact W.zret (v := (((((bt x.toNatClampNeg) &&& 255) : Int32).toUInt32 % 65536).toInt32)) hx hb hr (pk_nc _) (fun t ht hW => ⟨(((((bt x.toNatClampNeg) &&& 255) : Int32).toUInt32 % 65536).toInt32), rfl, rfl, ht.trans hH⟩) t_nil dX5_characterAt_11
