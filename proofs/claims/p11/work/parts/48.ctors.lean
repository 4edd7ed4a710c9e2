theorem ha_i (N : Nat) : ∀ cA : ClassId, vp_cell cA (N, .inl (fun _ => 0)) = arrV cA N (fun _ => defaultValue .int) := fun _ => rfl
theorem ha_b (N : Nat) : ∀ cA : ClassId, vp_cell cA (N, .inl (fun _ => 0)) = arrV cA N (fun _ => defaultValue .byte) := fun _ => rfl
theorem ha_c (N : Nat) : ∀ cA : ClassId, vp_cell cA (N, .inl (fun _ => 0)) = arrV cA N (fun _ => defaultValue .char) := fun _ => rfl
theorem ha_j (N : Nat) : ∀ cA : ClassId, vp_cell cA (N, .inr (.inl (fun _ => 0))) = arrV cA N (fun _ => defaultValue .long) := fun _ => rfl

set_option maxHeartbeats 4000000 in
set_option maxRecDepth 100000 in
theorem c_X0_init (l : Launch) (dC : Nat → ClassId) (dI : Nat → Nat → Nat) (cB cC cI cJ : ClassId) (sz : Nat) (h0 : Nat) (a0 a1 a2 a3 a4 : Int32) : Met l yX0_init wsX0_init ({ frames := 1, cells := 0, slots := 0, locals := 12 } : Room) (cP dC dI cB cC cI cJ [.ref h0] sz [(h0, .inr (0, [.int a0, .int a1, .int a2, .int a3, .int a4]))]) (va_Qv (fun _ => True) (cE dC dI (va_A [(h0, .inr (0, [.int a0, .int a1, .int a2, .int a3, .int a4]))] sz) [(h0, .inr (0, [.int a0, .int a1, .int a2, .int a3, .int a4]))]) (va_A [(h0, .inr (0, [.int a0, .int a1, .int a2, .int a3, .int a4]))] sz)) 0 0 (va_A [(h0, .inr (0, [.int a0, .int a1, .int a2, .int a3, .int a4]))] sz) := by
  refine Met.ofW (cc := cX0_init) (maxL := 1) (ret := none) (by decide) rfl ?_
  intro p e s m args below meth c s₁ B hml hv
  obtain ⟨rfl, hsz, hP, hG, hD0⟩ := hv
  have hx := B.exec
  have hb := B.bytes
  have hr := B.returns
  have hts := atoms_spec (ws := wsX0_init) B.pre
  have hown : s.vm.findClass RX0 = some m.cls := findClass_of_methodNamed B.named
  have hlocks := B.notSynchronized
  have hin : meth.name = "<init>" := (name_of_methodNamed B.named B.method).1
  subst hsz
  have hD := hD0.self (sz := s.heap.size)
  generalize hAe : va_A [(h0, .inr (0, [.int a0, .int a1, .int a2, .int a3, .int a4]))] s.heap.size = A at hD ⊢
  have hA : ∀ q : Nat, s.heap.size ≤ q → A q := fun q h => by rw [← hAe]; exact Or.inr h
  obtain ⟨H, hH⟩ : ∃ H : Heap, H = s.heap := ⟨_, rfl⟩
  have hS : va_S A s.heap H [] := by rw [hH]; exact va_S.rf
  rw [← hH] at hP ⊢
  have hl := lv_entry ([.ref h0]) (n := 1) (Nat.le_of_ble_eq_true rfl)
  rw [lg_entry_eq]
  generalize (lg_sl ([.ref h0]) ++ List.replicate (1 - (lg_sl ([.ref h0])).length) Slot.unset).toArray = ls at hl ⊢
  have hl : lv_has ls 1 [(0, .ref h0)] := hl
  refine lv_aload_n hx hb dX0_init_0 rfl (lv_at hl 0 rfl) ?_
  refine W.objInit hx hb hown (hts (.methodLink RX0 1 objectInit) (by decide +kernel)) (hts (.instanceMethod objectInit) (by decide +kernel)) (hts (.code objectInit ⟨#[0xb1]⟩ 1 none) (by decide +kernel)) rfl (by rw [hml]; exact hl.1) rfl dX0_init_1 (Nat.le_of_ble_eq_true rfl) (Nat.le_of_ble_eq_true rfl) ?_
  refine W.eq (g2 := F0 m 4 ls []) rfl ?_
  skip
  exact W.vret hx hb hr (fun t ht hW => ⟨⟨(), rfl, trivial, by rw [ht]; exact hP, hD⟩, hS.F ht⟩) hS.2.2 dX0_init_4

set_option maxHeartbeats 4000000 in
set_option maxRecDepth 100000 in
theorem c_X1_init (l : Launch) (dC : Nat → ClassId) (dI : Nat → Nat → Nat) (cB cC cI cJ : ClassId) (sz : Nat) (h0 : Nat) (n0 n1 : Int32) (n2 : Int64) (n3 n4 : Int32) : Met l yX1_init wsX1_init ({ frames := 1, cells := 0, slots := 0, locals := 12 } : Room) (cP dC dI cB cC cI cJ [.ref h0] sz [(h0, .inr (1, [.int n0, .int n1, .long n2, .int n3, .int n4]))]) (va_Qv (fun _ => True) (cE dC dI (va_A [(h0, .inr (1, [.int n0, .int n1, .long n2, .int n3, .int n4]))] sz) [(h0, .inr (1, [.int n0, .int n1, .long n2, .int n3, .int n4]))]) (va_A [(h0, .inr (1, [.int n0, .int n1, .long n2, .int n3, .int n4]))] sz)) 0 0 (va_A [(h0, .inr (1, [.int n0, .int n1, .long n2, .int n3, .int n4]))] sz) := by
  refine Met.ofW (cc := cX1_init) (maxL := 1) (ret := none) (by decide) rfl ?_
  intro p e s m args below meth c s₁ B hml hv
  obtain ⟨rfl, hsz, hP, hG, hD0⟩ := hv
  have hx := B.exec
  have hb := B.bytes
  have hr := B.returns
  have hts := atoms_spec (ws := wsX1_init) B.pre
  have hown : s.vm.findClass RX1 = some m.cls := findClass_of_methodNamed B.named
  have hlocks := B.notSynchronized
  have hin : meth.name = "<init>" := (name_of_methodNamed B.named B.method).1
  subst hsz
  have hD := hD0.self (sz := s.heap.size)
  generalize hAe : va_A [(h0, .inr (1, [.int n0, .int n1, .long n2, .int n3, .int n4]))] s.heap.size = A at hD ⊢
  have hA : ∀ q : Nat, s.heap.size ≤ q → A q := fun q h => by rw [← hAe]; exact Or.inr h
  obtain ⟨H, hH⟩ : ∃ H : Heap, H = s.heap := ⟨_, rfl⟩
  have hS : va_S A s.heap H [] := by rw [hH]; exact va_S.rf
  rw [← hH] at hP ⊢
  have hl := lv_entry ([.ref h0]) (n := 1) (Nat.le_of_ble_eq_true rfl)
  rw [lg_entry_eq]
  generalize (lg_sl ([.ref h0]) ++ List.replicate (1 - (lg_sl ([.ref h0])).length) Slot.unset).toArray = ls at hl ⊢
  have hl : lv_has ls 1 [(0, .ref h0)] := hl
  refine lv_aload_n hx hb dX1_init_0 rfl (lv_at hl 0 rfl) ?_
  refine W.objInit hx hb hown (hts (.methodLink RX1 3 objectInit) (by decide +kernel)) (hts (.instanceMethod objectInit) (by decide +kernel)) (hts (.code objectInit ⟨#[0xb1]⟩ 1 none) (by decide +kernel)) rfl (by rw [hml]; exact hl.1) rfl dX1_init_1 (Nat.le_of_ble_eq_true rfl) (Nat.le_of_ble_eq_true rfl) ?_
  refine W.eq (g2 := F0 m 4 ls []) rfl ?_
  skip
  exact W.vret hx hb hr (fun t ht hW => ⟨⟨(), rfl, trivial, by rw [ht]; exact hP, hD⟩, hS.F ht⟩) hS.2.2 dX1_init_4

set_option maxHeartbeats 4000000 in
set_option maxRecDepth 100000 in
theorem c_X3_init (l : Launch) (dC : Nat → ClassId) (dI : Nat → Nat → Nat) (cB cC cI cJ : ClassId) (sz : Nat) (h0 : Nat) (g0 g1 g2 g3 g4 g5 : Int32) : Met l yX3_init wsX3_init ({ frames := 1, cells := 0, slots := 0, locals := 12 } : Room) (cP dC dI cB cC cI cJ [.ref h0] sz [(h0, .inr (3, [.int g0, .int g1, .int g2, .int g3, .int g4, .int g5]))]) (va_Qv (fun _ => True) (cE dC dI (va_A [(h0, .inr (3, [.int g0, .int g1, .int g2, .int g3, .int g4, .int g5]))] sz) [(h0, .inr (3, [.int g0, .int g1, .int g2, .int g3, .int g4, .int g5]))]) (va_A [(h0, .inr (3, [.int g0, .int g1, .int g2, .int g3, .int g4, .int g5]))] sz)) 0 0 (va_A [(h0, .inr (3, [.int g0, .int g1, .int g2, .int g3, .int g4, .int g5]))] sz) := by
  refine Met.ofW (cc := cX3_init) (maxL := 1) (ret := none) (by decide) rfl ?_
  intro p e s m args below meth c s₁ B hml hv
  obtain ⟨rfl, hsz, hP, hG, hD0⟩ := hv
  have hx := B.exec
  have hb := B.bytes
  have hr := B.returns
  have hts := atoms_spec (ws := wsX3_init) B.pre
  have hown : s.vm.findClass RX3 = some m.cls := findClass_of_methodNamed B.named
  have hlocks := B.notSynchronized
  have hin : meth.name = "<init>" := (name_of_methodNamed B.named B.method).1
  subst hsz
  have hD := hD0.self (sz := s.heap.size)
  generalize hAe : va_A [(h0, .inr (3, [.int g0, .int g1, .int g2, .int g3, .int g4, .int g5]))] s.heap.size = A at hD ⊢
  have hA : ∀ q : Nat, s.heap.size ≤ q → A q := fun q h => by rw [← hAe]; exact Or.inr h
  obtain ⟨H, hH⟩ : ∃ H : Heap, H = s.heap := ⟨_, rfl⟩
  have hS : va_S A s.heap H [] := by rw [hH]; exact va_S.rf
  rw [← hH] at hP ⊢
  have hl := lv_entry ([.ref h0]) (n := 1) (Nat.le_of_ble_eq_true rfl)
  rw [lg_entry_eq]
  generalize (lg_sl ([.ref h0]) ++ List.replicate (1 - (lg_sl ([.ref h0])).length) Slot.unset).toArray = ls at hl ⊢
  have hl : lv_has ls 1 [(0, .ref h0)] := hl
  refine lv_aload_n hx hb dX3_init_0 rfl (lv_at hl 0 rfl) ?_
  refine W.objInit hx hb hown (hts (.methodLink RX3 3 objectInit) (by decide +kernel)) (hts (.instanceMethod objectInit) (by decide +kernel)) (hts (.code objectInit ⟨#[0xb1]⟩ 1 none) (by decide +kernel)) rfl (by rw [hml]; exact hl.1) rfl dX3_init_1 (Nat.le_of_ble_eq_true rfl) (Nat.le_of_ble_eq_true rfl) ?_
  refine W.eq (g2 := F0 m 4 ls []) rfl ?_
  skip
  exact W.vret hx hb hr (fun t ht hW => ⟨⟨(), rfl, trivial, by rw [ht]; exact hP, hD⟩, hS.F ht⟩) hS.2.2 dX3_init_4

theorem inc_X5_init_5 : ∀ w ∈ u_ws RX5 TX5 2, w ∈ wsX5_init := by decide +kernel
set_option maxHeartbeats 4000000 in
set_option maxRecDepth 100000 in
theorem c_X5_init (l : Launch) (dC : Nat → ClassId) (dI : Nat → Nat → Nat) (cB cC cI cJ : ClassId) (sz : Nat) (h0 : Nat) (ln : Int32) : Met l yX5_init wsX5_init ({ frames := 1, cells := 1, slots := 3000, locals := 12 } : Room) (cP dC dI cB cC cI cJ [.ref h0] sz [(h0, .inr (5, [.null, .int ln]))]) (va_Qv (fun _ => True) (fun (u : Nat) t => va_P (dC, dI) vwCl [(h0, .inr (5, [.ref u, .int ln])), (u, .inl (cB, 3000, .inl (fun _ => 0)))] t.heap ∧ va_D (va_A [(h0, .inr (5, [.null, .int ln]))] sz) [(h0, .inr (5, [.ref u, .int ln])), (u, .inl (cB, 3000, .inl (fun _ => 0)))]) (va_A [(h0, .inr (5, [.null, .int ln]))] sz)) 1 3000 (va_A [(h0, .inr (5, [.null, .int ln]))] sz) := by
  refine Met.ofW (cc := cX5_init) (maxL := 1) (ret := none) (by decide) rfl ?_
  intro p e s m args below meth c s₁ B hml hv
  obtain ⟨rfl, hsz, hP, hG, hD0⟩ := hv
  have hx := B.exec
  have hb := B.bytes
  have hr := B.returns
  have hts := atoms_spec (ws := wsX5_init) B.pre
  have hown : s.vm.findClass RX5 = some m.cls := findClass_of_methodNamed B.named
  have hlocks := B.notSynchronized
  have hin : meth.name = "<init>" := (name_of_methodNamed B.named B.method).1
  subst hsz
  have hD := hD0.self (sz := s.heap.size)
  generalize hAe : va_A [(h0, .inr (5, [.null, .int ln]))] s.heap.size = A at hD ⊢
  have hA : ∀ q : Nat, s.heap.size ≤ q → A q := fun q h => by rw [← hAe]; exact Or.inr h
  obtain ⟨H, hH⟩ : ∃ H : Heap, H = s.heap := ⟨_, rfl⟩
  have hS : va_S A s.heap H [] := by rw [hH]; exact va_S.rf
  rw [← hH] at hP ⊢
  have hl := lv_entry ([.ref h0]) (n := 1) (Nat.le_of_ble_eq_true rfl)
  rw [lg_entry_eq]
  generalize (lg_sl ([.ref h0]) ++ List.replicate (1 - (lg_sl ([.ref h0])).length) Slot.unset).toArray = ls at hl ⊢
  have hl : lv_has ls 1 [(0, .ref h0)] := hl
  refine lv_aload_n hx hb dX5_init_0 rfl (lv_at hl 0 rfl) ?_
  refine W.objInit hx hb hown (hts (.methodLink RX5 3 objectInit) (by decide +kernel)) (hts (.instanceMethod objectInit) (by decide +kernel)) (hts (.code objectInit ⟨#[0xb1]⟩ 1 none) (by decide +kernel)) rfl (by rw [hml]; exact hl.1) rfl dX5_init_1 (Nat.le_of_ble_eq_true rfl) (Nat.le_of_ble_eq_true rfl) ?_
  refine W.eq (g2 := F0 m 4 ls []) rfl ?_
  refine lv_aload_n hx hb dX5_init_4 rfl (lv_at hl 0 rfl) ?_
  refine lv_sipush (v := 3000) hx hb dX5_init_5 (by decide) ?_
  refine g_newa (atype := .byte) hx hb (hts (.arrayClass .byte) (by decide +kernel)) (ty := .byte) rfl hG.1 hP hD hS hA 0 rfl ra_b (a0 := (3000, .inl (fun _ => 0))) (ha_b 3000) (by decide) (N' := 3000) (by decide) (by decide) (Nat.le_of_ble_eq_true rfl) (Nat.le_of_ble_eq_true rfl) dX5_init_8 (fun n8 H hP hD hS => ?_)
  have hP : va_P (dC, dI) vwCl [(h0, .inr (5, [.null, .int ln])), (n8, .inl (cB, 3000, .inl (fun _ => 0)))] H := hP
  have hD : va_D A [(h0, .inr (5, [.null, .int ln])), (n8, .inl (cB, 3000, .inl (fun _ => 0)))] := hD
  refine W.widen (k := 1) (n := 3000) (by omega) (by omega) ?_
  refine va_putF (D := (dC, dI)) (ci := 5) (v := .ref n8) (ty := .array .byte) (C := RX5) (T := TX5) (N := 2) hx hb hts inc_X5_init_5 tyX5 tyX5_ok nmX5 hown hG.1 hP hD hS 0 rfl rfl 0 (by decide) (hts (.fieldLink RX5 9 "MappingDesk$Tape" "bytes" "[B") (by decide +kernel)) (fun _ h9 => h9) rfl hin rfl (by decide +kernel) rfl rfl (Nat.le_of_ble_eq_true rfl) dX5_init_10 (fun H locs hP hD hS => ?_)
  have hP : va_P (dC, dI) vwCl [(h0, .inr (5, [.ref n8, .int ln])), (n8, .inl (cB, 3000, .inl (fun _ => 0)))] H := hP
  have hD : va_D A [(h0, .inr (5, [.ref n8, .int ln])), (n8, .inl (cB, 3000, .inl (fun _ => 0)))] := hD
  skip
  exact W.vret hx hb hr (fun t ht hW => ⟨⟨(n8), rfl, trivial, by rw [ht]; exact hP, hD⟩, hS.F ht⟩) hS.2.2 dX5_init_13

theorem inc_X6_init_6 : ∀ w ∈ u_ws RX6 TX6 3, w ∈ wsX6_init := by decide +kernel
set_option maxHeartbeats 4000000 in
set_option maxRecDepth 100000 in
theorem c_X6_init (l : Launch) (dC : Nat → ClassId) (dI : Nat → Nat → Nat) (cB cC cI cJ : ClassId) (sz : Nat) (h0 : Nat) (ln ov : Int32) : Met l yX6_init wsX6_init ({ frames := 1, cells := 1, slots := 6000, locals := 12 } : Room) (cP dC dI cB cC cI cJ [.ref h0] sz [(h0, .inr (6, [.null, .int ln, .int ov]))]) (va_Qv (fun _ => True) (fun (u : Nat) t => va_P (dC, dI) vwCl [(h0, .inr (6, [.ref u, .int ln, .int ov])), (u, .inl (cC, 6000, .inl (fun _ => 0)))] t.heap ∧ va_D (va_A [(h0, .inr (6, [.null, .int ln, .int ov]))] sz) [(h0, .inr (6, [.ref u, .int ln, .int ov])), (u, .inl (cC, 6000, .inl (fun _ => 0)))]) (va_A [(h0, .inr (6, [.null, .int ln, .int ov]))] sz)) 1 6000 (va_A [(h0, .inr (6, [.null, .int ln, .int ov]))] sz) := by
  refine Met.ofW (cc := cX6_init) (maxL := 1) (ret := none) (by decide) rfl ?_
  intro p e s m args below meth c s₁ B hml hv
  obtain ⟨rfl, hsz, hP, hG, hD0⟩ := hv
  have hx := B.exec
  have hb := B.bytes
  have hr := B.returns
  have hts := atoms_spec (ws := wsX6_init) B.pre
  have hown : s.vm.findClass RX6 = some m.cls := findClass_of_methodNamed B.named
  have hlocks := B.notSynchronized
  have hin : meth.name = "<init>" := (name_of_methodNamed B.named B.method).1
  subst hsz
  have hD := hD0.self (sz := s.heap.size)
  generalize hAe : va_A [(h0, .inr (6, [.null, .int ln, .int ov]))] s.heap.size = A at hD ⊢
  have hA : ∀ q : Nat, s.heap.size ≤ q → A q := fun q h => by rw [← hAe]; exact Or.inr h
  obtain ⟨H, hH⟩ : ∃ H : Heap, H = s.heap := ⟨_, rfl⟩
  have hS : va_S A s.heap H [] := by rw [hH]; exact va_S.rf
  rw [← hH] at hP ⊢
  have hl := lv_entry ([.ref h0]) (n := 1) (Nat.le_of_ble_eq_true rfl)
  rw [lg_entry_eq]
  generalize (lg_sl ([.ref h0]) ++ List.replicate (1 - (lg_sl ([.ref h0])).length) Slot.unset).toArray = ls at hl ⊢
  have hl : lv_has ls 1 [(0, .ref h0)] := hl
  refine lv_aload_n hx hb dX6_init_0 rfl (lv_at hl 0 rfl) ?_
  refine W.objInit hx hb hown (hts (.methodLink RX6 3 objectInit) (by decide +kernel)) (hts (.instanceMethod objectInit) (by decide +kernel)) (hts (.code objectInit ⟨#[0xb1]⟩ 1 none) (by decide +kernel)) rfl (by rw [hml]; exact hl.1) rfl dX6_init_1 (Nat.le_of_ble_eq_true rfl) (Nat.le_of_ble_eq_true rfl) ?_
  refine W.eq (g2 := F0 m 4 ls []) rfl ?_
  refine lv_aload_n hx hb dX6_init_4 rfl (lv_at hl 0 rfl) ?_
  refine lv_sipush (v := 6000) hx hb dX6_init_5 (by decide) ?_
  refine g_newa (atype := .char) hx hb (hts (.arrayClass .char) (by decide +kernel)) (ty := .char) rfl hG.1 hP hD hS hA 1 rfl ra_c (a0 := (6000, .inl (fun _ => 0))) (ha_c 6000) (by decide) (N' := 6000) (by decide) (by decide) (Nat.le_of_ble_eq_true rfl) (Nat.le_of_ble_eq_true rfl) dX6_init_8 (fun n8 H hP hD hS => ?_)
  have hP : va_P (dC, dI) vwCl [(h0, .inr (6, [.null, .int ln, .int ov])), (n8, .inl (cC, 6000, .inl (fun _ => 0)))] H := hP
  have hD : va_D A [(h0, .inr (6, [.null, .int ln, .int ov])), (n8, .inl (cC, 6000, .inl (fun _ => 0)))] := hD
  refine W.widen (k := 1) (n := 6000) (by omega) (by omega) ?_
  refine va_putF (D := (dC, dI)) (ci := 6) (v := .ref n8) (ty := .array .char) (C := RX6) (T := TX6) (N := 3) hx hb hts inc_X6_init_6 tyX6 tyX6_ok nmX6 hown hG.1 hP hD hS 0 rfl rfl 0 (by decide) (hts (.fieldLink RX6 9 "MappingDesk$Text" "characters" "[C") (by decide +kernel)) (fun _ h9 => h9) rfl hin rfl (by decide +kernel) rfl rfl (Nat.le_of_ble_eq_true rfl) dX6_init_10 (fun H locs hP hD hS => ?_)
  have hP : va_P (dC, dI) vwCl [(h0, .inr (6, [.ref n8, .int ln, .int ov])), (n8, .inl (cC, 6000, .inl (fun _ => 0)))] H := hP
  have hD : va_D A [(h0, .inr (6, [.ref n8, .int ln, .int ov])), (n8, .inl (cC, 6000, .inl (fun _ => 0)))] := hD
  skip
  exact W.vret hx hb hr (fun t ht hW => ⟨⟨(n8), rfl, trivial, by rw [ht]; exact hP, hD⟩, hS.F ht⟩) hS.2.2 dX6_init_13

theorem inc_X4_init_4 : ∀ w ∈ u_ws RX4 TX4 7, w ∈ wsX4_init := by decide +kernel
set_option maxHeartbeats 4000000 in
set_option maxRecDepth 100000 in
theorem c_X4_init (l : Launch) (dC : Nat → ClassId) (dI : Nat → Nat → Nat) (cB cC cI cJ : ClassId) (sz : Nat) (h0 : Nat) (cn : Int32) : Met l yX4_init wsX4_init ({ frames := 1, cells := 6, slots := 1800, locals := 12 } : Room) (cP dC dI cB cC cI cJ [.ref h0] sz [(h0, .inr (4, [.null, .null, .null, .null, .null, .null, .int cn]))]) (va_Qv (fun _ => True) (fun (u : Nat × Nat × Nat × Nat × Nat × Nat) t => va_P (dC, dI) vwCl [(h0, .inr (4, [.ref u.1, .ref u.2.1, .ref u.2.2.1, .ref u.2.2.2.1, .ref u.2.2.2.2.1, .ref u.2.2.2.2.2, .int cn])), (u.1, .inl (cI, 300, .inl (fun _ => 0))), (u.2.1, .inl (cI, 300, .inl (fun _ => 0))), (u.2.2.1, .inl (cI, 300, .inl (fun _ => 0))), (u.2.2.2.1, .inl (cI, 300, .inl (fun _ => 0))), (u.2.2.2.2.1, .inl (cI, 300, .inl (fun _ => 0))), (u.2.2.2.2.2, .inl (cI, 300, .inl (fun _ => 0)))] t.heap ∧ va_D (va_A [(h0, .inr (4, [.null, .null, .null, .null, .null, .null, .int cn]))] sz) [(h0, .inr (4, [.ref u.1, .ref u.2.1, .ref u.2.2.1, .ref u.2.2.2.1, .ref u.2.2.2.2.1, .ref u.2.2.2.2.2, .int cn])), (u.1, .inl (cI, 300, .inl (fun _ => 0))), (u.2.1, .inl (cI, 300, .inl (fun _ => 0))), (u.2.2.1, .inl (cI, 300, .inl (fun _ => 0))), (u.2.2.2.1, .inl (cI, 300, .inl (fun _ => 0))), (u.2.2.2.2.1, .inl (cI, 300, .inl (fun _ => 0))), (u.2.2.2.2.2, .inl (cI, 300, .inl (fun _ => 0)))]) (va_A [(h0, .inr (4, [.null, .null, .null, .null, .null, .null, .int cn]))] sz)) 6 1800 (va_A [(h0, .inr (4, [.null, .null, .null, .null, .null, .null, .int cn]))] sz) := by
  refine Met.ofW (cc := cX4_init) (maxL := 1) (ret := none) (by decide) rfl ?_
  intro p e s m args below meth c s₁ B hml hv
  obtain ⟨rfl, hsz, hP, hG, hD0⟩ := hv
  have hx := B.exec
  have hb := B.bytes
  have hr := B.returns
  have hts := atoms_spec (ws := wsX4_init) B.pre
  have hown : s.vm.findClass RX4 = some m.cls := findClass_of_methodNamed B.named
  have hlocks := B.notSynchronized
  have hin : meth.name = "<init>" := (name_of_methodNamed B.named B.method).1
  subst hsz
  have hD := hD0.self (sz := s.heap.size)
  generalize hAe : va_A [(h0, .inr (4, [.null, .null, .null, .null, .null, .null, .int cn]))] s.heap.size = A at hD ⊢
  have hA : ∀ q : Nat, s.heap.size ≤ q → A q := fun q h => by rw [← hAe]; exact Or.inr h
  obtain ⟨H, hH⟩ : ∃ H : Heap, H = s.heap := ⟨_, rfl⟩
  have hS : va_S A s.heap H [] := by rw [hH]; exact va_S.rf
  rw [← hH] at hP ⊢
  have hl := lv_entry ([.ref h0]) (n := 1) (Nat.le_of_ble_eq_true rfl)
  rw [lg_entry_eq]
  generalize (lg_sl ([.ref h0]) ++ List.replicate (1 - (lg_sl ([.ref h0])).length) Slot.unset).toArray = ls at hl ⊢
  have hl : lv_has ls 1 [(0, .ref h0)] := hl
  refine lv_aload_n hx hb dX4_init_0 rfl (lv_at hl 0 rfl) ?_
  refine W.objInit hx hb hown (hts (.methodLink RX4 3 objectInit) (by decide +kernel)) (hts (.instanceMethod objectInit) (by decide +kernel)) (hts (.code objectInit ⟨#[0xb1]⟩ 1 none) (by decide +kernel)) rfl (by rw [hml]; exact hl.1) rfl dX4_init_1 (Nat.le_of_ble_eq_true rfl) (Nat.le_of_ble_eq_true rfl) ?_
  refine W.eq (g2 := F0 m 4 ls []) rfl ?_
  refine lv_aload_n hx hb dX4_init_4 rfl (lv_at hl 0 rfl) ?_
  refine lv_sipush (v := 300) hx hb dX4_init_5 (by decide) ?_
  refine g_newa (atype := .int) hx hb (hts (.arrayClass .int) (by decide +kernel)) (ty := .int) rfl hG.1 hP hD hS hA 2 rfl ra_i (a0 := (300, .inl (fun _ => 0))) (ha_i 300) (by decide) (N' := 300) (by decide) (by decide) (Nat.le_of_ble_eq_true rfl) (Nat.le_of_ble_eq_true rfl) dX4_init_8 (fun n8 H hP hD hS => ?_)
  have hP : va_P (dC, dI) vwCl [(h0, .inr (4, [.null, .null, .null, .null, .null, .null, .int cn])), (n8, .inl (cI, 300, .inl (fun _ => 0)))] H := hP
  have hD : va_D A [(h0, .inr (4, [.null, .null, .null, .null, .null, .null, .int cn])), (n8, .inl (cI, 300, .inl (fun _ => 0)))] := hD
  refine W.widen (k := 1) (n := 300) (by omega) (by omega) ?_
  refine va_putF (D := (dC, dI)) (ci := 4) (v := .ref n8) (ty := .array .int) (C := RX4) (T := TX4) (N := 7) hx hb hts inc_X4_init_4 tyX4 tyX4_ok nmX4 hown hG.1 hP hD hS 0 rfl rfl 0 (by decide) (hts (.fieldLink RX4 9 "MappingDesk$Table" "lines" "[I") (by decide +kernel)) (fun _ h9 => h9) rfl hin rfl (by decide +kernel) rfl rfl (Nat.le_of_ble_eq_true rfl) dX4_init_10 (fun H locs hP hD hS => ?_)
  have hP : va_P (dC, dI) vwCl [(h0, .inr (4, [.ref n8, .null, .null, .null, .null, .null, .int cn])), (n8, .inl (cI, 300, .inl (fun _ => 0)))] H := hP
  have hD : va_D A [(h0, .inr (4, [.ref n8, .null, .null, .null, .null, .null, .int cn])), (n8, .inl (cI, 300, .inl (fun _ => 0)))] := hD
  refine lv_aload_n hx hb dX4_init_13 rfl (lv_at hl 0 rfl) ?_
  refine lv_sipush (v := 300) hx hb dX4_init_14 (by decide) ?_
  refine g_newa (atype := .int) hx hb (hts (.arrayClass .int) (by decide +kernel)) (ty := .int) rfl hG.1 hP hD hS hA 2 rfl ra_i (a0 := (300, .inl (fun _ => 0))) (ha_i 300) (by decide) (N' := 300) (by decide) (by decide) (Nat.le_of_ble_eq_true rfl) (Nat.le_of_ble_eq_true rfl) dX4_init_17 (fun n17 H hP hD hS => ?_)
  have hP : va_P (dC, dI) vwCl [(h0, .inr (4, [.ref n8, .null, .null, .null, .null, .null, .int cn])), (n8, .inl (cI, 300, .inl (fun _ => 0))), (n17, .inl (cI, 300, .inl (fun _ => 0)))] H := hP
  have hD : va_D A [(h0, .inr (4, [.ref n8, .null, .null, .null, .null, .null, .int cn])), (n8, .inl (cI, 300, .inl (fun _ => 0))), (n17, .inl (cI, 300, .inl (fun _ => 0)))] := hD
  refine W.widen (k := 2) (n := 600) (by omega) (by omega) ?_
  refine va_putF (D := (dC, dI)) (ci := 4) (v := .ref n17) (ty := .array .int) (C := RX4) (T := TX4) (N := 7) hx hb hts inc_X4_init_4 tyX4 tyX4_ok nmX4 hown hG.1 hP hD hS 0 rfl rfl 1 (by decide) (hts (.fieldLink RX4 15 "MappingDesk$Table" "columns" "[I") (by decide +kernel)) (fun _ h9 => h9) rfl hin rfl (by decide +kernel) rfl rfl (Nat.le_of_ble_eq_true rfl) dX4_init_19 (fun H locs hP hD hS => ?_)
  have hP : va_P (dC, dI) vwCl [(h0, .inr (4, [.ref n8, .ref n17, .null, .null, .null, .null, .int cn])), (n8, .inl (cI, 300, .inl (fun _ => 0))), (n17, .inl (cI, 300, .inl (fun _ => 0)))] H := hP
  have hD : va_D A [(h0, .inr (4, [.ref n8, .ref n17, .null, .null, .null, .null, .int cn])), (n8, .inl (cI, 300, .inl (fun _ => 0))), (n17, .inl (cI, 300, .inl (fun _ => 0)))] := hD
  refine lv_aload_n hx hb dX4_init_22 rfl (lv_at hl 0 rfl) ?_
  refine lv_sipush (v := 300) hx hb dX4_init_23 (by decide) ?_
  refine g_newa (atype := .int) hx hb (hts (.arrayClass .int) (by decide +kernel)) (ty := .int) rfl hG.1 hP hD hS hA 2 rfl ra_i (a0 := (300, .inl (fun _ => 0))) (ha_i 300) (by decide) (N' := 300) (by decide) (by decide) (Nat.le_of_ble_eq_true rfl) (Nat.le_of_ble_eq_true rfl) dX4_init_26 (fun n26 H hP hD hS => ?_)
  have hP : va_P (dC, dI) vwCl [(h0, .inr (4, [.ref n8, .ref n17, .null, .null, .null, .null, .int cn])), (n8, .inl (cI, 300, .inl (fun _ => 0))), (n17, .inl (cI, 300, .inl (fun _ => 0))), (n26, .inl (cI, 300, .inl (fun _ => 0)))] H := hP
  have hD : va_D A [(h0, .inr (4, [.ref n8, .ref n17, .null, .null, .null, .null, .int cn])), (n8, .inl (cI, 300, .inl (fun _ => 0))), (n17, .inl (cI, 300, .inl (fun _ => 0))), (n26, .inl (cI, 300, .inl (fun _ => 0)))] := hD
  refine W.widen (k := 3) (n := 900) (by omega) (by omega) ?_
  refine va_putF (D := (dC, dI)) (ci := 4) (v := .ref n26) (ty := .array .int) (C := RX4) (T := TX4) (N := 7) hx hb hts inc_X4_init_4 tyX4 tyX4_ok nmX4 hown hG.1 hP hD hS 0 rfl rfl 2 (by decide) (hts (.fieldLink RX4 18 "MappingDesk$Table" "sources" "[I") (by decide +kernel)) (fun _ h9 => h9) rfl hin rfl (by decide +kernel) rfl rfl (Nat.le_of_ble_eq_true rfl) dX4_init_28 (fun H locs hP hD hS => ?_)
  have hP : va_P (dC, dI) vwCl [(h0, .inr (4, [.ref n8, .ref n17, .ref n26, .null, .null, .null, .int cn])), (n8, .inl (cI, 300, .inl (fun _ => 0))), (n17, .inl (cI, 300, .inl (fun _ => 0))), (n26, .inl (cI, 300, .inl (fun _ => 0)))] H := hP
  have hD : va_D A [(h0, .inr (4, [.ref n8, .ref n17, .ref n26, .null, .null, .null, .int cn])), (n8, .inl (cI, 300, .inl (fun _ => 0))), (n17, .inl (cI, 300, .inl (fun _ => 0))), (n26, .inl (cI, 300, .inl (fun _ => 0)))] := hD
  refine lv_aload_n hx hb dX4_init_31 rfl (lv_at hl 0 rfl) ?_
  refine lv_sipush (v := 300) hx hb dX4_init_32 (by decide) ?_
  refine g_newa (atype := .int) hx hb (hts (.arrayClass .int) (by decide +kernel)) (ty := .int) rfl hG.1 hP hD hS hA 2 rfl ra_i (a0 := (300, .inl (fun _ => 0))) (ha_i 300) (by decide) (N' := 300) (by decide) (by decide) (Nat.le_of_ble_eq_true rfl) (Nat.le_of_ble_eq_true rfl) dX4_init_35 (fun n35 H hP hD hS => ?_)
  have hP : va_P (dC, dI) vwCl [(h0, .inr (4, [.ref n8, .ref n17, .ref n26, .null, .null, .null, .int cn])), (n8, .inl (cI, 300, .inl (fun _ => 0))), (n17, .inl (cI, 300, .inl (fun _ => 0))), (n26, .inl (cI, 300, .inl (fun _ => 0))), (n35, .inl (cI, 300, .inl (fun _ => 0)))] H := hP
  have hD : va_D A [(h0, .inr (4, [.ref n8, .ref n17, .ref n26, .null, .null, .null, .int cn])), (n8, .inl (cI, 300, .inl (fun _ => 0))), (n17, .inl (cI, 300, .inl (fun _ => 0))), (n26, .inl (cI, 300, .inl (fun _ => 0))), (n35, .inl (cI, 300, .inl (fun _ => 0)))] := hD
  refine W.widen (k := 4) (n := 1200) (by omega) (by omega) ?_
  refine va_putF (D := (dC, dI)) (ci := 4) (v := .ref n35) (ty := .array .int) (C := RX4) (T := TX4) (N := 7) hx hb hts inc_X4_init_4 tyX4 tyX4_ok nmX4 hown hG.1 hP hD hS 0 rfl rfl 3 (by decide) (hts (.fieldLink RX4 21 "MappingDesk$Table" "sourceLines" "[I") (by decide +kernel)) (fun _ h9 => h9) rfl hin rfl (by decide +kernel) rfl rfl (Nat.le_of_ble_eq_true rfl) dX4_init_37 (fun H locs hP hD hS => ?_)
  have hP : va_P (dC, dI) vwCl [(h0, .inr (4, [.ref n8, .ref n17, .ref n26, .ref n35, .null, .null, .int cn])), (n8, .inl (cI, 300, .inl (fun _ => 0))), (n17, .inl (cI, 300, .inl (fun _ => 0))), (n26, .inl (cI, 300, .inl (fun _ => 0))), (n35, .inl (cI, 300, .inl (fun _ => 0)))] H := hP
  have hD : va_D A [(h0, .inr (4, [.ref n8, .ref n17, .ref n26, .ref n35, .null, .null, .int cn])), (n8, .inl (cI, 300, .inl (fun _ => 0))), (n17, .inl (cI, 300, .inl (fun _ => 0))), (n26, .inl (cI, 300, .inl (fun _ => 0))), (n35, .inl (cI, 300, .inl (fun _ => 0)))] := hD
  refine lv_aload_n hx hb dX4_init_40 rfl (lv_at hl 0 rfl) ?_
  refine lv_sipush (v := 300) hx hb dX4_init_41 (by decide) ?_
  refine g_newa (atype := .int) hx hb (hts (.arrayClass .int) (by decide +kernel)) (ty := .int) rfl hG.1 hP hD hS hA 2 rfl ra_i (a0 := (300, .inl (fun _ => 0))) (ha_i 300) (by decide) (N' := 300) (by decide) (by decide) (Nat.le_of_ble_eq_true rfl) (Nat.le_of_ble_eq_true rfl) dX4_init_44 (fun n44 H hP hD hS => ?_)
  have hP : va_P (dC, dI) vwCl [(h0, .inr (4, [.ref n8, .ref n17, .ref n26, .ref n35, .null, .null, .int cn])), (n8, .inl (cI, 300, .inl (fun _ => 0))), (n17, .inl (cI, 300, .inl (fun _ => 0))), (n26, .inl (cI, 300, .inl (fun _ => 0))), (n35, .inl (cI, 300, .inl (fun _ => 0))), (n44, .inl (cI, 300, .inl (fun _ => 0)))] H := hP
  have hD : va_D A [(h0, .inr (4, [.ref n8, .ref n17, .ref n26, .ref n35, .null, .null, .int cn])), (n8, .inl (cI, 300, .inl (fun _ => 0))), (n17, .inl (cI, 300, .inl (fun _ => 0))), (n26, .inl (cI, 300, .inl (fun _ => 0))), (n35, .inl (cI, 300, .inl (fun _ => 0))), (n44, .inl (cI, 300, .inl (fun _ => 0)))] := hD
  refine W.widen (k := 5) (n := 1500) (by omega) (by omega) ?_
  refine va_putF (D := (dC, dI)) (ci := 4) (v := .ref n44) (ty := .array .int) (C := RX4) (T := TX4) (N := 7) hx hb hts inc_X4_init_4 tyX4 tyX4_ok nmX4 hown hG.1 hP hD hS 0 rfl rfl 4 (by decide) (hts (.fieldLink RX4 24 "MappingDesk$Table" "sourceColumns" "[I") (by decide +kernel)) (fun _ h9 => h9) rfl hin rfl (by decide +kernel) rfl rfl (Nat.le_of_ble_eq_true rfl) dX4_init_46 (fun H locs hP hD hS => ?_)
  have hP : va_P (dC, dI) vwCl [(h0, .inr (4, [.ref n8, .ref n17, .ref n26, .ref n35, .ref n44, .null, .int cn])), (n8, .inl (cI, 300, .inl (fun _ => 0))), (n17, .inl (cI, 300, .inl (fun _ => 0))), (n26, .inl (cI, 300, .inl (fun _ => 0))), (n35, .inl (cI, 300, .inl (fun _ => 0))), (n44, .inl (cI, 300, .inl (fun _ => 0)))] H := hP
  have hD : va_D A [(h0, .inr (4, [.ref n8, .ref n17, .ref n26, .ref n35, .ref n44, .null, .int cn])), (n8, .inl (cI, 300, .inl (fun _ => 0))), (n17, .inl (cI, 300, .inl (fun _ => 0))), (n26, .inl (cI, 300, .inl (fun _ => 0))), (n35, .inl (cI, 300, .inl (fun _ => 0))), (n44, .inl (cI, 300, .inl (fun _ => 0)))] := hD
  refine lv_aload_n hx hb dX4_init_49 rfl (lv_at hl 0 rfl) ?_
  refine lv_sipush (v := 300) hx hb dX4_init_50 (by decide) ?_
  refine g_newa (atype := .int) hx hb (hts (.arrayClass .int) (by decide +kernel)) (ty := .int) rfl hG.1 hP hD hS hA 2 rfl ra_i (a0 := (300, .inl (fun _ => 0))) (ha_i 300) (by decide) (N' := 300) (by decide) (by decide) (Nat.le_of_ble_eq_true rfl) (Nat.le_of_ble_eq_true rfl) dX4_init_53 (fun n53 H hP hD hS => ?_)
  have hP : va_P (dC, dI) vwCl [(h0, .inr (4, [.ref n8, .ref n17, .ref n26, .ref n35, .ref n44, .null, .int cn])), (n8, .inl (cI, 300, .inl (fun _ => 0))), (n17, .inl (cI, 300, .inl (fun _ => 0))), (n26, .inl (cI, 300, .inl (fun _ => 0))), (n35, .inl (cI, 300, .inl (fun _ => 0))), (n44, .inl (cI, 300, .inl (fun _ => 0))), (n53, .inl (cI, 300, .inl (fun _ => 0)))] H := hP
  have hD : va_D A [(h0, .inr (4, [.ref n8, .ref n17, .ref n26, .ref n35, .ref n44, .null, .int cn])), (n8, .inl (cI, 300, .inl (fun _ => 0))), (n17, .inl (cI, 300, .inl (fun _ => 0))), (n26, .inl (cI, 300, .inl (fun _ => 0))), (n35, .inl (cI, 300, .inl (fun _ => 0))), (n44, .inl (cI, 300, .inl (fun _ => 0))), (n53, .inl (cI, 300, .inl (fun _ => 0)))] := hD
  refine W.widen (k := 6) (n := 1800) (by omega) (by omega) ?_
  refine va_putF (D := (dC, dI)) (ci := 4) (v := .ref n53) (ty := .array .int) (C := RX4) (T := TX4) (N := 7) hx hb hts inc_X4_init_4 tyX4 tyX4_ok nmX4 hown hG.1 hP hD hS 0 rfl rfl 5 (by decide) (hts (.fieldLink RX4 27 "MappingDesk$Table" "names" "[I") (by decide +kernel)) (fun _ h9 => h9) rfl hin rfl (by decide +kernel) rfl rfl (Nat.le_of_ble_eq_true rfl) dX4_init_55 (fun H locs hP hD hS => ?_)
  have hP : va_P (dC, dI) vwCl [(h0, .inr (4, [.ref n8, .ref n17, .ref n26, .ref n35, .ref n44, .ref n53, .int cn])), (n8, .inl (cI, 300, .inl (fun _ => 0))), (n17, .inl (cI, 300, .inl (fun _ => 0))), (n26, .inl (cI, 300, .inl (fun _ => 0))), (n35, .inl (cI, 300, .inl (fun _ => 0))), (n44, .inl (cI, 300, .inl (fun _ => 0))), (n53, .inl (cI, 300, .inl (fun _ => 0)))] H := hP
  have hD : va_D A [(h0, .inr (4, [.ref n8, .ref n17, .ref n26, .ref n35, .ref n44, .ref n53, .int cn])), (n8, .inl (cI, 300, .inl (fun _ => 0))), (n17, .inl (cI, 300, .inl (fun _ => 0))), (n26, .inl (cI, 300, .inl (fun _ => 0))), (n35, .inl (cI, 300, .inl (fun _ => 0))), (n44, .inl (cI, 300, .inl (fun _ => 0))), (n53, .inl (cI, 300, .inl (fun _ => 0)))] := hD
  skip
  exact W.vret hx hb hr (fun t ht hW => ⟨⟨(n8, n17, n26, n35, n44, n53), rfl, trivial, by rw [ht]; exact hP, hD⟩, hS.F ht⟩) hS.2.2 dX4_init_58
