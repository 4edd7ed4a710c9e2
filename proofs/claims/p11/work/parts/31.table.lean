def fX4_isFull (cn : Int32) : Int32 :=
  if cn < 300 then
    0
  else
    1
theorem inc_X4_isFull_4 : ∀ w ∈ u_ws RX4 TX4 7, w ∈ wsX4_isFull := by decide +kernel
set_option maxHeartbeats 4000000 in
set_option maxRecDepth 100000 in
theorem c_X4_isFull (l : Launch) (dC : Nat → ClassId) (dI : Nat → Nat → Nat) (cB cC cI cJ : ClassId) (sz : Nat) (h0 q0 q1 q2 q3 q4 q5 : Nat) (cn : Int32) : Met l yX4_isFull wsX4_isFull ({ frames := 0, cells := 0, slots := 0, locals := 0 } : Room) (cP dC dI cB cC cI cJ [.ref h0] sz [(h0, .inr (4, [.ref q0, .ref q1, .ref q2, .ref q3, .ref q4, .ref q5, .int cn]))]) (vp_Si (fun r => r = (fX4_isFull cn))) 0 0 (fun _ => False) := by
  refine Met.ofW (cc := cX4_isFull) (maxL := 1) (ret := (some .boolean)) (by decide) rfl ?_
  intro p e s m args below meth c s₁ B hml hv
  obtain ⟨rfl, hsz, hP, hG, hD0⟩ := hv
  have hx := B.exec
  have hb := B.bytes
  have hr := B.returns
  have hts := atoms_spec (ws := wsX4_isFull) B.pre
  have hown : s.vm.findClass RX4 = some m.cls := findClass_of_methodNamed B.named
  have hlocks := B.notSynchronized
  subst hsz
  obtain ⟨H, hH⟩ : ∃ H : Heap, H = s.heap := ⟨_, rfl⟩
  rw [← hH] at hP ⊢
  generalize hR : fX4_isFull cn = R
  unfold fX4_isFull at hR
  have hl := lv_entry ([.ref h0]) (n := 1) (Nat.le_of_ble_eq_true rfl)
  rw [lg_entry_eq]
  generalize (lg_sl ([.ref h0]) ++ List.replicate (1 - (lg_sl ([.ref h0])).length) Slot.unset).toArray = ls at hl ⊢
  have hl : lv_has ls 1 [(0, .ref h0)] := hl
  refine lv_aload_n hx hb dX4_isFull_0 rfl (lv_at hl 0 rfl) ?_
  refine va_get (D := (dC, dI)) (ci := 4) (v := .int cn) (C := RX4) (T := TX4) (N := 7) hx hb hts inc_X4_isFull_4 hown hG.1 hP 0 rfl rfl 6 (by decide) (hts (.fieldLink RX4 30 "MappingDesk$Table" "count" "I") (by decide +kernel)) (fun _ h9 => h9) rfl dX4_isFull_1 ?_
  refine lv_sipush (v := 300) hx hb dX4_isFull_4 (by decide) ?_
  refine lv_icmp_lt (tgt := 14) hx hb dX4_isFull_7 (by decide) (fun c_1 => ?_) (fun c_1 => ?_)
  · rw [if_pos c_1] at hR
    refine lv_iconst (v := 0) hx hb dX4_isFull_14 (by decide) ?_
    subst hR
    exact W.zret (v := 0) hx hb hr rfl (fun t ht hW => ⟨0, rfl, rfl, ht.trans hH⟩) t_nil dX4_isFull_15
  · rw [if_neg c_1] at hR
    refine lv_iconst (v := 1) hx hb dX4_isFull_10 (by decide) ?_
    refine lv_goto (tgt := 15) hx hb dX4_isFull_11 (by decide) ?_
    subst hR
    exact W.zret (v := 1) hx hb hr rfl (fun t ht hW => ⟨1, rfl, rfl, ht.trans hH⟩) t_nil dX4_isFull_15

theorem X4_isFull_0 {cn : Int32} (h : fX4_isFull cn = 0) : cn.toInt < 300 := by
  unfold fX4_isFull at h
  by_cases c : cn < 300
  · have := i_lt c; rw [show (300 : Int32).toInt = 300 from by decide] at this; exact this
  · rw [if_neg c] at h; exact absurd h (by decide)
theorem X4_isFull_1 {cn : Int32} (h : ¬ fX4_isFull cn = 0) : 300 ≤ cn.toInt := by
  unfold fX4_isFull at h
  by_cases c : cn < 300
  · rw [if_pos c] at h; exact absurd rfl h
  · have := i_nlt c; rw [show (300 : Int32).toInt = 300 from by decide] at this; exact this

def fX4_tells (cn : Int32) (t2 : Nat → Int32) (x : Int32) : Int32 :=
  if (t2 x.toNatClampNeg) < 0 then
    0
  else
    1
theorem inc_X4_tells_4 : ∀ w ∈ u_ws RX4 TX4 7, w ∈ wsX4_tells := by decide +kernel
set_option maxHeartbeats 4000000 in
set_option maxRecDepth 100000 in
theorem c_X4_tells (l : Launch) (dC : Nat → ClassId) (dI : Nat → Nat → Nat) (cB cC cI cJ : ClassId) (sz : Nat) (h0 q0 q1 q2 q3 q4 q5 : Nat) (cn : Int32) (t2 : Nat → Int32) (x : Int32) (hx0 : 0 ≤ x.toInt) (hx1 : x.toInt < 300) : Met l yX4_tells wsX4_tells ({ frames := 0, cells := 0, slots := 0, locals := 0 } : Room) (cP dC dI cB cC cI cJ [.ref h0, .int x] sz [(h0, .inr (4, [.ref q0, .ref q1, .ref q2, .ref q3, .ref q4, .ref q5, .int cn])), (q2, .inl (cI, 300, .inl t2))]) (vp_Si (fun r => r = (fX4_tells cn t2 x))) 0 0 (fun _ => False) := by
  refine Met.ofW (cc := cX4_tells) (maxL := 2) (ret := (some .boolean)) (by decide) rfl ?_
  intro p e s m args below meth c s₁ B hml hv
  obtain ⟨rfl, hsz, hP, hG, hD0⟩ := hv
  have hx := B.exec
  have hb := B.bytes
  have hr := B.returns
  have hts := atoms_spec (ws := wsX4_tells) B.pre
  have hown : s.vm.findClass RX4 = some m.cls := findClass_of_methodNamed B.named
  have hlocks := B.notSynchronized
  subst hsz
  obtain ⟨H, hH⟩ : ∃ H : Heap, H = s.heap := ⟨_, rfl⟩
  rw [← hH] at hP ⊢
  generalize hR : fX4_tells cn t2 x = R
  unfold fX4_tells at hR
  have hl := lv_entry ([.ref h0, .int x]) (n := 2) (Nat.le_of_ble_eq_true rfl)
  rw [lg_entry_eq]
  generalize (lg_sl ([.ref h0, .int x]) ++ List.replicate (2 - (lg_sl ([.ref h0, .int x])).length) Slot.unset).toArray = ls at hl ⊢
  have hl : lv_has ls 2 [(0, .ref h0), (1, .int x)] := hl
  refine lv_aload_n hx hb dX4_tells_0 rfl (lv_at hl 0 rfl) ?_
  refine va_get (D := (dC, dI)) (ci := 4) (v := .ref q2) (C := RX4) (T := TX4) (N := 7) hx hb hts inc_X4_tells_4 hown hG.1 hP 0 rfl rfl 2 (by decide) (hts (.fieldLink RX4 18 "MappingDesk$Table" "sources" "[I") (by decide +kernel)) (fun _ h9 => h9) rfl dX4_tells_1 ?_
  refine lv_iload_n hx hb dX4_tells_4 rfl (lv_at hl 1 rfl) ?_
  have b_1 : vp_in x 300 := by
    refine vin ?_ ?_
    all_goals (try generalize Int32.toInt x = z0 at *; omega)
  refine va_iald hx hb hG.1 hP 1 2 rfl rfl b_1 dX4_tells_5 ?_
  refine lv_if_lt (tgt := 13) hx hb dX4_tells_6 (by decide) (fun c_4 => ?_) (fun c_4 => ?_)
  · rw [if_pos c_4] at hR
    refine lv_iconst (v := 0) hx hb dX4_tells_13 (by decide) ?_
    subst hR
    exact W.zret (v := 0) hx hb hr rfl (fun t ht hW => ⟨0, rfl, rfl, ht.trans hH⟩) t_nil dX4_tells_14
  · rw [if_neg c_4] at hR
    refine lv_iconst (v := 1) hx hb dX4_tells_9 (by decide) ?_
    refine lv_goto (tgt := 14) hx hb dX4_tells_10 (by decide) ?_
    subst hR
    exact W.zret (v := 1) hx hb hr rfl (fun t ht hW => ⟨1, rfl, rfl, ht.trans hH⟩) t_nil dX4_tells_14

def fX4_isBeyond (cn : Int32) (t0 t1 : Nat → Int32) (g0 g1 g2 g3 g4 g5 : Int32) (x : Int32) : Int32 :=
  if g0 < (t0 x.toNatClampNeg) then
    1
  else
    if (t0 x.toNatClampNeg) = g0 then
      if (t1 x.toNatClampNeg) ≤ g1 then
        0
      else
        1
    else
      0
theorem inc_X4_isBeyond_4 : ∀ w ∈ u_ws RX4 TX4 7, w ∈ wsX4_isBeyond := by decide +kernel
theorem inc_X4_isBeyond_3 : ∀ w ∈ u_ws RX3 TX3 6, w ∈ wsX4_isBeyond := by decide +kernel
set_option maxHeartbeats 4000000 in
set_option maxRecDepth 100000 in
theorem c_X4_isBeyond (l : Launch) (dC : Nat → ClassId) (dI : Nat → Nat → Nat) (cB cC cI cJ : ClassId) (sz : Nat) (h0 h1 q0 q1 q2 q3 q4 q5 : Nat) (cn : Int32) (t0 t1 : Nat → Int32) (g0 g1 g2 g3 g4 g5 : Int32) (x : Int32) (hx0 : 0 ≤ x.toInt) (hx1 : x.toInt < 300) : Met l yX4_isBeyond wsX4_isBeyond ({ frames := 0, cells := 0, slots := 0, locals := 0 } : Room) (cP dC dI cB cC cI cJ [.ref h0, .int x, .ref h1] sz [(h0, .inr (4, [.ref q0, .ref q1, .ref q2, .ref q3, .ref q4, .ref q5, .int cn])), (q0, .inl (cI, 300, .inl t0)), (q1, .inl (cI, 300, .inl t1)), (h1, .inr (3, [.int g0, .int g1, .int g2, .int g3, .int g4, .int g5]))]) (vp_Si (fun r => r = (fX4_isBeyond cn t0 t1 g0 g1 g2 g3 g4 g5 x))) 0 0 (fun _ => False) := by
  refine Met.ofW (cc := cX4_isBeyond) (maxL := 3) (ret := (some .boolean)) (by decide) rfl ?_
  intro p e s m args below meth c s₁ B hml hv
  obtain ⟨rfl, hsz, hP, hG, hD0⟩ := hv
  have hx := B.exec
  have hb := B.bytes
  have hr := B.returns
  have hts := atoms_spec (ws := wsX4_isBeyond) B.pre
  have hown : s.vm.findClass RX4 = some m.cls := findClass_of_methodNamed B.named
  have hlocks := B.notSynchronized
  subst hsz
  obtain ⟨H, hH⟩ : ∃ H : Heap, H = s.heap := ⟨_, rfl⟩
  rw [← hH] at hP ⊢
  generalize hR : fX4_isBeyond cn t0 t1 g0 g1 g2 g3 g4 g5 x = R
  unfold fX4_isBeyond at hR
  have hl := lv_entry ([.ref h0, .int x, .ref h1]) (n := 3) (Nat.le_of_ble_eq_true rfl)
  rw [lg_entry_eq]
  generalize (lg_sl ([.ref h0, .int x, .ref h1]) ++ List.replicate (3 - (lg_sl ([.ref h0, .int x, .ref h1])).length) Slot.unset).toArray = ls at hl ⊢
  have hl : lv_has ls 3 [(0, .ref h0), (1, .int x), (2, .ref h1)] := hl
  refine lv_aload_n hx hb dX4_isBeyond_0 rfl (lv_at hl 0 rfl) ?_
  refine va_get (D := (dC, dI)) (ci := 4) (v := .ref q0) (C := RX4) (T := TX4) (N := 7) hx hb hts inc_X4_isBeyond_4 hown hG.1 hP 0 rfl rfl 0 (by decide) (hts (.fieldLink RX4 9 "MappingDesk$Table" "lines" "[I") (by decide +kernel)) (fun _ h9 => h9) rfl dX4_isBeyond_1 ?_
  refine lv_iload_n hx hb dX4_isBeyond_4 rfl (lv_at hl 1 rfl) ?_
  have b_1 : vp_in x 300 := by
    refine vin ?_ ?_
    all_goals (try generalize Int32.toInt x = z0 at *; omega)
  refine va_iald hx hb hG.1 hP 1 2 rfl rfl b_1 dX4_isBeyond_5 ?_
  refine lv_aload_n hx hb dX4_isBeyond_6 rfl (lv_at hl 2 rfl) ?_
  refine va_getN (D := (dC, dI)) (ci := 3) (v := .int g0) (C := RX3) (T := TX3) (N := 6) hx hb hts inc_X4_isBeyond_3 hown hG.1 hP 3 rfl rfl 0 (by decide) (hG.nf (a := RX4) (i := 46) (b := "MappingDesk$Segment") (n := "line") (d := "I") (t := "MappingDesk") (by decide +kernel)) (fun _ h9 => h9) rfl dX4_isBeyond_7 ?_
  refine lv_icmp_gt (tgt := 39) hx hb dX4_isBeyond_10 (by decide) (fun c_4 => ?_) (fun c_4 => ?_)
  · rw [if_pos c_4] at hR
    refine lv_iconst (v := 1) hx hb dX4_isBeyond_39 (by decide) ?_
    refine lv_goto (tgt := 44) hx hb dX4_isBeyond_40 (by decide) ?_
    subst hR
    exact W.zret (v := 1) hx hb hr rfl (fun t ht hW => ⟨1, rfl, rfl, ht.trans hH⟩) t_nil dX4_isBeyond_44
  · rw [if_neg c_4] at hR
    refine lv_aload_n hx hb dX4_isBeyond_13 rfl (lv_at hl 0 rfl) ?_
    refine va_get (D := (dC, dI)) (ci := 4) (v := .ref q0) (C := RX4) (T := TX4) (N := 7) hx hb hts inc_X4_isBeyond_4 hown hG.1 hP 0 rfl rfl 0 (by decide) (hts (.fieldLink RX4 9 "MappingDesk$Table" "lines" "[I") (by decide +kernel)) (fun _ h9 => h9) rfl dX4_isBeyond_14 ?_
    refine lv_iload_n hx hb dX4_isBeyond_17 rfl (lv_at hl 1 rfl) ?_
    have b_5 : vp_in x 300 := by
      have q_6 := i_nlt c_4
      refine vin ?_ ?_
      all_goals (try generalize Int32.toInt (t0 x.toNatClampNeg) = z0 at *; try generalize Int32.toInt g0 = z1 at *; try generalize Int32.toInt x = z2 at *; omega)
    refine va_iald hx hb hG.1 hP 1 2 rfl rfl b_5 dX4_isBeyond_18 ?_
    refine lv_aload_n hx hb dX4_isBeyond_19 rfl (lv_at hl 2 rfl) ?_
    refine va_getN (D := (dC, dI)) (ci := 3) (v := .int g0) (C := RX3) (T := TX3) (N := 6) hx hb hts inc_X4_isBeyond_3 hown hG.1 hP 3 rfl rfl 0 (by decide) (hG.nf (a := RX4) (i := 46) (b := "MappingDesk$Segment") (n := "line") (d := "I") (t := "MappingDesk") (by decide +kernel)) (fun _ h9 => h9) rfl dX4_isBeyond_20 ?_
    refine lv_icmp_ne (tgt := 43) hx hb dX4_isBeyond_23 (by decide) (fun c_9 => ?_) (fun c_9 => ?_)
    · rw [if_neg c_9] at hR
      refine lv_iconst (v := 0) hx hb dX4_isBeyond_43 (by decide) ?_
      subst hR
      exact W.zret (v := 0) hx hb hr rfl (fun t ht hW => ⟨0, rfl, rfl, ht.trans hH⟩) t_nil dX4_isBeyond_44
    · rw [if_pos c_9] at hR
      refine lv_aload_n hx hb dX4_isBeyond_26 rfl (lv_at hl 0 rfl) ?_
      refine va_get (D := (dC, dI)) (ci := 4) (v := .ref q1) (C := RX4) (T := TX4) (N := 7) hx hb hts inc_X4_isBeyond_4 hown hG.1 hP 0 rfl rfl 1 (by decide) (hts (.fieldLink RX4 15 "MappingDesk$Table" "columns" "[I") (by decide +kernel)) (fun _ h9 => h9) rfl dX4_isBeyond_27 ?_
      refine lv_iload_n hx hb dX4_isBeyond_30 rfl (lv_at hl 1 rfl) ?_
      have b_10 : vp_in x 300 := by
        have q_11 := i_nlt c_4
        have q_12 := i_eq c_9
        refine vin ?_ ?_
        all_goals (try generalize Int32.toInt (t0 x.toNatClampNeg) = z0 at *; try generalize Int32.toInt g0 = z1 at *; try generalize Int32.toInt x = z2 at *; omega)
      refine va_iald hx hb hG.1 hP 2 2 rfl rfl b_10 dX4_isBeyond_31 ?_
      refine lv_aload_n hx hb dX4_isBeyond_32 rfl (lv_at hl 2 rfl) ?_
      refine va_getN (D := (dC, dI)) (ci := 3) (v := .int g1) (C := RX3) (T := TX3) (N := 6) hx hb hts inc_X4_isBeyond_3 hown hG.1 hP 3 rfl rfl 1 (by decide) (hG.nf (a := RX4) (i := 51) (b := "MappingDesk$Segment") (n := "column") (d := "I") (t := "MappingDesk") (by decide +kernel)) (fun _ h9 => h9) rfl dX4_isBeyond_33 ?_
      refine lv_icmp_le (tgt := 43) hx hb dX4_isBeyond_36 (by decide) (fun c_15 => ?_) (fun c_15 => ?_)
      · rw [if_pos c_15] at hR
        refine lv_iconst (v := 0) hx hb dX4_isBeyond_43 (by decide) ?_
        subst hR
        exact W.zret (v := 0) hx hb hr rfl (fun t ht hW => ⟨0, rfl, rfl, ht.trans hH⟩) t_nil dX4_isBeyond_44
      · rw [if_neg c_15] at hR
        refine lv_iconst (v := 1) hx hb dX4_isBeyond_39 (by decide) ?_
        refine lv_goto (tgt := 44) hx hb dX4_isBeyond_40 (by decide) ?_
        subst hR
        exact W.zret (v := 1) hx hb hr rfl (fun t ht hW => ⟨1, rfl, rfl, ht.trans hH⟩) t_nil dX4_isBeyond_44

def fX4_findTelling_7 (cn : Int32) (t0 t1 t2 : Nat → Int32) (x y : Int32) : Nat → Int32 → Int32
  | 0, _ => 0
  | n + 1, i =>
    if i < 0 then
      (-1)
    else
      if (t0 i.toNatClampNeg) = x then
        if y < (t1 i.toNatClampNeg) then
          fX4_findTelling_7 cn t0 t1 t2 x y n (i + (-1))
        else
          bnd (fX4_tells cn t2 i) fun r_71 =>
          if r_71 = 0 then
            (-1)
          else
            i
      else
        fX4_findTelling_7 cn t0 t1 t2 x y n (i + (-1))
def fX4_findTelling (cn : Int32) (t0 t1 t2 : Nat → Int32) (x y : Int32) : Int32 :=
  fX4_findTelling_7 cn t0 t1 t2 x y 302 (cn - 1)
theorem inc_X4_findTelling_4 : ∀ w ∈ u_ws RX4 TX4 7, w ∈ wsX4_findTelling := by decide +kernel
set_option maxHeartbeats 4000000 in
set_option maxRecDepth 100000 in
theorem c_X4_findTelling (l : Launch) (dC : Nat → ClassId) (dI : Nat → Nat → Nat) (cB cC cI cJ : ClassId) (sz : Nat) (h0 q0 q1 q2 q3 q4 q5 : Nat) (cn : Int32) (t0 t1 t2 : Nat → Int32) (x y : Int32) (hc0 : 0 ≤ cn.toInt) (hc1 : cn.toInt ≤ 300) : Met l yX4_findTelling wsX4_findTelling ({ frames := 1, cells := 0, slots := 0, locals := 21 } : Room) (cP dC dI cB cC cI cJ [.ref h0, .int x, .int y] sz [(h0, .inr (4, [.ref q0, .ref q1, .ref q2, .ref q3, .ref q4, .ref q5, .int cn])), (q0, .inl (cI, 300, .inl t0)), (q1, .inl (cI, 300, .inl t1)), (q2, .inl (cI, 300, .inl t2))]) (vp_Si (fun r => r = (fX4_findTelling cn t0 t1 t2 x y) ∧ (-1 ≤ (fX4_findTelling cn t0 t1 t2 x y).toInt ∧ (fX4_findTelling cn t0 t1 t2 x y).toInt < 300))) 0 0 (fun _ => False) := by
  refine Met.ofW (cc := cX4_findTelling) (maxL := 4) (ret := (some .int)) (by decide) rfl ?_
  intro p e s m args below meth c s₁ B hml hv
  obtain ⟨rfl, hsz, hP, hG, hD0⟩ := hv
  have hx := B.exec
  have hb := B.bytes
  have hr := B.returns
  have hts := atoms_spec (ws := wsX4_findTelling) B.pre
  have hown : s.vm.findClass RX4 = some m.cls := findClass_of_methodNamed B.named
  have hlocks := B.notSynchronized
  subst hsz
  obtain ⟨H, hH⟩ : ∃ H : Heap, H = s.heap := ⟨_, rfl⟩
  rw [← hH] at hP ⊢
  generalize hR : fX4_findTelling cn t0 t1 t2 x y = R
  unfold fX4_findTelling at hR
  have hl := lv_entry ([.ref h0, .int x, .int y]) (n := 4) (Nat.le_of_ble_eq_true rfl)
  rw [lg_entry_eq]
  generalize (lg_sl ([.ref h0, .int x, .int y]) ++ List.replicate (4 - (lg_sl ([.ref h0, .int x, .int y])).length) Slot.unset).toArray = ls at hl ⊢
  have hl : lv_has ls 4 [(0, .ref h0), (1, .int x), (2, .int y)] := hl
  have loop_7 : ∀ (n : Nat), ∀ (i : Int32) (ls : Array Slot), fX4_findTelling_7 cn t0 t1 t2 x y n i = R → (-1 ≤ i.toInt) → (i.toInt < 300) → (i.toInt + 1 < ((n : Nat) : Int)) → lv_has ls 4 [(0, .ref h0), (1, .int x), (2, .int y), (3, .int i)] → W p l e (headSpec wsX4_findTelling ({ frames := 1, cells := 0, slots := 0, locals := 21 } : Room)).room s m ([.ref h0, .int x, .int y] : List Value).toArray below meth c H [] 0 0 (MQ below (vp_Si (fun r => r = R ∧ (-1 ≤ R.toInt ∧ R.toInt < 300))) ([.ref h0, .int x, .int y] : List Value).toArray s 0 0 (fun _ => False)) (F0 m 7 ls []) := by
    intro n
    induction n with
    | zero => intro i ls hR hi0 hi1 hmu; exfalso; omega
    | succ n ih =>
      intro i ls hR hi0 hi1 hmu hl
      rw [fX4_findTelling_7] at hR
      refine lv_iload_n hx hb dX4_findTelling_7 rfl (lv_at hl 3 rfl) ?_
      refine lv_if_lt (tgt := 51) hx hb dX4_findTelling_8 (by decide) (fun c_1 => ?_) (fun c_1 => ?_)
      · rw [if_pos c_1] at hR
        refine lv_iconst (v := (-1)) hx hb dX4_findTelling_51 (by decide) ?_
        have e_2 : -1 ≤ ((-1) : Int32).toInt ∧ ((-1) : Int32).toInt < 300 := by
          have k_3 : (0 : Int32).toInt = 0 := by decide
          have q_4 := i_lt c_1
          have k_5 : ((-1) : Int32).toInt = -1 := by decide
          try generalize Int32.toInt ((-1) : Int32) = z0 at *
          try generalize Int32.toInt cn = z1 at *
          try generalize Int32.toInt (0 : Int32) = z2 at *
          try generalize Int32.toInt i = z3 at *
          omega
        subst hR
        exact W.iret (v := (-1)) hx hb hr (fun t ht hW => ⟨(-1), rfl, ⟨rfl, e_2⟩, ht.trans hH⟩) t_nil dX4_findTelling_52
      · rw [if_neg c_1] at hR
        refine lv_aload_n hx hb dX4_findTelling_11 rfl (lv_at hl 0 rfl) ?_
        refine va_get (D := (dC, dI)) (ci := 4) (v := .ref q0) (C := RX4) (T := TX4) (N := 7) hx hb hts inc_X4_findTelling_4 hown hG.1 hP 0 rfl rfl 0 (by decide) (hts (.fieldLink RX4 9 "MappingDesk$Table" "lines" "[I") (by decide +kernel)) (fun _ h9 => h9) rfl dX4_findTelling_12 ?_
        refine lv_iload_n hx hb dX4_findTelling_15 rfl (lv_at hl 3 rfl) ?_
        have b_6 : vp_in i 300 := by
          have k_7 : (0 : Int32).toInt = 0 := by decide
          have q_8 := i_nlt c_1
          refine vin ?_ ?_
          all_goals (try generalize Int32.toInt cn = z0 at *; try generalize Int32.toInt (0 : Int32) = z1 at *; try generalize Int32.toInt i = z2 at *; omega)
        refine va_iald hx hb hG.1 hP 1 2 rfl rfl b_6 dX4_findTelling_16 ?_
        refine lv_iload_n hx hb dX4_findTelling_17 rfl (lv_at hl 1 rfl) ?_
        refine lv_icmp_ne (tgt := 45) hx hb dX4_findTelling_18 (by decide) (fun c_11 => ?_) (fun c_11 => ?_)
        · rw [if_neg c_11] at hR
          refine lv_iinc (v := (i + (-1))) (lv' := [(3, .int (i + (-1))), (0, .ref h0), (1, .int x), (2, .int y)]) hx hb dX4_findTelling_45 hl (k := 3) rfl rfl (by decide) rfl (fun ls hl => ?_)
          refine lv_goto (tgt := 7) hx hb dX4_findTelling_48 (by decide) ?_
          have v_15 : -1 ≤ ((i + (-1))).toInt := by
            have k_16 : (0 : Int32).toInt = 0 := by decide
            have q_17 := i_nlt c_1
            have q_18 := i_ne c_11
            have k_19 : ((-1) : Int32).toInt = -1 := by decide
            have t_20 := ti_add (a := i) (b := (-1)) (by omega) (by omega)
            try generalize Int32.toInt (t0 i.toNatClampNeg) = z0 at *
            try generalize Int32.toInt (i + (-1)) = z1 at *
            try generalize Int32.toInt ((-1) : Int32) = z2 at *
            try generalize Int32.toInt cn = z3 at *
            try generalize Int32.toInt (0 : Int32) = z4 at *
            try generalize Int32.toInt i = z5 at *
            try generalize Int32.toInt x = z6 at *
            omega
          have v_21 : ((i + (-1))).toInt < 300 := by
            have k_22 : (0 : Int32).toInt = 0 := by decide
            have q_23 := i_nlt c_1
            have q_24 := i_ne c_11
            have k_25 : ((-1) : Int32).toInt = -1 := by decide
            have t_26 := ti_add (a := i) (b := (-1)) (by omega) (by omega)
            try generalize Int32.toInt (t0 i.toNatClampNeg) = z0 at *
            try generalize Int32.toInt (i + (-1)) = z1 at *
            try generalize Int32.toInt ((-1) : Int32) = z2 at *
            try generalize Int32.toInt cn = z3 at *
            try generalize Int32.toInt (0 : Int32) = z4 at *
            try generalize Int32.toInt i = z5 at *
            try generalize Int32.toInt x = z6 at *
            omega
          have v_27 : ((i + (-1))).toInt + 1 < ((n : Nat) : Int) := by
            have k_28 : (0 : Int32).toInt = 0 := by decide
            have q_29 := i_nlt c_1
            have q_30 := i_ne c_11
            have k_31 : ((-1) : Int32).toInt = -1 := by decide
            have t_32 := ti_add (a := i) (b := (-1)) (by omega) (by omega)
            try generalize Int32.toInt (t0 i.toNatClampNeg) = z0 at *
            try generalize Int32.toInt (i + (-1)) = z1 at *
            try generalize Int32.toInt ((-1) : Int32) = z2 at *
            try generalize Int32.toInt cn = z3 at *
            try generalize Int32.toInt (0 : Int32) = z4 at *
            try generalize Int32.toInt i = z5 at *
            try generalize Int32.toInt x = z6 at *
            omega
          exact ih ((i + (-1)))  ls hR v_15 v_21 v_27 (lv_sub hl [1, 2, 3, 0] rfl)
        · rw [if_pos c_11] at hR
          refine lv_aload_n hx hb dX4_findTelling_21 rfl (lv_at hl 0 rfl) ?_
          refine va_get (D := (dC, dI)) (ci := 4) (v := .ref q1) (C := RX4) (T := TX4) (N := 7) hx hb hts inc_X4_findTelling_4 hown hG.1 hP 0 rfl rfl 1 (by decide) (hts (.fieldLink RX4 15 "MappingDesk$Table" "columns" "[I") (by decide +kernel)) (fun _ h9 => h9) rfl dX4_findTelling_22 ?_
          refine lv_iload_n hx hb dX4_findTelling_25 rfl (lv_at hl 3 rfl) ?_
          have b_33 : vp_in i 300 := by
            have k_34 : (0 : Int32).toInt = 0 := by decide
            have q_35 := i_nlt c_1
            have q_36 := i_eq c_11
            refine vin ?_ ?_
            all_goals (try generalize Int32.toInt (t0 i.toNatClampNeg) = z0 at *; try generalize Int32.toInt cn = z1 at *; try generalize Int32.toInt (0 : Int32) = z2 at *; try generalize Int32.toInt i = z3 at *; try generalize Int32.toInt x = z4 at *; omega)
          refine va_iald hx hb hG.1 hP 2 2 rfl rfl b_33 dX4_findTelling_26 ?_
          refine lv_iload_n hx hb dX4_findTelling_27 rfl (lv_at hl 2 rfl) ?_
          refine lv_icmp_gt (tgt := 45) hx hb dX4_findTelling_28 (by decide) (fun c_39 => ?_) (fun c_39 => ?_)
          · rw [if_pos c_39] at hR
            refine lv_iinc (v := (i + (-1))) (lv' := [(3, .int (i + (-1))), (0, .ref h0), (1, .int x), (2, .int y)]) hx hb dX4_findTelling_45 hl (k := 3) rfl rfl (by decide) rfl (fun ls hl => ?_)
            refine lv_goto (tgt := 7) hx hb dX4_findTelling_48 (by decide) ?_
            have v_44 : -1 ≤ ((i + (-1))).toInt := by
              have k_45 : (0 : Int32).toInt = 0 := by decide
              have q_46 := i_nlt c_1
              have q_47 := i_eq c_11
              have q_48 := i_lt c_39
              have k_49 : ((-1) : Int32).toInt = -1 := by decide
              have t_50 := ti_add (a := i) (b := (-1)) (by omega) (by omega)
              try generalize Int32.toInt (t0 i.toNatClampNeg) = z0 at *
              try generalize Int32.toInt (t1 i.toNatClampNeg) = z1 at *
              try generalize Int32.toInt (i + (-1)) = z2 at *
              try generalize Int32.toInt ((-1) : Int32) = z3 at *
              try generalize Int32.toInt cn = z4 at *
              try generalize Int32.toInt (0 : Int32) = z5 at *
              try generalize Int32.toInt i = z6 at *
              try generalize Int32.toInt x = z7 at *
              try generalize Int32.toInt y = z8 at *
              omega
            have v_51 : ((i + (-1))).toInt < 300 := by
              have k_52 : (0 : Int32).toInt = 0 := by decide
              have q_53 := i_nlt c_1
              have q_54 := i_eq c_11
              have q_55 := i_lt c_39
              have k_56 : ((-1) : Int32).toInt = -1 := by decide
              have t_57 := ti_add (a := i) (b := (-1)) (by omega) (by omega)
              try generalize Int32.toInt (t0 i.toNatClampNeg) = z0 at *
              try generalize Int32.toInt (t1 i.toNatClampNeg) = z1 at *
              try generalize Int32.toInt (i + (-1)) = z2 at *
              try generalize Int32.toInt ((-1) : Int32) = z3 at *
              try generalize Int32.toInt cn = z4 at *
              try generalize Int32.toInt (0 : Int32) = z5 at *
              try generalize Int32.toInt i = z6 at *
              try generalize Int32.toInt x = z7 at *
              try generalize Int32.toInt y = z8 at *
              omega
            have v_58 : ((i + (-1))).toInt + 1 < ((n : Nat) : Int) := by
              have k_59 : (0 : Int32).toInt = 0 := by decide
              have q_60 := i_nlt c_1
              have q_61 := i_eq c_11
              have q_62 := i_lt c_39
              have k_63 : ((-1) : Int32).toInt = -1 := by decide
              have t_64 := ti_add (a := i) (b := (-1)) (by omega) (by omega)
              try generalize Int32.toInt (t0 i.toNatClampNeg) = z0 at *
              try generalize Int32.toInt (t1 i.toNatClampNeg) = z1 at *
              try generalize Int32.toInt (i + (-1)) = z2 at *
              try generalize Int32.toInt ((-1) : Int32) = z3 at *
              try generalize Int32.toInt cn = z4 at *
              try generalize Int32.toInt (0 : Int32) = z5 at *
              try generalize Int32.toInt i = z6 at *
              try generalize Int32.toInt x = z7 at *
              try generalize Int32.toInt y = z8 at *
              omega
            exact ih ((i + (-1)))  ls hR v_44 v_51 v_58 (lv_sub hl [1, 2, 3, 0] rfl)
          · rw [if_neg c_39] at hR
            refine lv_aload_n hx hb dX4_findTelling_31 rfl (lv_at hl 0 rfl) ?_
            refine lv_iload_n hx hb dX4_findTelling_32 rfl (lv_at hl 3 rfl) ?_
            have p_65 : 0 ≤ i.toInt := by
              have k_66 : (0 : Int32).toInt = 0 := by decide
              have q_67 := i_nlt c_1
              have q_68 := i_eq c_11
              have q_69 := i_nlt c_39
              try generalize Int32.toInt (t0 i.toNatClampNeg) = z0 at *
              try generalize Int32.toInt (t1 i.toNatClampNeg) = z1 at *
              try generalize Int32.toInt cn = z2 at *
              try generalize Int32.toInt (0 : Int32) = z3 at *
              try generalize Int32.toInt i = z4 at *
              try generalize Int32.toInt x = z5 at *
              try generalize Int32.toInt y = z6 at *
              first | omega | exact ⟨by omega, by omega⟩
            have p_70 : i.toInt < 300 := by
              first | exact hi1 | assumption
            have hPc := hP.sub (ws' := [(h0, .inr (4, [.ref q0, .ref q1, .ref q2, .ref q3, .ref q4, .ref q5, .int cn])), (q2, .inl (cI, 300, .inl t2))]) [0, 3] rfl
            have hDc := hD0.sub (ws' := [(h0, .inr (4, [.ref q0, .ref q1, .ref q2, .ref q3, .ref q4, .ref q5, .int cn])), (q2, .inl (cI, 300, .inl t2))]) [0, 3] (by decide) rfl
            refine vp_callSi (va_Run.run (va_runV (As := [.int i]) (rest := []) ⟨hx, hb, hml, hown, hts⟩ (c_X4_tells l dC dI cB cC cI cJ H.size h0 q0 q1 q2 q3 q4 q5 cn t2 i p_65 p_70) (cwV 1 hts gX4_findTelling_X4_tells rfl rfl rfl (by decide +kernel) ⟨(Nat.le_of_ble_eq_true rfl), (Nat.le_of_ble_eq_true rfl)⟩) ⟨cP_blind, va_recv hG.1 hPc (ci := 4) (q0 := 0) rfl rfl, cP_pre hPc hG hDc⟩ rfl rfl hl.1 rfl (lv_room (Nat.le_of_ble_eq_true rfl)) dX4_findTelling_33 ⟨Nat.le_of_ble_eq_true rfl, Nat.le_of_ble_eq_true rfl⟩)) (fun r_71 hr_71 => ?_)
            rw [bnd_eq hr_71.symm] at hR
            refine lv_if_eq (tgt := 43) hx hb dX4_findTelling_36 (by decide) (fun c_72 => ?_) (fun c_72 => ?_)
            · rw [if_pos c_72] at hR
              refine lv_iconst (v := (-1)) hx hb dX4_findTelling_43 (by decide) ?_
              have e_73 : -1 ≤ ((-1) : Int32).toInt ∧ ((-1) : Int32).toInt < 300 := by
                have k_74 : (0 : Int32).toInt = 0 := by decide
                have q_75 := i_nlt c_1
                have q_76 := i_eq c_11
                have q_77 := i_nlt c_39
                have q_78 := i_eq c_72
                have k_79 : ((-1) : Int32).toInt = -1 := by decide
                try generalize Int32.toInt (t0 i.toNatClampNeg) = z0 at *
                try generalize Int32.toInt (t1 i.toNatClampNeg) = z1 at *
                try generalize Int32.toInt ((-1) : Int32) = z2 at *
                try generalize Int32.toInt r_71 = z3 at *
                try generalize Int32.toInt cn = z4 at *
                try generalize Int32.toInt (0 : Int32) = z5 at *
                try generalize Int32.toInt i = z6 at *
                try generalize Int32.toInt x = z7 at *
                try generalize Int32.toInt y = z8 at *
                omega
              subst hR
              exact W.iret (v := (-1)) hx hb hr (fun t ht hW => ⟨(-1), rfl, ⟨rfl, e_73⟩, ht.trans hH⟩) t_nil dX4_findTelling_44
            · rw [if_neg c_72] at hR
              refine lv_iload_n hx hb dX4_findTelling_39 rfl (lv_at hl 3 rfl) ?_
              refine lv_goto (tgt := 44) hx hb dX4_findTelling_40 (by decide) ?_
              have e_80 : -1 ≤ (i : Int32).toInt ∧ (i : Int32).toInt < 300 := by
                have k_81 : (0 : Int32).toInt = 0 := by decide
                have q_82 := i_nlt c_1
                have q_83 := i_eq c_11
                have q_84 := i_nlt c_39
                have q_85 := i_ne c_72
                try generalize Int32.toInt (t0 i.toNatClampNeg) = z0 at *
                try generalize Int32.toInt (t1 i.toNatClampNeg) = z1 at *
                try generalize Int32.toInt r_71 = z2 at *
                try generalize Int32.toInt cn = z3 at *
                try generalize Int32.toInt (0 : Int32) = z4 at *
                try generalize Int32.toInt i = z5 at *
                try generalize Int32.toInt x = z6 at *
                try generalize Int32.toInt y = z7 at *
                omega
              subst hR
              exact W.iret (v := i) hx hb hr (fun t ht hW => ⟨i, rfl, ⟨rfl, e_80⟩, ht.trans hH⟩) t_nil dX4_findTelling_44
  refine lv_aload_n hx hb dX4_findTelling_0 rfl (lv_at hl 0 rfl) ?_
  refine va_get (D := (dC, dI)) (ci := 4) (v := .int cn) (C := RX4) (T := TX4) (N := 7) hx hb hts inc_X4_findTelling_4 hown hG.1 hP 0 rfl rfl 6 (by decide) (hts (.fieldLink RX4 30 "MappingDesk$Table" "count" "I") (by decide +kernel)) (fun _ h9 => h9) rfl dX4_findTelling_1 ?_
  refine lv_iconst (v := 1) hx hb dX4_findTelling_4 (by decide) ?_
  refine lv_isub hx hb dX4_findTelling_5 ?_
  refine lv_istore_n (lv' := [(3, .int (cn - 1)), (0, .ref h0), (1, .int x), (2, .int y)]) hx hb dX4_findTelling_6 rfl hl (by decide) rfl (fun ls hl => ?_)
  have v_86 : -1 ≤ ((cn - 1)).toInt := by
    have k_87 : (1 : Int32).toInt = 1 := by decide
    have t_88 := ti_sub (a := cn) (b := 1) (by omega) (by omega)
    try generalize Int32.toInt (cn - 1) = z0 at *
    try generalize Int32.toInt cn = z1 at *
    try generalize Int32.toInt (1 : Int32) = z2 at *
    omega
  have v_89 : ((cn - 1)).toInt < 300 := by
    have k_90 : (1 : Int32).toInt = 1 := by decide
    have t_91 := ti_sub (a := cn) (b := 1) (by omega) (by omega)
    try generalize Int32.toInt (cn - 1) = z0 at *
    try generalize Int32.toInt cn = z1 at *
    try generalize Int32.toInt (1 : Int32) = z2 at *
    omega
  have v_92 : ((cn - 1)).toInt + 1 < ((302 : Nat) : Int) := by
    have k_93 : (1 : Int32).toInt = 1 := by decide
    have t_94 := ti_sub (a := cn) (b := 1) (by omega) (by omega)
    try generalize Int32.toInt (cn - 1) = z0 at *
    try generalize Int32.toInt cn = z1 at *
    try generalize Int32.toInt (1 : Int32) = z2 at *
    omega
  exact loop_7 302 ((cn - 1))  ls hR v_86 v_89 v_92 (lv_sub hl [1, 2, 3, 0] rfl)

def fX4_makeGap (cn : Int32) (t0 t1 t2 t3 t4 t5 : Nat → Int32) (x : Int32) : (Nat → Int32) × (Nat → Int32) × (Nat → Int32) × (Nat → Int32) × (Nat → Int32) × (Nat → Int32) :=
  ((va_cpy t0 t0 x.toNatClampNeg (x + 1).toNatClampNeg (cn - x).toNatClampNeg), (va_cpy t1 t1 x.toNatClampNeg (x + 1).toNatClampNeg (cn - x).toNatClampNeg), (va_cpy t2 t2 x.toNatClampNeg (x + 1).toNatClampNeg (cn - x).toNatClampNeg), (va_cpy t3 t3 x.toNatClampNeg (x + 1).toNatClampNeg (cn - x).toNatClampNeg), (va_cpy t4 t4 x.toNatClampNeg (x + 1).toNatClampNeg (cn - x).toNatClampNeg), (va_cpy t5 t5 x.toNatClampNeg (x + 1).toNatClampNeg (cn - x).toNatClampNeg))
theorem inc_X4_makeGap_4 : ∀ w ∈ u_ws RX4 TX4 7, w ∈ wsX4_makeGap := by decide +kernel
set_option maxHeartbeats 4000000 in
set_option maxRecDepth 100000 in
theorem c_X4_makeGap (l : Launch) (dC : Nat → ClassId) (dI : Nat → Nat → Nat) (cB cC cI cJ : ClassId) (sz : Nat) (h0 q0 q1 q2 q3 q4 q5 : Nat) (cn : Int32) (t0 t1 t2 t3 t4 t5 : Nat → Int32) (x : Int32) (hx0 : 0 ≤ x.toInt) (hx1 : x.toInt ≤ cn.toInt) (hc1 : cn.toInt < 300) : Met l yX4_makeGap wsX4_makeGap ({ frames := 1, cells := 0, slots := 0, locals := 40 } : Room) (cP dC dI cB cC cI cJ [.ref h0, .int x] sz [(h0, .inr (4, [.ref q0, .ref q1, .ref q2, .ref q3, .ref q4, .ref q5, .int cn])), (q0, .inl (cI, 300, .inl t0)), (q1, .inl (cI, 300, .inl t1)), (q2, .inl (cI, 300, .inl t2)), (q3, .inl (cI, 300, .inl t3)), (q4, .inl (cI, 300, .inl t4)), (q5, .inl (cI, 300, .inl t5))]) (va_Qv (fun _ => True) (cE dC dI (va_A [(h0, .inr (4, [.ref q0, .ref q1, .ref q2, .ref q3, .ref q4, .ref q5, .int cn])), (q0, .inl (cI, 300, .inl t0)), (q1, .inl (cI, 300, .inl t1)), (q2, .inl (cI, 300, .inl t2)), (q3, .inl (cI, 300, .inl t3)), (q4, .inl (cI, 300, .inl t4)), (q5, .inl (cI, 300, .inl t5))] sz) [(h0, .inr (4, [.ref q0, .ref q1, .ref q2, .ref q3, .ref q4, .ref q5, .int cn])), (q0, .inl (cI, 300, .inl (fX4_makeGap cn t0 t1 t2 t3 t4 t5 x).1)), (q1, .inl (cI, 300, .inl (fX4_makeGap cn t0 t1 t2 t3 t4 t5 x).2.1)), (q2, .inl (cI, 300, .inl (fX4_makeGap cn t0 t1 t2 t3 t4 t5 x).2.2.1)), (q3, .inl (cI, 300, .inl (fX4_makeGap cn t0 t1 t2 t3 t4 t5 x).2.2.2.1)), (q4, .inl (cI, 300, .inl (fX4_makeGap cn t0 t1 t2 t3 t4 t5 x).2.2.2.2.1)), (q5, .inl (cI, 300, .inl (fX4_makeGap cn t0 t1 t2 t3 t4 t5 x).2.2.2.2.2))]) (va_A [(h0, .inr (4, [.ref q0, .ref q1, .ref q2, .ref q3, .ref q4, .ref q5, .int cn])), (q0, .inl (cI, 300, .inl t0)), (q1, .inl (cI, 300, .inl t1)), (q2, .inl (cI, 300, .inl t2)), (q3, .inl (cI, 300, .inl t3)), (q4, .inl (cI, 300, .inl t4)), (q5, .inl (cI, 300, .inl t5))] sz)) 0 0 (va_A [(h0, .inr (4, [.ref q0, .ref q1, .ref q2, .ref q3, .ref q4, .ref q5, .int cn])), (q0, .inl (cI, 300, .inl t0)), (q1, .inl (cI, 300, .inl t1)), (q2, .inl (cI, 300, .inl t2)), (q3, .inl (cI, 300, .inl t3)), (q4, .inl (cI, 300, .inl t4)), (q5, .inl (cI, 300, .inl t5))] sz) := by
  refine Met.ofW (cc := cX4_makeGap) (maxL := 3) (ret := none) (by decide) rfl ?_
  intro p e s m args below meth c s₁ B hml hv
  obtain ⟨rfl, hsz, hP, hG, hD0⟩ := hv
  have hx := B.exec
  have hb := B.bytes
  have hr := B.returns
  have hts := atoms_spec (ws := wsX4_makeGap) B.pre
  have hown : s.vm.findClass RX4 = some m.cls := findClass_of_methodNamed B.named
  have hlocks := B.notSynchronized
  subst hsz
  have hD := hD0.self (sz := s.heap.size)
  generalize hAe : va_A [(h0, .inr (4, [.ref q0, .ref q1, .ref q2, .ref q3, .ref q4, .ref q5, .int cn])), (q0, .inl (cI, 300, .inl t0)), (q1, .inl (cI, 300, .inl t1)), (q2, .inl (cI, 300, .inl t2)), (q3, .inl (cI, 300, .inl t3)), (q4, .inl (cI, 300, .inl t4)), (q5, .inl (cI, 300, .inl t5))] s.heap.size = A at hD ⊢
  have hA : ∀ q : Nat, s.heap.size ≤ q → A q := fun q h => by rw [← hAe]; exact Or.inr h
  obtain ⟨H, hH⟩ : ∃ H : Heap, H = s.heap := ⟨_, rfl⟩
  have hS : va_S A s.heap H [] := by rw [hH]; exact va_S.rf
  rw [← hH] at hP ⊢
  generalize hR : fX4_makeGap cn t0 t1 t2 t3 t4 t5 x = R
  unfold fX4_makeGap at hR
  have hl := lv_entry ([.ref h0, .int x]) (n := 3) (Nat.le_of_ble_eq_true rfl)
  rw [lg_entry_eq]
  generalize (lg_sl ([.ref h0, .int x]) ++ List.replicate (3 - (lg_sl ([.ref h0, .int x])).length) Slot.unset).toArray = ls at hl ⊢
  have hl : lv_has ls 3 [(0, .ref h0), (1, .int x)] := hl
  refine lv_aload_n hx hb dX4_makeGap_0 rfl (lv_at hl 0 rfl) ?_
  refine va_get (D := (dC, dI)) (ci := 4) (v := .int cn) (C := RX4) (T := TX4) (N := 7) hx hb hts inc_X4_makeGap_4 hown hG.1 hP 0 rfl rfl 6 (by decide) (hts (.fieldLink RX4 30 "MappingDesk$Table" "count" "I") (by decide +kernel)) (fun _ h9 => h9) rfl dX4_makeGap_1 ?_
  refine lv_iload_n hx hb dX4_makeGap_4 rfl (lv_at hl 1 rfl) ?_
  refine lv_isub hx hb dX4_makeGap_5 ?_
  refine lv_istore_n (lv' := [(2, .int (cn - x)), (0, .ref h0), (1, .int x)]) hx hb dX4_makeGap_6 rfl hl (by decide) rfl (fun ls hl => ?_)
  refine lv_aload_n hx hb dX4_makeGap_7 rfl (lv_at hl 1 rfl) ?_
  refine va_get (D := (dC, dI)) (ci := 4) (v := .ref q0) (C := RX4) (T := TX4) (N := 7) hx hb hts inc_X4_makeGap_4 hown hG.1 hP 0 rfl rfl 0 (by decide) (hts (.fieldLink RX4 9 "MappingDesk$Table" "lines" "[I") (by decide +kernel)) (fun _ h9 => h9) rfl dX4_makeGap_8 ?_
  refine lv_iload_n hx hb dX4_makeGap_11 rfl (lv_at hl 2 rfl) ?_
  refine lv_aload_n hx hb dX4_makeGap_12 rfl (lv_at hl 1 rfl) ?_
  refine va_get (D := (dC, dI)) (ci := 4) (v := .ref q0) (C := RX4) (T := TX4) (N := 7) hx hb hts inc_X4_makeGap_4 hown hG.1 hP 0 rfl rfl 0 (by decide) (hts (.fieldLink RX4 9 "MappingDesk$Table" "lines" "[I") (by decide +kernel)) (fun _ h9 => h9) rfl dX4_makeGap_13 ?_
  refine lv_iload_n hx hb dX4_makeGap_16 rfl (lv_at hl 2 rfl) ?_
  refine lv_iconst (v := 1) hx hb dX4_makeGap_17 (by decide) ?_
  refine lv_iadd hx hb dX4_makeGap_18 ?_
  refine lv_iload_n hx hb dX4_makeGap_19 rfl (lv_at hl 0 rfl) ?_
  have a_1 : 0 ≤ (x : Int32).toInt := by
    try generalize Int32.toInt cn = z0 at *
    try generalize Int32.toInt x = z1 at *
    omega
  have a_2 : 0 ≤ ((x + 1) : Int32).toInt := by
    have k_3 : (1 : Int32).toInt = 1 := by decide
    have t_4 := ti_add (a := x) (b := 1) (by omega) (by omega)
    try generalize Int32.toInt (x + 1) = z0 at *
    try generalize Int32.toInt cn = z1 at *
    try generalize Int32.toInt (1 : Int32) = z2 at *
    try generalize Int32.toInt x = z3 at *
    omega
  have a_5 : 0 ≤ ((cn - x) : Int32).toInt := by
    have t_6 := ti_sub (a := cn) (b := x) (by omega) (by omega)
    try generalize Int32.toInt (cn - x) = z0 at *
    try generalize Int32.toInt cn = z1 at *
    try generalize Int32.toInt x = z2 at *
    omega
  have a_7 : (x : Int32).toInt + ((cn - x) : Int32).toInt ≤ 300 := by
    have t_8 := ti_sub (a := cn) (b := x) (by omega) (by omega)
    try generalize Int32.toInt (cn - x) = z0 at *
    try generalize Int32.toInt cn = z1 at *
    try generalize Int32.toInt x = z2 at *
    omega
  have a_9 : ((x + 1) : Int32).toInt + ((cn - x) : Int32).toInt ≤ 300 := by
    have k_10 : (1 : Int32).toInt = 1 := by decide
    have t_11 := ti_add (a := x) (b := 1) (by omega) (by omega)
    have t_12 := ti_sub (a := cn) (b := x) (by omega) (by omega)
    try generalize Int32.toInt (cn - x) = z0 at *
    try generalize Int32.toInt (x + 1) = z1 at *
    try generalize Int32.toInt cn = z2 at *
    try generalize Int32.toInt (1 : Int32) = z3 at *
    try generalize Int32.toInt x = z4 at *
    omega
  refine va_copyi hx hb (by rw [hml]; exact hl.1.symm) hown (hts (.methodLink RX4 66 arraycopyName) (by decide +kernel)) (hts (.native arraycopyName) (by decide +kernel)) (hts (.static arraycopyName) (by decide +kernel)) (hts (.initialized "java/lang/System") (by decide +kernel)) hG.1 hP hD hS 1 1 2 2 (ty := .int) rfl rfl rfl rfl rfl (i_z a_1) (i_z a_2) (i_z a_5) (i_s a_1 a_5 a_7) (i_s a_2 a_5 a_9) (fun i _ => rfl) (Nat.le_of_ble_eq_true rfl) (by decide) dX4_makeGap_20 (fun H locs hP hD hS => ?_)
  have hP : va_P (dC, dI) vwCl [(h0, .inr (4, [.ref q0, .ref q1, .ref q2, .ref q3, .ref q4, .ref q5, .int cn])), (q0, .inl (cI, 300, .inl (va_cpy t0 t0 x.toNatClampNeg (x + 1).toNatClampNeg (cn - x).toNatClampNeg))), (q1, .inl (cI, 300, .inl t1)), (q2, .inl (cI, 300, .inl t2)), (q3, .inl (cI, 300, .inl t3)), (q4, .inl (cI, 300, .inl t4)), (q5, .inl (cI, 300, .inl t5))] H := hP
  have hD : va_D A [(h0, .inr (4, [.ref q0, .ref q1, .ref q2, .ref q3, .ref q4, .ref q5, .int cn])), (q0, .inl (cI, 300, .inl (va_cpy t0 t0 x.toNatClampNeg (x + 1).toNatClampNeg (cn - x).toNatClampNeg))), (q1, .inl (cI, 300, .inl t1)), (q2, .inl (cI, 300, .inl t2)), (q3, .inl (cI, 300, .inl t3)), (q4, .inl (cI, 300, .inl t4)), (q5, .inl (cI, 300, .inl t5))] := hD
  refine lv_aload_n hx hb dX4_makeGap_23 rfl (lv_at hl 1 rfl) ?_
  refine va_get (D := (dC, dI)) (ci := 4) (v := .ref q1) (C := RX4) (T := TX4) (N := 7) hx hb hts inc_X4_makeGap_4 hown hG.1 hP 0 rfl rfl 1 (by decide) (hts (.fieldLink RX4 15 "MappingDesk$Table" "columns" "[I") (by decide +kernel)) (fun _ h9 => h9) rfl dX4_makeGap_24 ?_
  refine lv_iload_n hx hb dX4_makeGap_27 rfl (lv_at hl 2 rfl) ?_
  refine lv_aload_n hx hb dX4_makeGap_28 rfl (lv_at hl 1 rfl) ?_
  refine va_get (D := (dC, dI)) (ci := 4) (v := .ref q1) (C := RX4) (T := TX4) (N := 7) hx hb hts inc_X4_makeGap_4 hown hG.1 hP 0 rfl rfl 1 (by decide) (hts (.fieldLink RX4 15 "MappingDesk$Table" "columns" "[I") (by decide +kernel)) (fun _ h9 => h9) rfl dX4_makeGap_29 ?_
  refine lv_iload_n hx hb dX4_makeGap_32 rfl (lv_at hl 2 rfl) ?_
  refine lv_iconst (v := 1) hx hb dX4_makeGap_33 (by decide) ?_
  refine lv_iadd hx hb dX4_makeGap_34 ?_
  refine lv_iload_n hx hb dX4_makeGap_35 rfl (lv_at hl 0 rfl) ?_
  have a_13 : 0 ≤ (x : Int32).toInt := by
    try generalize Int32.toInt cn = z0 at *
    try generalize Int32.toInt x = z1 at *
    omega
  have a_14 : 0 ≤ ((x + 1) : Int32).toInt := by
    have k_15 : (1 : Int32).toInt = 1 := by decide
    have t_16 := ti_add (a := x) (b := 1) (by omega) (by omega)
    try generalize Int32.toInt (x + 1) = z0 at *
    try generalize Int32.toInt cn = z1 at *
    try generalize Int32.toInt (1 : Int32) = z2 at *
    try generalize Int32.toInt x = z3 at *
    omega
  have a_17 : 0 ≤ ((cn - x) : Int32).toInt := by
    have t_18 := ti_sub (a := cn) (b := x) (by omega) (by omega)
    try generalize Int32.toInt (cn - x) = z0 at *
    try generalize Int32.toInt cn = z1 at *
    try generalize Int32.toInt x = z2 at *
    omega
  have a_19 : (x : Int32).toInt + ((cn - x) : Int32).toInt ≤ 300 := by
    have t_20 := ti_sub (a := cn) (b := x) (by omega) (by omega)
    try generalize Int32.toInt (cn - x) = z0 at *
    try generalize Int32.toInt cn = z1 at *
    try generalize Int32.toInt x = z2 at *
    omega
  have a_21 : ((x + 1) : Int32).toInt + ((cn - x) : Int32).toInt ≤ 300 := by
    have k_22 : (1 : Int32).toInt = 1 := by decide
    have t_23 := ti_add (a := x) (b := 1) (by omega) (by omega)
    have t_24 := ti_sub (a := cn) (b := x) (by omega) (by omega)
    try generalize Int32.toInt (cn - x) = z0 at *
    try generalize Int32.toInt (x + 1) = z1 at *
    try generalize Int32.toInt cn = z2 at *
    try generalize Int32.toInt (1 : Int32) = z3 at *
    try generalize Int32.toInt x = z4 at *
    omega
  refine va_copyi hx hb (by rw [hml]; exact hl.1.symm) hown (hts (.methodLink RX4 66 arraycopyName) (by decide +kernel)) (hts (.native arraycopyName) (by decide +kernel)) (hts (.static arraycopyName) (by decide +kernel)) (hts (.initialized "java/lang/System") (by decide +kernel)) hG.1 hP hD hS 2 2 2 2 (ty := .int) rfl rfl rfl rfl rfl (i_z a_13) (i_z a_14) (i_z a_17) (i_s a_13 a_17 a_19) (i_s a_14 a_17 a_21) (fun i _ => rfl) (Nat.le_of_ble_eq_true rfl) (by decide) dX4_makeGap_36 (fun H locs hP hD hS => ?_)
  have hP : va_P (dC, dI) vwCl [(h0, .inr (4, [.ref q0, .ref q1, .ref q2, .ref q3, .ref q4, .ref q5, .int cn])), (q0, .inl (cI, 300, .inl (va_cpy t0 t0 x.toNatClampNeg (x + 1).toNatClampNeg (cn - x).toNatClampNeg))), (q1, .inl (cI, 300, .inl (va_cpy t1 t1 x.toNatClampNeg (x + 1).toNatClampNeg (cn - x).toNatClampNeg))), (q2, .inl (cI, 300, .inl t2)), (q3, .inl (cI, 300, .inl t3)), (q4, .inl (cI, 300, .inl t4)), (q5, .inl (cI, 300, .inl t5))] H := hP
  have hD : va_D A [(h0, .inr (4, [.ref q0, .ref q1, .ref q2, .ref q3, .ref q4, .ref q5, .int cn])), (q0, .inl (cI, 300, .inl (va_cpy t0 t0 x.toNatClampNeg (x + 1).toNatClampNeg (cn - x).toNatClampNeg))), (q1, .inl (cI, 300, .inl (va_cpy t1 t1 x.toNatClampNeg (x + 1).toNatClampNeg (cn - x).toNatClampNeg))), (q2, .inl (cI, 300, .inl t2)), (q3, .inl (cI, 300, .inl t3)), (q4, .inl (cI, 300, .inl t4)), (q5, .inl (cI, 300, .inl t5))] := hD
  refine lv_aload_n hx hb dX4_makeGap_39 rfl (lv_at hl 1 rfl) ?_
  refine va_get (D := (dC, dI)) (ci := 4) (v := .ref q2) (C := RX4) (T := TX4) (N := 7) hx hb hts inc_X4_makeGap_4 hown hG.1 hP 0 rfl rfl 2 (by decide) (hts (.fieldLink RX4 18 "MappingDesk$Table" "sources" "[I") (by decide +kernel)) (fun _ h9 => h9) rfl dX4_makeGap_40 ?_
  refine lv_iload_n hx hb dX4_makeGap_43 rfl (lv_at hl 2 rfl) ?_
  refine lv_aload_n hx hb dX4_makeGap_44 rfl (lv_at hl 1 rfl) ?_
  refine va_get (D := (dC, dI)) (ci := 4) (v := .ref q2) (C := RX4) (T := TX4) (N := 7) hx hb hts inc_X4_makeGap_4 hown hG.1 hP 0 rfl rfl 2 (by decide) (hts (.fieldLink RX4 18 "MappingDesk$Table" "sources" "[I") (by decide +kernel)) (fun _ h9 => h9) rfl dX4_makeGap_45 ?_
  refine lv_iload_n hx hb dX4_makeGap_48 rfl (lv_at hl 2 rfl) ?_
  refine lv_iconst (v := 1) hx hb dX4_makeGap_49 (by decide) ?_
  refine lv_iadd hx hb dX4_makeGap_50 ?_
  refine lv_iload_n hx hb dX4_makeGap_51 rfl (lv_at hl 0 rfl) ?_
  have a_25 : 0 ≤ (x : Int32).toInt := by
    try generalize Int32.toInt cn = z0 at *
    try generalize Int32.toInt x = z1 at *
    omega
  have a_26 : 0 ≤ ((x + 1) : Int32).toInt := by
    have k_27 : (1 : Int32).toInt = 1 := by decide
    have t_28 := ti_add (a := x) (b := 1) (by omega) (by omega)
    try generalize Int32.toInt (x + 1) = z0 at *
    try generalize Int32.toInt cn = z1 at *
    try generalize Int32.toInt (1 : Int32) = z2 at *
    try generalize Int32.toInt x = z3 at *
    omega
  have a_29 : 0 ≤ ((cn - x) : Int32).toInt := by
    have t_30 := ti_sub (a := cn) (b := x) (by omega) (by omega)
    try generalize Int32.toInt (cn - x) = z0 at *
    try generalize Int32.toInt cn = z1 at *
    try generalize Int32.toInt x = z2 at *
    omega
  have a_31 : (x : Int32).toInt + ((cn - x) : Int32).toInt ≤ 300 := by
    have t_32 := ti_sub (a := cn) (b := x) (by omega) (by omega)
    try generalize Int32.toInt (cn - x) = z0 at *
    try generalize Int32.toInt cn = z1 at *
    try generalize Int32.toInt x = z2 at *
    omega
  have a_33 : ((x + 1) : Int32).toInt + ((cn - x) : Int32).toInt ≤ 300 := by
    have k_34 : (1 : Int32).toInt = 1 := by decide
    have t_35 := ti_add (a := x) (b := 1) (by omega) (by omega)
    have t_36 := ti_sub (a := cn) (b := x) (by omega) (by omega)
    try generalize Int32.toInt (cn - x) = z0 at *
    try generalize Int32.toInt (x + 1) = z1 at *
    try generalize Int32.toInt cn = z2 at *
    try generalize Int32.toInt (1 : Int32) = z3 at *
    try generalize Int32.toInt x = z4 at *
    omega
  refine va_copyi hx hb (by rw [hml]; exact hl.1.symm) hown (hts (.methodLink RX4 66 arraycopyName) (by decide +kernel)) (hts (.native arraycopyName) (by decide +kernel)) (hts (.static arraycopyName) (by decide +kernel)) (hts (.initialized "java/lang/System") (by decide +kernel)) hG.1 hP hD hS 3 3 2 2 (ty := .int) rfl rfl rfl rfl rfl (i_z a_25) (i_z a_26) (i_z a_29) (i_s a_25 a_29 a_31) (i_s a_26 a_29 a_33) (fun i _ => rfl) (Nat.le_of_ble_eq_true rfl) (by decide) dX4_makeGap_52 (fun H locs hP hD hS => ?_)
  have hP : va_P (dC, dI) vwCl [(h0, .inr (4, [.ref q0, .ref q1, .ref q2, .ref q3, .ref q4, .ref q5, .int cn])), (q0, .inl (cI, 300, .inl (va_cpy t0 t0 x.toNatClampNeg (x + 1).toNatClampNeg (cn - x).toNatClampNeg))), (q1, .inl (cI, 300, .inl (va_cpy t1 t1 x.toNatClampNeg (x + 1).toNatClampNeg (cn - x).toNatClampNeg))), (q2, .inl (cI, 300, .inl (va_cpy t2 t2 x.toNatClampNeg (x + 1).toNatClampNeg (cn - x).toNatClampNeg))), (q3, .inl (cI, 300, .inl t3)), (q4, .inl (cI, 300, .inl t4)), (q5, .inl (cI, 300, .inl t5))] H := hP
  have hD : va_D A [(h0, .inr (4, [.ref q0, .ref q1, .ref q2, .ref q3, .ref q4, .ref q5, .int cn])), (q0, .inl (cI, 300, .inl (va_cpy t0 t0 x.toNatClampNeg (x + 1).toNatClampNeg (cn - x).toNatClampNeg))), (q1, .inl (cI, 300, .inl (va_cpy t1 t1 x.toNatClampNeg (x + 1).toNatClampNeg (cn - x).toNatClampNeg))), (q2, .inl (cI, 300, .inl (va_cpy t2 t2 x.toNatClampNeg (x + 1).toNatClampNeg (cn - x).toNatClampNeg))), (q3, .inl (cI, 300, .inl t3)), (q4, .inl (cI, 300, .inl t4)), (q5, .inl (cI, 300, .inl t5))] := hD
  refine lv_aload_n hx hb dX4_makeGap_55 rfl (lv_at hl 1 rfl) ?_
  refine va_get (D := (dC, dI)) (ci := 4) (v := .ref q3) (C := RX4) (T := TX4) (N := 7) hx hb hts inc_X4_makeGap_4 hown hG.1 hP 0 rfl rfl 3 (by decide) (hts (.fieldLink RX4 21 "MappingDesk$Table" "sourceLines" "[I") (by decide +kernel)) (fun _ h9 => h9) rfl dX4_makeGap_56 ?_
  refine lv_iload_n hx hb dX4_makeGap_59 rfl (lv_at hl 2 rfl) ?_
  refine lv_aload_n hx hb dX4_makeGap_60 rfl (lv_at hl 1 rfl) ?_
  refine va_get (D := (dC, dI)) (ci := 4) (v := .ref q3) (C := RX4) (T := TX4) (N := 7) hx hb hts inc_X4_makeGap_4 hown hG.1 hP 0 rfl rfl 3 (by decide) (hts (.fieldLink RX4 21 "MappingDesk$Table" "sourceLines" "[I") (by decide +kernel)) (fun _ h9 => h9) rfl dX4_makeGap_61 ?_
  refine lv_iload_n hx hb dX4_makeGap_64 rfl (lv_at hl 2 rfl) ?_
  refine lv_iconst (v := 1) hx hb dX4_makeGap_65 (by decide) ?_
  refine lv_iadd hx hb dX4_makeGap_66 ?_
  refine lv_iload_n hx hb dX4_makeGap_67 rfl (lv_at hl 0 rfl) ?_
  have a_37 : 0 ≤ (x : Int32).toInt := by
    try generalize Int32.toInt cn = z0 at *
    try generalize Int32.toInt x = z1 at *
    omega
  have a_38 : 0 ≤ ((x + 1) : Int32).toInt := by
    have k_39 : (1 : Int32).toInt = 1 := by decide
    have t_40 := ti_add (a := x) (b := 1) (by omega) (by omega)
    try generalize Int32.toInt (x + 1) = z0 at *
    try generalize Int32.toInt cn = z1 at *
    try generalize Int32.toInt (1 : Int32) = z2 at *
    try generalize Int32.toInt x = z3 at *
    omega
  have a_41 : 0 ≤ ((cn - x) : Int32).toInt := by
    have t_42 := ti_sub (a := cn) (b := x) (by omega) (by omega)
    try generalize Int32.toInt (cn - x) = z0 at *
    try generalize Int32.toInt cn = z1 at *
    try generalize Int32.toInt x = z2 at *
    omega
  have a_43 : (x : Int32).toInt + ((cn - x) : Int32).toInt ≤ 300 := by
    have t_44 := ti_sub (a := cn) (b := x) (by omega) (by omega)
    try generalize Int32.toInt (cn - x) = z0 at *
    try generalize Int32.toInt cn = z1 at *
    try generalize Int32.toInt x = z2 at *
    omega
  have a_45 : ((x + 1) : Int32).toInt + ((cn - x) : Int32).toInt ≤ 300 := by
    have k_46 : (1 : Int32).toInt = 1 := by decide
    have t_47 := ti_add (a := x) (b := 1) (by omega) (by omega)
    have t_48 := ti_sub (a := cn) (b := x) (by omega) (by omega)
    try generalize Int32.toInt (cn - x) = z0 at *
    try generalize Int32.toInt (x + 1) = z1 at *
    try generalize Int32.toInt cn = z2 at *
    try generalize Int32.toInt (1 : Int32) = z3 at *
    try generalize Int32.toInt x = z4 at *
    omega
  refine va_copyi hx hb (by rw [hml]; exact hl.1.symm) hown (hts (.methodLink RX4 66 arraycopyName) (by decide +kernel)) (hts (.native arraycopyName) (by decide +kernel)) (hts (.static arraycopyName) (by decide +kernel)) (hts (.initialized "java/lang/System") (by decide +kernel)) hG.1 hP hD hS 4 4 2 2 (ty := .int) rfl rfl rfl rfl rfl (i_z a_37) (i_z a_38) (i_z a_41) (i_s a_37 a_41 a_43) (i_s a_38 a_41 a_45) (fun i _ => rfl) (Nat.le_of_ble_eq_true rfl) (by decide) dX4_makeGap_68 (fun H locs hP hD hS => ?_)
  have hP : va_P (dC, dI) vwCl [(h0, .inr (4, [.ref q0, .ref q1, .ref q2, .ref q3, .ref q4, .ref q5, .int cn])), (q0, .inl (cI, 300, .inl (va_cpy t0 t0 x.toNatClampNeg (x + 1).toNatClampNeg (cn - x).toNatClampNeg))), (q1, .inl (cI, 300, .inl (va_cpy t1 t1 x.toNatClampNeg (x + 1).toNatClampNeg (cn - x).toNatClampNeg))), (q2, .inl (cI, 300, .inl (va_cpy t2 t2 x.toNatClampNeg (x + 1).toNatClampNeg (cn - x).toNatClampNeg))), (q3, .inl (cI, 300, .inl (va_cpy t3 t3 x.toNatClampNeg (x + 1).toNatClampNeg (cn - x).toNatClampNeg))), (q4, .inl (cI, 300, .inl t4)), (q5, .inl (cI, 300, .inl t5))] H := hP
  have hD : va_D A [(h0, .inr (4, [.ref q0, .ref q1, .ref q2, .ref q3, .ref q4, .ref q5, .int cn])), (q0, .inl (cI, 300, .inl (va_cpy t0 t0 x.toNatClampNeg (x + 1).toNatClampNeg (cn - x).toNatClampNeg))), (q1, .inl (cI, 300, .inl (va_cpy t1 t1 x.toNatClampNeg (x + 1).toNatClampNeg (cn - x).toNatClampNeg))), (q2, .inl (cI, 300, .inl (va_cpy t2 t2 x.toNatClampNeg (x + 1).toNatClampNeg (cn - x).toNatClampNeg))), (q3, .inl (cI, 300, .inl (va_cpy t3 t3 x.toNatClampNeg (x + 1).toNatClampNeg (cn - x).toNatClampNeg))), (q4, .inl (cI, 300, .inl t4)), (q5, .inl (cI, 300, .inl t5))] := hD
  refine lv_aload_n hx hb dX4_makeGap_71 rfl (lv_at hl 1 rfl) ?_
  refine va_get (D := (dC, dI)) (ci := 4) (v := .ref q4) (C := RX4) (T := TX4) (N := 7) hx hb hts inc_X4_makeGap_4 hown hG.1 hP 0 rfl rfl 4 (by decide) (hts (.fieldLink RX4 24 "MappingDesk$Table" "sourceColumns" "[I") (by decide +kernel)) (fun _ h9 => h9) rfl dX4_makeGap_72 ?_
  refine lv_iload_n hx hb dX4_makeGap_75 rfl (lv_at hl 2 rfl) ?_
  refine lv_aload_n hx hb dX4_makeGap_76 rfl (lv_at hl 1 rfl) ?_
  refine va_get (D := (dC, dI)) (ci := 4) (v := .ref q4) (C := RX4) (T := TX4) (N := 7) hx hb hts inc_X4_makeGap_4 hown hG.1 hP 0 rfl rfl 4 (by decide) (hts (.fieldLink RX4 24 "MappingDesk$Table" "sourceColumns" "[I") (by decide +kernel)) (fun _ h9 => h9) rfl dX4_makeGap_77 ?_
  refine lv_iload_n hx hb dX4_makeGap_80 rfl (lv_at hl 2 rfl) ?_
  refine lv_iconst (v := 1) hx hb dX4_makeGap_81 (by decide) ?_
  refine lv_iadd hx hb dX4_makeGap_82 ?_
  refine lv_iload_n hx hb dX4_makeGap_83 rfl (lv_at hl 0 rfl) ?_
  have a_49 : 0 ≤ (x : Int32).toInt := by
    try generalize Int32.toInt cn = z0 at *
    try generalize Int32.toInt x = z1 at *
    omega
  have a_50 : 0 ≤ ((x + 1) : Int32).toInt := by
    have k_51 : (1 : Int32).toInt = 1 := by decide
    have t_52 := ti_add (a := x) (b := 1) (by omega) (by omega)
    try generalize Int32.toInt (x + 1) = z0 at *
    try generalize Int32.toInt cn = z1 at *
    try generalize Int32.toInt (1 : Int32) = z2 at *
    try generalize Int32.toInt x = z3 at *
    omega
  have a_53 : 0 ≤ ((cn - x) : Int32).toInt := by
    have t_54 := ti_sub (a := cn) (b := x) (by omega) (by omega)
    try generalize Int32.toInt (cn - x) = z0 at *
    try generalize Int32.toInt cn = z1 at *
    try generalize Int32.toInt x = z2 at *
    omega
  have a_55 : (x : Int32).toInt + ((cn - x) : Int32).toInt ≤ 300 := by
    have t_56 := ti_sub (a := cn) (b := x) (by omega) (by omega)
    try generalize Int32.toInt (cn - x) = z0 at *
    try generalize Int32.toInt cn = z1 at *
    try generalize Int32.toInt x = z2 at *
    omega
  have a_57 : ((x + 1) : Int32).toInt + ((cn - x) : Int32).toInt ≤ 300 := by
    have k_58 : (1 : Int32).toInt = 1 := by decide
    have t_59 := ti_add (a := x) (b := 1) (by omega) (by omega)
    have t_60 := ti_sub (a := cn) (b := x) (by omega) (by omega)
    try generalize Int32.toInt (cn - x) = z0 at *
    try generalize Int32.toInt (x + 1) = z1 at *
    try generalize Int32.toInt cn = z2 at *
    try generalize Int32.toInt (1 : Int32) = z3 at *
    try generalize Int32.toInt x = z4 at *
    omega
  refine va_copyi hx hb (by rw [hml]; exact hl.1.symm) hown (hts (.methodLink RX4 66 arraycopyName) (by decide +kernel)) (hts (.native arraycopyName) (by decide +kernel)) (hts (.static arraycopyName) (by decide +kernel)) (hts (.initialized "java/lang/System") (by decide +kernel)) hG.1 hP hD hS 5 5 2 2 (ty := .int) rfl rfl rfl rfl rfl (i_z a_49) (i_z a_50) (i_z a_53) (i_s a_49 a_53 a_55) (i_s a_50 a_53 a_57) (fun i _ => rfl) (Nat.le_of_ble_eq_true rfl) (by decide) dX4_makeGap_84 (fun H locs hP hD hS => ?_)
  have hP : va_P (dC, dI) vwCl [(h0, .inr (4, [.ref q0, .ref q1, .ref q2, .ref q3, .ref q4, .ref q5, .int cn])), (q0, .inl (cI, 300, .inl (va_cpy t0 t0 x.toNatClampNeg (x + 1).toNatClampNeg (cn - x).toNatClampNeg))), (q1, .inl (cI, 300, .inl (va_cpy t1 t1 x.toNatClampNeg (x + 1).toNatClampNeg (cn - x).toNatClampNeg))), (q2, .inl (cI, 300, .inl (va_cpy t2 t2 x.toNatClampNeg (x + 1).toNatClampNeg (cn - x).toNatClampNeg))), (q3, .inl (cI, 300, .inl (va_cpy t3 t3 x.toNatClampNeg (x + 1).toNatClampNeg (cn - x).toNatClampNeg))), (q4, .inl (cI, 300, .inl (va_cpy t4 t4 x.toNatClampNeg (x + 1).toNatClampNeg (cn - x).toNatClampNeg))), (q5, .inl (cI, 300, .inl t5))] H := hP
  have hD : va_D A [(h0, .inr (4, [.ref q0, .ref q1, .ref q2, .ref q3, .ref q4, .ref q5, .int cn])), (q0, .inl (cI, 300, .inl (va_cpy t0 t0 x.toNatClampNeg (x + 1).toNatClampNeg (cn - x).toNatClampNeg))), (q1, .inl (cI, 300, .inl (va_cpy t1 t1 x.toNatClampNeg (x + 1).toNatClampNeg (cn - x).toNatClampNeg))), (q2, .inl (cI, 300, .inl (va_cpy t2 t2 x.toNatClampNeg (x + 1).toNatClampNeg (cn - x).toNatClampNeg))), (q3, .inl (cI, 300, .inl (va_cpy t3 t3 x.toNatClampNeg (x + 1).toNatClampNeg (cn - x).toNatClampNeg))), (q4, .inl (cI, 300, .inl (va_cpy t4 t4 x.toNatClampNeg (x + 1).toNatClampNeg (cn - x).toNatClampNeg))), (q5, .inl (cI, 300, .inl t5))] := hD
  refine lv_aload_n hx hb dX4_makeGap_87 rfl (lv_at hl 1 rfl) ?_
  refine va_get (D := (dC, dI)) (ci := 4) (v := .ref q5) (C := RX4) (T := TX4) (N := 7) hx hb hts inc_X4_makeGap_4 hown hG.1 hP 0 rfl rfl 5 (by decide) (hts (.fieldLink RX4 27 "MappingDesk$Table" "names" "[I") (by decide +kernel)) (fun _ h9 => h9) rfl dX4_makeGap_88 ?_
  refine lv_iload_n hx hb dX4_makeGap_91 rfl (lv_at hl 2 rfl) ?_
  refine lv_aload_n hx hb dX4_makeGap_92 rfl (lv_at hl 1 rfl) ?_
  refine va_get (D := (dC, dI)) (ci := 4) (v := .ref q5) (C := RX4) (T := TX4) (N := 7) hx hb hts inc_X4_makeGap_4 hown hG.1 hP 0 rfl rfl 5 (by decide) (hts (.fieldLink RX4 27 "MappingDesk$Table" "names" "[I") (by decide +kernel)) (fun _ h9 => h9) rfl dX4_makeGap_93 ?_
  refine lv_iload_n hx hb dX4_makeGap_96 rfl (lv_at hl 2 rfl) ?_
  refine lv_iconst (v := 1) hx hb dX4_makeGap_97 (by decide) ?_
  refine lv_iadd hx hb dX4_makeGap_98 ?_
  refine lv_iload_n hx hb dX4_makeGap_99 rfl (lv_at hl 0 rfl) ?_
  have a_61 : 0 ≤ (x : Int32).toInt := by
    try generalize Int32.toInt cn = z0 at *
    try generalize Int32.toInt x = z1 at *
    omega
  have a_62 : 0 ≤ ((x + 1) : Int32).toInt := by
    have k_63 : (1 : Int32).toInt = 1 := by decide
    have t_64 := ti_add (a := x) (b := 1) (by omega) (by omega)
    try generalize Int32.toInt (x + 1) = z0 at *
    try generalize Int32.toInt cn = z1 at *
    try generalize Int32.toInt (1 : Int32) = z2 at *
    try generalize Int32.toInt x = z3 at *
    omega
  have a_65 : 0 ≤ ((cn - x) : Int32).toInt := by
    have t_66 := ti_sub (a := cn) (b := x) (by omega) (by omega)
    try generalize Int32.toInt (cn - x) = z0 at *
    try generalize Int32.toInt cn = z1 at *
    try generalize Int32.toInt x = z2 at *
    omega
  have a_67 : (x : Int32).toInt + ((cn - x) : Int32).toInt ≤ 300 := by
    have t_68 := ti_sub (a := cn) (b := x) (by omega) (by omega)
    try generalize Int32.toInt (cn - x) = z0 at *
    try generalize Int32.toInt cn = z1 at *
    try generalize Int32.toInt x = z2 at *
    omega
  have a_69 : ((x + 1) : Int32).toInt + ((cn - x) : Int32).toInt ≤ 300 := by
    have k_70 : (1 : Int32).toInt = 1 := by decide
    have t_71 := ti_add (a := x) (b := 1) (by omega) (by omega)
    have t_72 := ti_sub (a := cn) (b := x) (by omega) (by omega)
    try generalize Int32.toInt (cn - x) = z0 at *
    try generalize Int32.toInt (x + 1) = z1 at *
    try generalize Int32.toInt cn = z2 at *
    try generalize Int32.toInt (1 : Int32) = z3 at *
    try generalize Int32.toInt x = z4 at *
    omega
  refine va_copyi hx hb (by rw [hml]; exact hl.1.symm) hown (hts (.methodLink RX4 66 arraycopyName) (by decide +kernel)) (hts (.native arraycopyName) (by decide +kernel)) (hts (.static arraycopyName) (by decide +kernel)) (hts (.initialized "java/lang/System") (by decide +kernel)) hG.1 hP hD hS 6 6 2 2 (ty := .int) rfl rfl rfl rfl rfl (i_z a_61) (i_z a_62) (i_z a_65) (i_s a_61 a_65 a_67) (i_s a_62 a_65 a_69) (fun i _ => rfl) (Nat.le_of_ble_eq_true rfl) (by decide) dX4_makeGap_100 (fun H locs hP hD hS => ?_)
  have hP : va_P (dC, dI) vwCl [(h0, .inr (4, [.ref q0, .ref q1, .ref q2, .ref q3, .ref q4, .ref q5, .int cn])), (q0, .inl (cI, 300, .inl (va_cpy t0 t0 x.toNatClampNeg (x + 1).toNatClampNeg (cn - x).toNatClampNeg))), (q1, .inl (cI, 300, .inl (va_cpy t1 t1 x.toNatClampNeg (x + 1).toNatClampNeg (cn - x).toNatClampNeg))), (q2, .inl (cI, 300, .inl (va_cpy t2 t2 x.toNatClampNeg (x + 1).toNatClampNeg (cn - x).toNatClampNeg))), (q3, .inl (cI, 300, .inl (va_cpy t3 t3 x.toNatClampNeg (x + 1).toNatClampNeg (cn - x).toNatClampNeg))), (q4, .inl (cI, 300, .inl (va_cpy t4 t4 x.toNatClampNeg (x + 1).toNatClampNeg (cn - x).toNatClampNeg))), (q5, .inl (cI, 300, .inl (va_cpy t5 t5 x.toNatClampNeg (x + 1).toNatClampNeg (cn - x).toNatClampNeg)))] H := hP
  have hD : va_D A [(h0, .inr (4, [.ref q0, .ref q1, .ref q2, .ref q3, .ref q4, .ref q5, .int cn])), (q0, .inl (cI, 300, .inl (va_cpy t0 t0 x.toNatClampNeg (x + 1).toNatClampNeg (cn - x).toNatClampNeg))), (q1, .inl (cI, 300, .inl (va_cpy t1 t1 x.toNatClampNeg (x + 1).toNatClampNeg (cn - x).toNatClampNeg))), (q2, .inl (cI, 300, .inl (va_cpy t2 t2 x.toNatClampNeg (x + 1).toNatClampNeg (cn - x).toNatClampNeg))), (q3, .inl (cI, 300, .inl (va_cpy t3 t3 x.toNatClampNeg (x + 1).toNatClampNeg (cn - x).toNatClampNeg))), (q4, .inl (cI, 300, .inl (va_cpy t4 t4 x.toNatClampNeg (x + 1).toNatClampNeg (cn - x).toNatClampNeg))), (q5, .inl (cI, 300, .inl (va_cpy t5 t5 x.toNatClampNeg (x + 1).toNatClampNeg (cn - x).toNatClampNeg)))] := hD
  subst hR
  exact W.vret hx hb hr (fun t ht hW => ⟨⟨(), rfl, trivial, by rw [ht]; exact hP, hD⟩, hS.F ht⟩) hS.2.2 dX4_makeGap_103

def fX4_insert_13 (cn : Int32) (t0 t1 t2 t3 t4 t5 : Nat → Int32) (g0 g1 g2 g3 g4 g5 : Int32) : Nat → Int32 → Int32 × (Nat → Int32) × (Nat → Int32) × (Nat → Int32) × (Nat → Int32) × (Nat → Int32) × (Nat → Int32)
  | 0, _ => (0, (fun _ => 0), (fun _ => 0), (fun _ => 0), (fun _ => 0), (fun _ => 0), (fun _ => 0))
  | n + 1, i =>
    if i ≤ 0 then
      bnd (fX4_makeGap cn t0 t1 t2 t3 t4 t5 i) fun r_5 =>
      ((cn + 1), (upd r_5.1 i.toNatClampNeg g0), (upd r_5.2.1 i.toNatClampNeg g1), (upd r_5.2.2.1 i.toNatClampNeg g2), (upd r_5.2.2.2.1 i.toNatClampNeg g3), (upd r_5.2.2.2.2.1 i.toNatClampNeg g4), (upd r_5.2.2.2.2.2 i.toNatClampNeg g5))
    else
      bnd (fX4_isBeyond cn t0 t1 g0 g1 g2 g3 g4 g5 (i - 1)) fun r_51 =>
      if r_51 = 0 then
        bnd (fX4_makeGap cn t0 t1 t2 t3 t4 t5 i) fun r_56 =>
        ((cn + 1), (upd r_56.1 i.toNatClampNeg g0), (upd r_56.2.1 i.toNatClampNeg g1), (upd r_56.2.2.1 i.toNatClampNeg g2), (upd r_56.2.2.2.1 i.toNatClampNeg g3), (upd r_56.2.2.2.2.1 i.toNatClampNeg g4), (upd r_56.2.2.2.2.2 i.toNatClampNeg g5))
      else
        fX4_insert_13 cn t0 t1 t2 t3 t4 t5 g0 g1 g2 g3 g4 g5 n (i + (-1))
def fX4_insert (cn : Int32) (t0 t1 t2 t3 t4 t5 : Nat → Int32) (g0 g1 g2 g3 g4 g5 : Int32) : Int32 × (Nat → Int32) × (Nat → Int32) × (Nat → Int32) × (Nat → Int32) × (Nat → Int32) × (Nat → Int32) :=
  bnd (fX4_isFull cn) fun r_121 =>
  if r_121 = 0 then
    fX4_insert_13 cn t0 t1 t2 t3 t4 t5 g0 g1 g2 g3 g4 g5 301 cn
  else
    (cn, t0, t1, t2, t3, t4, t5)
theorem inc_X4_insert_4 : ∀ w ∈ u_ws RX4 TX4 7, w ∈ wsX4_insert := by decide +kernel
theorem inc_X4_insert_3 : ∀ w ∈ u_ws RX3 TX3 6, w ∈ wsX4_insert := by decide +kernel
set_option maxHeartbeats 4000000 in
set_option maxRecDepth 100000 in
theorem c_X4_insert (l : Launch) (dC : Nat → ClassId) (dI : Nat → Nat → Nat) (cB cC cI cJ : ClassId) (sz : Nat) (h0 h1 q0 q1 q2 q3 q4 q5 : Nat) (cn : Int32) (t0 t1 t2 t3 t4 t5 : Nat → Int32) (g0 g1 g2 g3 g4 g5 : Int32) (hc0 : 0 ≤ cn.toInt) (hc1 : cn.toInt ≤ 300) : Met l yX4_insert wsX4_insert ({ frames := 2, cells := 0, slots := 0, locals := 62 } : Room) (cP dC dI cB cC cI cJ [.ref h0, .ref h1] sz [(h0, .inr (4, [.ref q0, .ref q1, .ref q2, .ref q3, .ref q4, .ref q5, .int cn])), (q0, .inl (cI, 300, .inl t0)), (q1, .inl (cI, 300, .inl t1)), (q2, .inl (cI, 300, .inl t2)), (q3, .inl (cI, 300, .inl t3)), (q4, .inl (cI, 300, .inl t4)), (q5, .inl (cI, 300, .inl t5)), (h1, .inr (3, [.int g0, .int g1, .int g2, .int g3, .int g4, .int g5]))]) (va_Qv (fun _ => (0 ≤ (fX4_insert cn t0 t1 t2 t3 t4 t5 g0 g1 g2 g3 g4 g5).1.toInt ∧ (fX4_insert cn t0 t1 t2 t3 t4 t5 g0 g1 g2 g3 g4 g5).1.toInt ≤ 300)) (cE dC dI (va_A [(h0, .inr (4, [.ref q0, .ref q1, .ref q2, .ref q3, .ref q4, .ref q5, .int cn])), (q0, .inl (cI, 300, .inl t0)), (q1, .inl (cI, 300, .inl t1)), (q2, .inl (cI, 300, .inl t2)), (q3, .inl (cI, 300, .inl t3)), (q4, .inl (cI, 300, .inl t4)), (q5, .inl (cI, 300, .inl t5)), (h1, .inr (3, [.int g0, .int g1, .int g2, .int g3, .int g4, .int g5]))] sz) [(h0, .inr (4, [.ref q0, .ref q1, .ref q2, .ref q3, .ref q4, .ref q5, .int (fX4_insert cn t0 t1 t2 t3 t4 t5 g0 g1 g2 g3 g4 g5).1])), (q0, .inl (cI, 300, .inl (fX4_insert cn t0 t1 t2 t3 t4 t5 g0 g1 g2 g3 g4 g5).2.1)), (q1, .inl (cI, 300, .inl (fX4_insert cn t0 t1 t2 t3 t4 t5 g0 g1 g2 g3 g4 g5).2.2.1)), (q2, .inl (cI, 300, .inl (fX4_insert cn t0 t1 t2 t3 t4 t5 g0 g1 g2 g3 g4 g5).2.2.2.1)), (q3, .inl (cI, 300, .inl (fX4_insert cn t0 t1 t2 t3 t4 t5 g0 g1 g2 g3 g4 g5).2.2.2.2.1)), (q4, .inl (cI, 300, .inl (fX4_insert cn t0 t1 t2 t3 t4 t5 g0 g1 g2 g3 g4 g5).2.2.2.2.2.1)), (q5, .inl (cI, 300, .inl (fX4_insert cn t0 t1 t2 t3 t4 t5 g0 g1 g2 g3 g4 g5).2.2.2.2.2.2)), (h1, .inr (3, [.int g0, .int g1, .int g2, .int g3, .int g4, .int g5]))]) (va_A [(h0, .inr (4, [.ref q0, .ref q1, .ref q2, .ref q3, .ref q4, .ref q5, .int cn])), (q0, .inl (cI, 300, .inl t0)), (q1, .inl (cI, 300, .inl t1)), (q2, .inl (cI, 300, .inl t2)), (q3, .inl (cI, 300, .inl t3)), (q4, .inl (cI, 300, .inl t4)), (q5, .inl (cI, 300, .inl t5)), (h1, .inr (3, [.int g0, .int g1, .int g2, .int g3, .int g4, .int g5]))] sz)) 0 0 (va_A [(h0, .inr (4, [.ref q0, .ref q1, .ref q2, .ref q3, .ref q4, .ref q5, .int cn])), (q0, .inl (cI, 300, .inl t0)), (q1, .inl (cI, 300, .inl t1)), (q2, .inl (cI, 300, .inl t2)), (q3, .inl (cI, 300, .inl t3)), (q4, .inl (cI, 300, .inl t4)), (q5, .inl (cI, 300, .inl t5)), (h1, .inr (3, [.int g0, .int g1, .int g2, .int g3, .int g4, .int g5]))] sz) := by
  refine Met.ofW (cc := cX4_insert) (maxL := 3) (ret := none) (by decide) rfl ?_
  intro p e s m args below meth c s₁ B hml hv
  obtain ⟨rfl, hsz, hP, hG, hD0⟩ := hv
  have hx := B.exec
  have hb := B.bytes
  have hr := B.returns
  have hts := atoms_spec (ws := wsX4_insert) B.pre
  have hown : s.vm.findClass RX4 = some m.cls := findClass_of_methodNamed B.named
  have hlocks := B.notSynchronized
  subst hsz
  have hD := hD0.self (sz := s.heap.size)
  generalize hAe : va_A [(h0, .inr (4, [.ref q0, .ref q1, .ref q2, .ref q3, .ref q4, .ref q5, .int cn])), (q0, .inl (cI, 300, .inl t0)), (q1, .inl (cI, 300, .inl t1)), (q2, .inl (cI, 300, .inl t2)), (q3, .inl (cI, 300, .inl t3)), (q4, .inl (cI, 300, .inl t4)), (q5, .inl (cI, 300, .inl t5)), (h1, .inr (3, [.int g0, .int g1, .int g2, .int g3, .int g4, .int g5]))] s.heap.size = A at hD ⊢
  have hA : ∀ q : Nat, s.heap.size ≤ q → A q := fun q h => by rw [← hAe]; exact Or.inr h
  obtain ⟨H, hH⟩ : ∃ H : Heap, H = s.heap := ⟨_, rfl⟩
  have hS : va_S A s.heap H [] := by rw [hH]; exact va_S.rf
  rw [← hH] at hP ⊢
  generalize hR : fX4_insert cn t0 t1 t2 t3 t4 t5 g0 g1 g2 g3 g4 g5 = R
  unfold fX4_insert at hR
  have hl := lv_entry ([.ref h0, .ref h1]) (n := 3) (Nat.le_of_ble_eq_true rfl)
  rw [lg_entry_eq]
  generalize (lg_sl ([.ref h0, .ref h1]) ++ List.replicate (3 - (lg_sl ([.ref h0, .ref h1])).length) Slot.unset).toArray = ls at hl ⊢
  have hl : lv_has ls 3 [(0, .ref h0), (1, .ref h1)] := hl
  have loop_13 : ∀ (n : Nat), ∀ (i : Int32) (H : Heap) (locs : List Loc) (ls : Array Slot), fX4_insert_13 cn t0 t1 t2 t3 t4 t5 g0 g1 g2 g3 g4 g5 n i = R → (0 ≤ i.toInt) → (i.toInt ≤ cn.toInt) → (cn.toInt < 300) → (i.toInt < ((n : Nat) : Int)) → va_P (dC, dI) vwCl [(h0, .inr (4, [.ref q0, .ref q1, .ref q2, .ref q3, .ref q4, .ref q5, .int cn])), (q0, .inl (cI, 300, .inl t0)), (q1, .inl (cI, 300, .inl t1)), (q2, .inl (cI, 300, .inl t2)), (q3, .inl (cI, 300, .inl t3)), (q4, .inl (cI, 300, .inl t4)), (q5, .inl (cI, 300, .inl t5)), (h1, .inr (3, [.int g0, .int g1, .int g2, .int g3, .int g4, .int g5]))] H → va_D A [(h0, .inr (4, [.ref q0, .ref q1, .ref q2, .ref q3, .ref q4, .ref q5, .int cn])), (q0, .inl (cI, 300, .inl t0)), (q1, .inl (cI, 300, .inl t1)), (q2, .inl (cI, 300, .inl t2)), (q3, .inl (cI, 300, .inl t3)), (q4, .inl (cI, 300, .inl t4)), (q5, .inl (cI, 300, .inl t5)), (h1, .inr (3, [.int g0, .int g1, .int g2, .int g3, .int g4, .int g5]))] → va_S A s.heap H locs → lv_has ls 3 [(0, .ref h0), (1, .ref h1), (2, .int i)] → W p l e (headSpec wsX4_insert ({ frames := 2, cells := 0, slots := 0, locals := 62 } : Room)).room s m ([.ref h0, .ref h1] : List Value).toArray below meth c H locs 0 0 (MQ below (va_Qv (fun _ => (0 ≤ R.1.toInt ∧ R.1.toInt ≤ 300)) (cE dC dI (A) [(h0, .inr (4, [.ref q0, .ref q1, .ref q2, .ref q3, .ref q4, .ref q5, .int R.1])), (q0, .inl (cI, 300, .inl R.2.1)), (q1, .inl (cI, 300, .inl R.2.2.1)), (q2, .inl (cI, 300, .inl R.2.2.2.1)), (q3, .inl (cI, 300, .inl R.2.2.2.2.1)), (q4, .inl (cI, 300, .inl R.2.2.2.2.2.1)), (q5, .inl (cI, 300, .inl R.2.2.2.2.2.2)), (h1, .inr (3, [.int g0, .int g1, .int g2, .int g3, .int g4, .int g5]))]) (A)) ([.ref h0, .ref h1] : List Value).toArray s 0 0 A) (F0 m 13 ls []) := by
    intro n
    induction n with
    | zero => intro i H locs ls hR hi0 hi1 hcn hmu; exfalso; omega
    | succ n ih =>
      intro i H locs ls hR hi0 hi1 hcn hmu hP hD hS hl
      rw [fX4_insert_13] at hR
      refine lv_iload_n hx hb dX4_insert_13 rfl (lv_at hl 2 rfl) ?_
      refine lv_if_le (tgt := 34) hx hb dX4_insert_14 (by decide) (fun c_1 => ?_) (fun c_1 => ?_)
      · rw [if_pos c_1] at hR
        refine lv_aload_n hx hb dX4_insert_34 rfl (lv_at hl 0 rfl) ?_
        refine lv_iload_n hx hb dX4_insert_35 rfl (lv_at hl 2 rfl) ?_
        have p_2 : 0 ≤ i.toInt := by
          first | exact hi0 | assumption
        have p_3 : i.toInt ≤ cn.toInt := by
          first | exact hi1 | assumption
        have p_4 : cn.toInt < 300 := by
          first | exact hcn | assumption
        have hPc := hP.sub (ws' := [(h0, .inr (4, [.ref q0, .ref q1, .ref q2, .ref q3, .ref q4, .ref q5, .int cn])), (q0, .inl (cI, 300, .inl t0)), (q1, .inl (cI, 300, .inl t1)), (q2, .inl (cI, 300, .inl t2)), (q3, .inl (cI, 300, .inl t3)), (q4, .inl (cI, 300, .inl t4)), (q5, .inl (cI, 300, .inl t5))]) [0, 1, 2, 3, 4, 5, 6] rfl
        have hDc := hD.sub (ws' := [(h0, .inr (4, [.ref q0, .ref q1, .ref q2, .ref q3, .ref q4, .ref q5, .int cn])), (q0, .inl (cI, 300, .inl t0)), (q1, .inl (cI, 300, .inl t1)), (q2, .inl (cI, 300, .inl t2)), (q3, .inl (cI, 300, .inl t3)), (q4, .inl (cI, 300, .inl t4)), (q5, .inl (cI, 300, .inl t5))]) [0, 1, 2, 3, 4, 5, 6] (by decide) rfl
        have hFc := va_free (wc := [(h0, .inr (4, [.ref q0, .ref q1, .ref q2, .ref q3, .ref q4, .ref q5, .int cn])), (q0, .inl (cI, 300, .inl t0)), (q1, .inl (cI, 300, .inl t1)), (q2, .inl (cI, 300, .inl t2)), (q3, .inl (cI, 300, .inl t3)), (q4, .inl (cI, 300, .inl t4)), (q5, .inl (cI, 300, .inl t5))]) hD hS hA [0, 1, 2, 3, 4, 5, 6] rfl
        refine va_callv (va_runV (As := [.int i]) (rest := []) ⟨hx, hb, hml, hown, hts⟩ (c_X4_makeGap l dC dI cB cC cI cJ H.size h0 q0 q1 q2 q3 q4 q5 cn t0 t1 t2 t3 t4 t5 i p_2 p_3 p_4) (cwV 1 hts gX4_insert_X4_makeGap rfl rfl rfl (by decide +kernel) ⟨(Nat.le_of_ble_eq_true rfl), (Nat.le_of_ble_eq_true rfl)⟩) ⟨cP_blind, va_recv hG.1 hPc (ci := 4) (q0 := 0) rfl rfl, cP_pre hPc hG hDc⟩ rfl rfl hl.1 rfl (lv_room (Nat.le_of_ble_eq_true rfl)) dX4_insert_36 ⟨Nat.le_of_ble_eq_true rfl, Nat.le_of_ble_eq_true rfl⟩) hS (fun q _ h => hFc q h) hFc (fun u t H1 locs ht hvm hw hB hz1 hk1 hS => ?_)
        obtain ⟨hP1, hD1⟩ := hB
        rw [ht] at hP1
        generalize hr_5 : fX4_makeGap cn t0 t1 t2 t3 t4 t5 i = r_5 at hP1 hD1
        rw [bnd_eq hr_5] at hR
        obtain ⟨hP, hD⟩ := va_join (wr := [(h1, .inr (3, [.int g0, .int g1, .int g2, .int g3, .int g4, .int g5]))]) (w1 := [(h0, .inr (4, [.ref q0, .ref q1, .ref q2, .ref q3, .ref q4, .ref q5, .int cn])), (q0, .inl (cI, 300, .inl r_5.1)), (q1, .inl (cI, 300, .inl r_5.2.1)), (q2, .inl (cI, 300, .inl r_5.2.2.1)), (q3, .inl (cI, 300, .inl r_5.2.2.2.1)), (q4, .inl (cI, 300, .inl r_5.2.2.2.2.1)), (q5, .inl (cI, 300, .inl r_5.2.2.2.2.2))]) hP hD [0, 1, 2, 3, 4, 5, 6] [7] rfl rfl (by decide) (by decide) hk1 hFc hP1 hD1
        generalize H1 = H at hP hS ⊢
        have hP := hP.sub (ws' := [(h0, .inr (4, [.ref q0, .ref q1, .ref q2, .ref q3, .ref q4, .ref q5, .int cn])), (q0, .inl (cI, 300, .inl r_5.1)), (q1, .inl (cI, 300, .inl r_5.2.1)), (q2, .inl (cI, 300, .inl r_5.2.2.1)), (q3, .inl (cI, 300, .inl r_5.2.2.2.1)), (q4, .inl (cI, 300, .inl r_5.2.2.2.2.1)), (q5, .inl (cI, 300, .inl r_5.2.2.2.2.2)), (h1, .inr (3, [.int g0, .int g1, .int g2, .int g3, .int g4, .int g5]))]) [1, 2, 3, 4, 5, 6, 7, 0] rfl
        have hD := hD.sub (ws' := [(h0, .inr (4, [.ref q0, .ref q1, .ref q2, .ref q3, .ref q4, .ref q5, .int cn])), (q0, .inl (cI, 300, .inl r_5.1)), (q1, .inl (cI, 300, .inl r_5.2.1)), (q2, .inl (cI, 300, .inl r_5.2.2.1)), (q3, .inl (cI, 300, .inl r_5.2.2.2.1)), (q4, .inl (cI, 300, .inl r_5.2.2.2.2.1)), (q5, .inl (cI, 300, .inl r_5.2.2.2.2.2)), (h1, .inr (3, [.int g0, .int g1, .int g2, .int g3, .int g4, .int g5]))]) [1, 2, 3, 4, 5, 6, 7, 0] (by decide) rfl
        refine lv_aload_n hx hb dX4_insert_39 rfl (lv_at hl 0 rfl) ?_
        refine va_get (D := (dC, dI)) (ci := 4) (v := .ref q0) (C := RX4) (T := TX4) (N := 7) hx hb hts inc_X4_insert_4 hown hG.1 hP 0 rfl rfl 0 (by decide) (hts (.fieldLink RX4 9 "MappingDesk$Table" "lines" "[I") (by decide +kernel)) (fun _ h9 => h9) rfl dX4_insert_40 ?_
        refine lv_iload_n hx hb dX4_insert_43 rfl (lv_at hl 2 rfl) ?_
        refine lv_aload_n hx hb dX4_insert_44 rfl (lv_at hl 1 rfl) ?_
        refine va_getN (D := (dC, dI)) (ci := 3) (v := .int g0) (C := RX3) (T := TX3) (N := 6) hx hb hts inc_X4_insert_3 hown hG.1 hP 7 rfl rfl 0 (by decide) (hG.nf (a := RX4) (i := 46) (b := "MappingDesk$Segment") (n := "line") (d := "I") (t := "MappingDesk") (by decide +kernel)) (fun _ h9 => h9) rfl dX4_insert_45 ?_
        have b_6 : vp_in i 300 := by
          have k_7 : (0 : Int32).toInt = 0 := by decide
          have q_8 := i_le c_1
          refine vin ?_ ?_
          all_goals (try generalize Int32.toInt cn = z0 at *; try generalize Int32.toInt (0 : Int32) = z1 at *; try generalize Int32.toInt i = z2 at *; omega)
        refine va_iast hx hb hG.1 hP hD hS 1 2 rfl rfl b_6 dX4_insert_48 (fun H locs hP hD hS => ?_)
        have hP : va_P (dC, dI) vwCl [(h0, .inr (4, [.ref q0, .ref q1, .ref q2, .ref q3, .ref q4, .ref q5, .int cn])), (q0, .inl (cI, 300, .inl (upd r_5.1 i.toNatClampNeg g0))), (q1, .inl (cI, 300, .inl r_5.2.1)), (q2, .inl (cI, 300, .inl r_5.2.2.1)), (q3, .inl (cI, 300, .inl r_5.2.2.2.1)), (q4, .inl (cI, 300, .inl r_5.2.2.2.2.1)), (q5, .inl (cI, 300, .inl r_5.2.2.2.2.2)), (h1, .inr (3, [.int g0, .int g1, .int g2, .int g3, .int g4, .int g5]))] H := hP
        have hD : va_D A [(h0, .inr (4, [.ref q0, .ref q1, .ref q2, .ref q3, .ref q4, .ref q5, .int cn])), (q0, .inl (cI, 300, .inl (upd r_5.1 i.toNatClampNeg g0))), (q1, .inl (cI, 300, .inl r_5.2.1)), (q2, .inl (cI, 300, .inl r_5.2.2.1)), (q3, .inl (cI, 300, .inl r_5.2.2.2.1)), (q4, .inl (cI, 300, .inl r_5.2.2.2.2.1)), (q5, .inl (cI, 300, .inl r_5.2.2.2.2.2)), (h1, .inr (3, [.int g0, .int g1, .int g2, .int g3, .int g4, .int g5]))] := hD
        refine lv_aload_n hx hb dX4_insert_49 rfl (lv_at hl 0 rfl) ?_
        refine va_get (D := (dC, dI)) (ci := 4) (v := .ref q1) (C := RX4) (T := TX4) (N := 7) hx hb hts inc_X4_insert_4 hown hG.1 hP 0 rfl rfl 1 (by decide) (hts (.fieldLink RX4 15 "MappingDesk$Table" "columns" "[I") (by decide +kernel)) (fun _ h9 => h9) rfl dX4_insert_50 ?_
        refine lv_iload_n hx hb dX4_insert_53 rfl (lv_at hl 2 rfl) ?_
        refine lv_aload_n hx hb dX4_insert_54 rfl (lv_at hl 1 rfl) ?_
        refine va_getN (D := (dC, dI)) (ci := 3) (v := .int g1) (C := RX3) (T := TX3) (N := 6) hx hb hts inc_X4_insert_3 hown hG.1 hP 7 rfl rfl 1 (by decide) (hG.nf (a := RX4) (i := 51) (b := "MappingDesk$Segment") (n := "column") (d := "I") (t := "MappingDesk") (by decide +kernel)) (fun _ h9 => h9) rfl dX4_insert_55 ?_
        have b_11 : vp_in i 300 := by
          have k_12 : (0 : Int32).toInt = 0 := by decide
          have q_13 := i_le c_1
          refine vin ?_ ?_
          all_goals (try generalize Int32.toInt cn = z0 at *; try generalize Int32.toInt (0 : Int32) = z1 at *; try generalize Int32.toInt i = z2 at *; omega)
        refine va_iast hx hb hG.1 hP hD hS 2 2 rfl rfl b_11 dX4_insert_58 (fun H locs hP hD hS => ?_)
        have hP : va_P (dC, dI) vwCl [(h0, .inr (4, [.ref q0, .ref q1, .ref q2, .ref q3, .ref q4, .ref q5, .int cn])), (q0, .inl (cI, 300, .inl (upd r_5.1 i.toNatClampNeg g0))), (q1, .inl (cI, 300, .inl (upd r_5.2.1 i.toNatClampNeg g1))), (q2, .inl (cI, 300, .inl r_5.2.2.1)), (q3, .inl (cI, 300, .inl r_5.2.2.2.1)), (q4, .inl (cI, 300, .inl r_5.2.2.2.2.1)), (q5, .inl (cI, 300, .inl r_5.2.2.2.2.2)), (h1, .inr (3, [.int g0, .int g1, .int g2, .int g3, .int g4, .int g5]))] H := hP
        have hD : va_D A [(h0, .inr (4, [.ref q0, .ref q1, .ref q2, .ref q3, .ref q4, .ref q5, .int cn])), (q0, .inl (cI, 300, .inl (upd r_5.1 i.toNatClampNeg g0))), (q1, .inl (cI, 300, .inl (upd r_5.2.1 i.toNatClampNeg g1))), (q2, .inl (cI, 300, .inl r_5.2.2.1)), (q3, .inl (cI, 300, .inl r_5.2.2.2.1)), (q4, .inl (cI, 300, .inl r_5.2.2.2.2.1)), (q5, .inl (cI, 300, .inl r_5.2.2.2.2.2)), (h1, .inr (3, [.int g0, .int g1, .int g2, .int g3, .int g4, .int g5]))] := hD
        refine lv_aload_n hx hb dX4_insert_59 rfl (lv_at hl 0 rfl) ?_
        refine va_get (D := (dC, dI)) (ci := 4) (v := .ref q2) (C := RX4) (T := TX4) (N := 7) hx hb hts inc_X4_insert_4 hown hG.1 hP 0 rfl rfl 2 (by decide) (hts (.fieldLink RX4 18 "MappingDesk$Table" "sources" "[I") (by decide +kernel)) (fun _ h9 => h9) rfl dX4_insert_60 ?_
        refine lv_iload_n hx hb dX4_insert_63 rfl (lv_at hl 2 rfl) ?_
        refine lv_aload_n hx hb dX4_insert_64 rfl (lv_at hl 1 rfl) ?_
        refine va_getN (D := (dC, dI)) (ci := 3) (v := .int g2) (C := RX3) (T := TX3) (N := 6) hx hb hts inc_X4_insert_3 hown hG.1 hP 7 rfl rfl 2 (by decide) (hG.nf (a := RX4) (i := 54) (b := "MappingDesk$Segment") (n := "source") (d := "I") (t := "MappingDesk") (by decide +kernel)) (fun _ h9 => h9) rfl dX4_insert_65 ?_
        have b_16 : vp_in i 300 := by
          have k_17 : (0 : Int32).toInt = 0 := by decide
          have q_18 := i_le c_1
          refine vin ?_ ?_
          all_goals (try generalize Int32.toInt cn = z0 at *; try generalize Int32.toInt (0 : Int32) = z1 at *; try generalize Int32.toInt i = z2 at *; omega)
        refine va_iast hx hb hG.1 hP hD hS 3 2 rfl rfl b_16 dX4_insert_68 (fun H locs hP hD hS => ?_)
        have hP : va_P (dC, dI) vwCl [(h0, .inr (4, [.ref q0, .ref q1, .ref q2, .ref q3, .ref q4, .ref q5, .int cn])), (q0, .inl (cI, 300, .inl (upd r_5.1 i.toNatClampNeg g0))), (q1, .inl (cI, 300, .inl (upd r_5.2.1 i.toNatClampNeg g1))), (q2, .inl (cI, 300, .inl (upd r_5.2.2.1 i.toNatClampNeg g2))), (q3, .inl (cI, 300, .inl r_5.2.2.2.1)), (q4, .inl (cI, 300, .inl r_5.2.2.2.2.1)), (q5, .inl (cI, 300, .inl r_5.2.2.2.2.2)), (h1, .inr (3, [.int g0, .int g1, .int g2, .int g3, .int g4, .int g5]))] H := hP
        have hD : va_D A [(h0, .inr (4, [.ref q0, .ref q1, .ref q2, .ref q3, .ref q4, .ref q5, .int cn])), (q0, .inl (cI, 300, .inl (upd r_5.1 i.toNatClampNeg g0))), (q1, .inl (cI, 300, .inl (upd r_5.2.1 i.toNatClampNeg g1))), (q2, .inl (cI, 300, .inl (upd r_5.2.2.1 i.toNatClampNeg g2))), (q3, .inl (cI, 300, .inl r_5.2.2.2.1)), (q4, .inl (cI, 300, .inl r_5.2.2.2.2.1)), (q5, .inl (cI, 300, .inl r_5.2.2.2.2.2)), (h1, .inr (3, [.int g0, .int g1, .int g2, .int g3, .int g4, .int g5]))] := hD
        refine lv_aload_n hx hb dX4_insert_69 rfl (lv_at hl 0 rfl) ?_
        refine va_get (D := (dC, dI)) (ci := 4) (v := .ref q3) (C := RX4) (T := TX4) (N := 7) hx hb hts inc_X4_insert_4 hown hG.1 hP 0 rfl rfl 3 (by decide) (hts (.fieldLink RX4 21 "MappingDesk$Table" "sourceLines" "[I") (by decide +kernel)) (fun _ h9 => h9) rfl dX4_insert_70 ?_
        refine lv_iload_n hx hb dX4_insert_73 rfl (lv_at hl 2 rfl) ?_
        refine lv_aload_n hx hb dX4_insert_74 rfl (lv_at hl 1 rfl) ?_
        refine va_getN (D := (dC, dI)) (ci := 3) (v := .int g3) (C := RX3) (T := TX3) (N := 6) hx hb hts inc_X4_insert_3 hown hG.1 hP 7 rfl rfl 3 (by decide) (hG.nf (a := RX4) (i := 57) (b := "MappingDesk$Segment") (n := "sourceLine") (d := "I") (t := "MappingDesk") (by decide +kernel)) (fun _ h9 => h9) rfl dX4_insert_75 ?_
        have b_21 : vp_in i 300 := by
          have k_22 : (0 : Int32).toInt = 0 := by decide
          have q_23 := i_le c_1
          refine vin ?_ ?_
          all_goals (try generalize Int32.toInt cn = z0 at *; try generalize Int32.toInt (0 : Int32) = z1 at *; try generalize Int32.toInt i = z2 at *; omega)
        refine va_iast hx hb hG.1 hP hD hS 4 2 rfl rfl b_21 dX4_insert_78 (fun H locs hP hD hS => ?_)
        have hP : va_P (dC, dI) vwCl [(h0, .inr (4, [.ref q0, .ref q1, .ref q2, .ref q3, .ref q4, .ref q5, .int cn])), (q0, .inl (cI, 300, .inl (upd r_5.1 i.toNatClampNeg g0))), (q1, .inl (cI, 300, .inl (upd r_5.2.1 i.toNatClampNeg g1))), (q2, .inl (cI, 300, .inl (upd r_5.2.2.1 i.toNatClampNeg g2))), (q3, .inl (cI, 300, .inl (upd r_5.2.2.2.1 i.toNatClampNeg g3))), (q4, .inl (cI, 300, .inl r_5.2.2.2.2.1)), (q5, .inl (cI, 300, .inl r_5.2.2.2.2.2)), (h1, .inr (3, [.int g0, .int g1, .int g2, .int g3, .int g4, .int g5]))] H := hP
        have hD : va_D A [(h0, .inr (4, [.ref q0, .ref q1, .ref q2, .ref q3, .ref q4, .ref q5, .int cn])), (q0, .inl (cI, 300, .inl (upd r_5.1 i.toNatClampNeg g0))), (q1, .inl (cI, 300, .inl (upd r_5.2.1 i.toNatClampNeg g1))), (q2, .inl (cI, 300, .inl (upd r_5.2.2.1 i.toNatClampNeg g2))), (q3, .inl (cI, 300, .inl (upd r_5.2.2.2.1 i.toNatClampNeg g3))), (q4, .inl (cI, 300, .inl r_5.2.2.2.2.1)), (q5, .inl (cI, 300, .inl r_5.2.2.2.2.2)), (h1, .inr (3, [.int g0, .int g1, .int g2, .int g3, .int g4, .int g5]))] := hD
        refine lv_aload_n hx hb dX4_insert_79 rfl (lv_at hl 0 rfl) ?_
        refine va_get (D := (dC, dI)) (ci := 4) (v := .ref q4) (C := RX4) (T := TX4) (N := 7) hx hb hts inc_X4_insert_4 hown hG.1 hP 0 rfl rfl 4 (by decide) (hts (.fieldLink RX4 24 "MappingDesk$Table" "sourceColumns" "[I") (by decide +kernel)) (fun _ h9 => h9) rfl dX4_insert_80 ?_
        refine lv_iload_n hx hb dX4_insert_83 rfl (lv_at hl 2 rfl) ?_
        refine lv_aload_n hx hb dX4_insert_84 rfl (lv_at hl 1 rfl) ?_
        refine va_getN (D := (dC, dI)) (ci := 3) (v := .int g4) (C := RX3) (T := TX3) (N := 6) hx hb hts inc_X4_insert_3 hown hG.1 hP 7 rfl rfl 4 (by decide) (hG.nf (a := RX4) (i := 60) (b := "MappingDesk$Segment") (n := "sourceColumn") (d := "I") (t := "MappingDesk") (by decide +kernel)) (fun _ h9 => h9) rfl dX4_insert_85 ?_
        have b_26 : vp_in i 300 := by
          have k_27 : (0 : Int32).toInt = 0 := by decide
          have q_28 := i_le c_1
          refine vin ?_ ?_
          all_goals (try generalize Int32.toInt cn = z0 at *; try generalize Int32.toInt (0 : Int32) = z1 at *; try generalize Int32.toInt i = z2 at *; omega)
        refine va_iast hx hb hG.1 hP hD hS 5 2 rfl rfl b_26 dX4_insert_88 (fun H locs hP hD hS => ?_)
        have hP : va_P (dC, dI) vwCl [(h0, .inr (4, [.ref q0, .ref q1, .ref q2, .ref q3, .ref q4, .ref q5, .int cn])), (q0, .inl (cI, 300, .inl (upd r_5.1 i.toNatClampNeg g0))), (q1, .inl (cI, 300, .inl (upd r_5.2.1 i.toNatClampNeg g1))), (q2, .inl (cI, 300, .inl (upd r_5.2.2.1 i.toNatClampNeg g2))), (q3, .inl (cI, 300, .inl (upd r_5.2.2.2.1 i.toNatClampNeg g3))), (q4, .inl (cI, 300, .inl (upd r_5.2.2.2.2.1 i.toNatClampNeg g4))), (q5, .inl (cI, 300, .inl r_5.2.2.2.2.2)), (h1, .inr (3, [.int g0, .int g1, .int g2, .int g3, .int g4, .int g5]))] H := hP
        have hD : va_D A [(h0, .inr (4, [.ref q0, .ref q1, .ref q2, .ref q3, .ref q4, .ref q5, .int cn])), (q0, .inl (cI, 300, .inl (upd r_5.1 i.toNatClampNeg g0))), (q1, .inl (cI, 300, .inl (upd r_5.2.1 i.toNatClampNeg g1))), (q2, .inl (cI, 300, .inl (upd r_5.2.2.1 i.toNatClampNeg g2))), (q3, .inl (cI, 300, .inl (upd r_5.2.2.2.1 i.toNatClampNeg g3))), (q4, .inl (cI, 300, .inl (upd r_5.2.2.2.2.1 i.toNatClampNeg g4))), (q5, .inl (cI, 300, .inl r_5.2.2.2.2.2)), (h1, .inr (3, [.int g0, .int g1, .int g2, .int g3, .int g4, .int g5]))] := hD
        refine lv_aload_n hx hb dX4_insert_89 rfl (lv_at hl 0 rfl) ?_
        refine va_get (D := (dC, dI)) (ci := 4) (v := .ref q5) (C := RX4) (T := TX4) (N := 7) hx hb hts inc_X4_insert_4 hown hG.1 hP 0 rfl rfl 5 (by decide) (hts (.fieldLink RX4 27 "MappingDesk$Table" "names" "[I") (by decide +kernel)) (fun _ h9 => h9) rfl dX4_insert_90 ?_
        refine lv_iload_n hx hb dX4_insert_93 rfl (lv_at hl 2 rfl) ?_
        refine lv_aload_n hx hb dX4_insert_94 rfl (lv_at hl 1 rfl) ?_
        refine va_getN (D := (dC, dI)) (ci := 3) (v := .int g5) (C := RX3) (T := TX3) (N := 6) hx hb hts inc_X4_insert_3 hown hG.1 hP 7 rfl rfl 5 (by decide) (hG.nf (a := RX4) (i := 63) (b := "MappingDesk$Segment") (n := "name") (d := "I") (t := "MappingDesk") (by decide +kernel)) (fun _ h9 => h9) rfl dX4_insert_95 ?_
        have b_31 : vp_in i 300 := by
          have k_32 : (0 : Int32).toInt = 0 := by decide
          have q_33 := i_le c_1
          refine vin ?_ ?_
          all_goals (try generalize Int32.toInt cn = z0 at *; try generalize Int32.toInt (0 : Int32) = z1 at *; try generalize Int32.toInt i = z2 at *; omega)
        refine va_iast hx hb hG.1 hP hD hS 6 2 rfl rfl b_31 dX4_insert_98 (fun H locs hP hD hS => ?_)
        have hP : va_P (dC, dI) vwCl [(h0, .inr (4, [.ref q0, .ref q1, .ref q2, .ref q3, .ref q4, .ref q5, .int cn])), (q0, .inl (cI, 300, .inl (upd r_5.1 i.toNatClampNeg g0))), (q1, .inl (cI, 300, .inl (upd r_5.2.1 i.toNatClampNeg g1))), (q2, .inl (cI, 300, .inl (upd r_5.2.2.1 i.toNatClampNeg g2))), (q3, .inl (cI, 300, .inl (upd r_5.2.2.2.1 i.toNatClampNeg g3))), (q4, .inl (cI, 300, .inl (upd r_5.2.2.2.2.1 i.toNatClampNeg g4))), (q5, .inl (cI, 300, .inl (upd r_5.2.2.2.2.2 i.toNatClampNeg g5))), (h1, .inr (3, [.int g0, .int g1, .int g2, .int g3, .int g4, .int g5]))] H := hP
        have hD : va_D A [(h0, .inr (4, [.ref q0, .ref q1, .ref q2, .ref q3, .ref q4, .ref q5, .int cn])), (q0, .inl (cI, 300, .inl (upd r_5.1 i.toNatClampNeg g0))), (q1, .inl (cI, 300, .inl (upd r_5.2.1 i.toNatClampNeg g1))), (q2, .inl (cI, 300, .inl (upd r_5.2.2.1 i.toNatClampNeg g2))), (q3, .inl (cI, 300, .inl (upd r_5.2.2.2.1 i.toNatClampNeg g3))), (q4, .inl (cI, 300, .inl (upd r_5.2.2.2.2.1 i.toNatClampNeg g4))), (q5, .inl (cI, 300, .inl (upd r_5.2.2.2.2.2 i.toNatClampNeg g5))), (h1, .inr (3, [.int g0, .int g1, .int g2, .int g3, .int g4, .int g5]))] := hD
        refine lv_aload_n hx hb dX4_insert_99 rfl (lv_at hl 0 rfl) ?_
        refine lv_dup hx hb dX4_insert_100 rfl ?_
        refine va_get (D := (dC, dI)) (ci := 4) (v := .int cn) (C := RX4) (T := TX4) (N := 7) hx hb hts inc_X4_insert_4 hown hG.1 hP 0 rfl rfl 6 (by decide) (hts (.fieldLink RX4 30 "MappingDesk$Table" "count" "I") (by decide +kernel)) (fun _ h9 => h9) rfl dX4_insert_101 ?_
        refine lv_iconst (v := 1) hx hb dX4_insert_104 (by decide) ?_
        refine lv_iadd hx hb dX4_insert_105 ?_
        refine va_put (D := (dC, dI)) (ci := 4) (v := .int (cn + 1)) (ty := .int) (C := RX4) (T := TX4) (N := 7) hx hb hts inc_X4_insert_4 tyX4 tyX4_ok nmX4 hown hG.1 hP hD hS 0 rfl rfl 6 (by decide) (hts (.fieldLink RX4 30 "MappingDesk$Table" "count" "I") (by decide +kernel)) (fun _ h9 => h9) rfl (by decide +kernel) rfl rfl (Nat.le_of_ble_eq_true rfl) dX4_insert_106 (fun H locs hP hD hS => ?_)
        have hP : va_P (dC, dI) vwCl [(h0, .inr (4, [.ref q0, .ref q1, .ref q2, .ref q3, .ref q4, .ref q5, .int (cn + 1)])), (q0, .inl (cI, 300, .inl (upd r_5.1 i.toNatClampNeg g0))), (q1, .inl (cI, 300, .inl (upd r_5.2.1 i.toNatClampNeg g1))), (q2, .inl (cI, 300, .inl (upd r_5.2.2.1 i.toNatClampNeg g2))), (q3, .inl (cI, 300, .inl (upd r_5.2.2.2.1 i.toNatClampNeg g3))), (q4, .inl (cI, 300, .inl (upd r_5.2.2.2.2.1 i.toNatClampNeg g4))), (q5, .inl (cI, 300, .inl (upd r_5.2.2.2.2.2 i.toNatClampNeg g5))), (h1, .inr (3, [.int g0, .int g1, .int g2, .int g3, .int g4, .int g5]))] H := hP
        have hD : va_D A [(h0, .inr (4, [.ref q0, .ref q1, .ref q2, .ref q3, .ref q4, .ref q5, .int (cn + 1)])), (q0, .inl (cI, 300, .inl (upd r_5.1 i.toNatClampNeg g0))), (q1, .inl (cI, 300, .inl (upd r_5.2.1 i.toNatClampNeg g1))), (q2, .inl (cI, 300, .inl (upd r_5.2.2.1 i.toNatClampNeg g2))), (q3, .inl (cI, 300, .inl (upd r_5.2.2.2.1 i.toNatClampNeg g3))), (q4, .inl (cI, 300, .inl (upd r_5.2.2.2.2.1 i.toNatClampNeg g4))), (q5, .inl (cI, 300, .inl (upd r_5.2.2.2.2.2 i.toNatClampNeg g5))), (h1, .inr (3, [.int g0, .int g1, .int g2, .int g3, .int g4, .int g5]))] := hD
        have e_36 : 0 ≤ ((cn + 1) : Int32).toInt ∧ ((cn + 1) : Int32).toInt ≤ 300 := by
          have k_37 : (0 : Int32).toInt = 0 := by decide
          have q_38 := i_le c_1
          have k_39 : (1 : Int32).toInt = 1 := by decide
          have t_40 := ti_add (a := cn) (b := 1) (by omega) (by omega)
          try generalize Int32.toInt (cn + 1) = z0 at *
          try generalize Int32.toInt cn = z1 at *
          try generalize Int32.toInt (0 : Int32) = z2 at *
          try generalize Int32.toInt (1 : Int32) = z3 at *
          try generalize Int32.toInt i = z4 at *
          omega
        subst hR
        exact W.vret hx hb hr (fun t ht hW => ⟨⟨(), rfl, e_36, by rw [ht]; exact hP, hD⟩, hS.F ht⟩) hS.2.2 dX4_insert_109
      · rw [if_neg c_1] at hR
        refine lv_aload_n hx hb dX4_insert_17 rfl (lv_at hl 0 rfl) ?_
        refine lv_iload_n hx hb dX4_insert_18 rfl (lv_at hl 2 rfl) ?_
        refine lv_iconst (v := 1) hx hb dX4_insert_19 (by decide) ?_
        refine lv_isub hx hb dX4_insert_20 ?_
        refine lv_aload_n hx hb dX4_insert_21 rfl (lv_at hl 1 rfl) ?_
        have p_41 : 0 ≤ ((i - 1)).toInt := by
          have k_42 : (0 : Int32).toInt = 0 := by decide
          have q_43 := i_nle c_1
          have k_44 : (1 : Int32).toInt = 1 := by decide
          have t_45 := ti_sub (a := i) (b := 1) (by omega) (by omega)
          try generalize Int32.toInt (i - 1) = z0 at *
          try generalize Int32.toInt cn = z1 at *
          try generalize Int32.toInt (0 : Int32) = z2 at *
          try generalize Int32.toInt (1 : Int32) = z3 at *
          try generalize Int32.toInt i = z4 at *
          first | omega | exact ⟨by omega, by omega⟩
        have p_46 : ((i - 1)).toInt < 300 := by
          have k_47 : (0 : Int32).toInt = 0 := by decide
          have q_48 := i_nle c_1
          have k_49 : (1 : Int32).toInt = 1 := by decide
          have t_50 := ti_sub (a := i) (b := 1) (by omega) (by omega)
          try generalize Int32.toInt (i - 1) = z0 at *
          try generalize Int32.toInt cn = z1 at *
          try generalize Int32.toInt (0 : Int32) = z2 at *
          try generalize Int32.toInt (1 : Int32) = z3 at *
          try generalize Int32.toInt i = z4 at *
          first | omega | exact ⟨by omega, by omega⟩
        have hPc := hP.sub (ws' := [(h0, .inr (4, [.ref q0, .ref q1, .ref q2, .ref q3, .ref q4, .ref q5, .int cn])), (q0, .inl (cI, 300, .inl t0)), (q1, .inl (cI, 300, .inl t1)), (h1, .inr (3, [.int g0, .int g1, .int g2, .int g3, .int g4, .int g5]))]) [0, 1, 2, 7] rfl
        have hDc := hD.sub (ws' := [(h0, .inr (4, [.ref q0, .ref q1, .ref q2, .ref q3, .ref q4, .ref q5, .int cn])), (q0, .inl (cI, 300, .inl t0)), (q1, .inl (cI, 300, .inl t1)), (h1, .inr (3, [.int g0, .int g1, .int g2, .int g3, .int g4, .int g5]))]) [0, 1, 2, 7] (by decide) rfl
        refine vp_callSi (va_Run.run (va_runV (As := [.int (i - 1), .ref h1]) (rest := []) ⟨hx, hb, hml, hown, hts⟩ (c_X4_isBeyond l dC dI cB cC cI cJ H.size h0 h1 q0 q1 q2 q3 q4 q5 cn t0 t1 g0 g1 g2 g3 g4 g5 (i - 1) p_41 p_46) (cwV 2 hts gX4_insert_X4_isBeyond rfl rfl rfl (by decide +kernel) ⟨(Nat.le_of_ble_eq_true rfl), (Nat.le_of_ble_eq_true rfl)⟩) ⟨cP_blind, va_recv hG.1 hPc (ci := 4) (q0 := 0) rfl rfl, cP_pre hPc hG hDc⟩ rfl rfl hl.1 rfl (lv_room (Nat.le_of_ble_eq_true rfl)) dX4_insert_22 ⟨Nat.le_of_ble_eq_true rfl, Nat.le_of_ble_eq_true rfl⟩)) (fun r_51 hr_51 => ?_)
        rw [bnd_eq hr_51.symm] at hR
        refine lv_if_eq (tgt := 34) hx hb dX4_insert_25 (by decide) (fun c_52 => ?_) (fun c_52 => ?_)
        · rw [if_pos c_52] at hR
          refine lv_aload_n hx hb dX4_insert_34 rfl (lv_at hl 0 rfl) ?_
          refine lv_iload_n hx hb dX4_insert_35 rfl (lv_at hl 2 rfl) ?_
          have p_53 : 0 ≤ i.toInt := by
            first | exact hi0 | assumption
          have p_54 : i.toInt ≤ cn.toInt := by
            first | exact hi1 | assumption
          have p_55 : cn.toInt < 300 := by
            first | exact hcn | assumption
          have hPc := hP.sub (ws' := [(h0, .inr (4, [.ref q0, .ref q1, .ref q2, .ref q3, .ref q4, .ref q5, .int cn])), (q0, .inl (cI, 300, .inl t0)), (q1, .inl (cI, 300, .inl t1)), (q2, .inl (cI, 300, .inl t2)), (q3, .inl (cI, 300, .inl t3)), (q4, .inl (cI, 300, .inl t4)), (q5, .inl (cI, 300, .inl t5))]) [0, 1, 2, 3, 4, 5, 6] rfl
          have hDc := hD.sub (ws' := [(h0, .inr (4, [.ref q0, .ref q1, .ref q2, .ref q3, .ref q4, .ref q5, .int cn])), (q0, .inl (cI, 300, .inl t0)), (q1, .inl (cI, 300, .inl t1)), (q2, .inl (cI, 300, .inl t2)), (q3, .inl (cI, 300, .inl t3)), (q4, .inl (cI, 300, .inl t4)), (q5, .inl (cI, 300, .inl t5))]) [0, 1, 2, 3, 4, 5, 6] (by decide) rfl
          have hFc := va_free (wc := [(h0, .inr (4, [.ref q0, .ref q1, .ref q2, .ref q3, .ref q4, .ref q5, .int cn])), (q0, .inl (cI, 300, .inl t0)), (q1, .inl (cI, 300, .inl t1)), (q2, .inl (cI, 300, .inl t2)), (q3, .inl (cI, 300, .inl t3)), (q4, .inl (cI, 300, .inl t4)), (q5, .inl (cI, 300, .inl t5))]) hD hS hA [0, 1, 2, 3, 4, 5, 6] rfl
          refine va_callv (va_runV (As := [.int i]) (rest := []) ⟨hx, hb, hml, hown, hts⟩ (c_X4_makeGap l dC dI cB cC cI cJ H.size h0 q0 q1 q2 q3 q4 q5 cn t0 t1 t2 t3 t4 t5 i p_53 p_54 p_55) (cwV 1 hts gX4_insert_X4_makeGap rfl rfl rfl (by decide +kernel) ⟨(Nat.le_of_ble_eq_true rfl), (Nat.le_of_ble_eq_true rfl)⟩) ⟨cP_blind, va_recv hG.1 hPc (ci := 4) (q0 := 0) rfl rfl, cP_pre hPc hG hDc⟩ rfl rfl hl.1 rfl (lv_room (Nat.le_of_ble_eq_true rfl)) dX4_insert_36 ⟨Nat.le_of_ble_eq_true rfl, Nat.le_of_ble_eq_true rfl⟩) hS (fun q _ h => hFc q h) hFc (fun u t H1 locs ht hvm hw hB hz1 hk1 hS => ?_)
          obtain ⟨hP1, hD1⟩ := hB
          rw [ht] at hP1
          generalize hr_56 : fX4_makeGap cn t0 t1 t2 t3 t4 t5 i = r_56 at hP1 hD1
          rw [bnd_eq hr_56] at hR
          obtain ⟨hP, hD⟩ := va_join (wr := [(h1, .inr (3, [.int g0, .int g1, .int g2, .int g3, .int g4, .int g5]))]) (w1 := [(h0, .inr (4, [.ref q0, .ref q1, .ref q2, .ref q3, .ref q4, .ref q5, .int cn])), (q0, .inl (cI, 300, .inl r_56.1)), (q1, .inl (cI, 300, .inl r_56.2.1)), (q2, .inl (cI, 300, .inl r_56.2.2.1)), (q3, .inl (cI, 300, .inl r_56.2.2.2.1)), (q4, .inl (cI, 300, .inl r_56.2.2.2.2.1)), (q5, .inl (cI, 300, .inl r_56.2.2.2.2.2))]) hP hD [0, 1, 2, 3, 4, 5, 6] [7] rfl rfl (by decide) (by decide) hk1 hFc hP1 hD1
          generalize H1 = H at hP hS ⊢
          have hP := hP.sub (ws' := [(h0, .inr (4, [.ref q0, .ref q1, .ref q2, .ref q3, .ref q4, .ref q5, .int cn])), (q0, .inl (cI, 300, .inl r_56.1)), (q1, .inl (cI, 300, .inl r_56.2.1)), (q2, .inl (cI, 300, .inl r_56.2.2.1)), (q3, .inl (cI, 300, .inl r_56.2.2.2.1)), (q4, .inl (cI, 300, .inl r_56.2.2.2.2.1)), (q5, .inl (cI, 300, .inl r_56.2.2.2.2.2)), (h1, .inr (3, [.int g0, .int g1, .int g2, .int g3, .int g4, .int g5]))]) [1, 2, 3, 4, 5, 6, 7, 0] rfl
          have hD := hD.sub (ws' := [(h0, .inr (4, [.ref q0, .ref q1, .ref q2, .ref q3, .ref q4, .ref q5, .int cn])), (q0, .inl (cI, 300, .inl r_56.1)), (q1, .inl (cI, 300, .inl r_56.2.1)), (q2, .inl (cI, 300, .inl r_56.2.2.1)), (q3, .inl (cI, 300, .inl r_56.2.2.2.1)), (q4, .inl (cI, 300, .inl r_56.2.2.2.2.1)), (q5, .inl (cI, 300, .inl r_56.2.2.2.2.2)), (h1, .inr (3, [.int g0, .int g1, .int g2, .int g3, .int g4, .int g5]))]) [1, 2, 3, 4, 5, 6, 7, 0] (by decide) rfl
          refine lv_aload_n hx hb dX4_insert_39 rfl (lv_at hl 0 rfl) ?_
          refine va_get (D := (dC, dI)) (ci := 4) (v := .ref q0) (C := RX4) (T := TX4) (N := 7) hx hb hts inc_X4_insert_4 hown hG.1 hP 0 rfl rfl 0 (by decide) (hts (.fieldLink RX4 9 "MappingDesk$Table" "lines" "[I") (by decide +kernel)) (fun _ h9 => h9) rfl dX4_insert_40 ?_
          refine lv_iload_n hx hb dX4_insert_43 rfl (lv_at hl 2 rfl) ?_
          refine lv_aload_n hx hb dX4_insert_44 rfl (lv_at hl 1 rfl) ?_
          refine va_getN (D := (dC, dI)) (ci := 3) (v := .int g0) (C := RX3) (T := TX3) (N := 6) hx hb hts inc_X4_insert_3 hown hG.1 hP 7 rfl rfl 0 (by decide) (hG.nf (a := RX4) (i := 46) (b := "MappingDesk$Segment") (n := "line") (d := "I") (t := "MappingDesk") (by decide +kernel)) (fun _ h9 => h9) rfl dX4_insert_45 ?_
          have b_57 : vp_in i 300 := by
            have k_58 : (0 : Int32).toInt = 0 := by decide
            have q_59 := i_nle c_1
            have q_60 := i_eq c_52
            refine vin ?_ ?_
            all_goals (try generalize Int32.toInt r_51 = z0 at *; try generalize Int32.toInt cn = z1 at *; try generalize Int32.toInt (0 : Int32) = z2 at *; try generalize Int32.toInt i = z3 at *; omega)
          refine va_iast hx hb hG.1 hP hD hS 1 2 rfl rfl b_57 dX4_insert_48 (fun H locs hP hD hS => ?_)
          have hP : va_P (dC, dI) vwCl [(h0, .inr (4, [.ref q0, .ref q1, .ref q2, .ref q3, .ref q4, .ref q5, .int cn])), (q0, .inl (cI, 300, .inl (upd r_56.1 i.toNatClampNeg g0))), (q1, .inl (cI, 300, .inl r_56.2.1)), (q2, .inl (cI, 300, .inl r_56.2.2.1)), (q3, .inl (cI, 300, .inl r_56.2.2.2.1)), (q4, .inl (cI, 300, .inl r_56.2.2.2.2.1)), (q5, .inl (cI, 300, .inl r_56.2.2.2.2.2)), (h1, .inr (3, [.int g0, .int g1, .int g2, .int g3, .int g4, .int g5]))] H := hP
          have hD : va_D A [(h0, .inr (4, [.ref q0, .ref q1, .ref q2, .ref q3, .ref q4, .ref q5, .int cn])), (q0, .inl (cI, 300, .inl (upd r_56.1 i.toNatClampNeg g0))), (q1, .inl (cI, 300, .inl r_56.2.1)), (q2, .inl (cI, 300, .inl r_56.2.2.1)), (q3, .inl (cI, 300, .inl r_56.2.2.2.1)), (q4, .inl (cI, 300, .inl r_56.2.2.2.2.1)), (q5, .inl (cI, 300, .inl r_56.2.2.2.2.2)), (h1, .inr (3, [.int g0, .int g1, .int g2, .int g3, .int g4, .int g5]))] := hD
          refine lv_aload_n hx hb dX4_insert_49 rfl (lv_at hl 0 rfl) ?_
          refine va_get (D := (dC, dI)) (ci := 4) (v := .ref q1) (C := RX4) (T := TX4) (N := 7) hx hb hts inc_X4_insert_4 hown hG.1 hP 0 rfl rfl 1 (by decide) (hts (.fieldLink RX4 15 "MappingDesk$Table" "columns" "[I") (by decide +kernel)) (fun _ h9 => h9) rfl dX4_insert_50 ?_
          refine lv_iload_n hx hb dX4_insert_53 rfl (lv_at hl 2 rfl) ?_
          refine lv_aload_n hx hb dX4_insert_54 rfl (lv_at hl 1 rfl) ?_
          refine va_getN (D := (dC, dI)) (ci := 3) (v := .int g1) (C := RX3) (T := TX3) (N := 6) hx hb hts inc_X4_insert_3 hown hG.1 hP 7 rfl rfl 1 (by decide) (hG.nf (a := RX4) (i := 51) (b := "MappingDesk$Segment") (n := "column") (d := "I") (t := "MappingDesk") (by decide +kernel)) (fun _ h9 => h9) rfl dX4_insert_55 ?_
          have b_63 : vp_in i 300 := by
            have k_64 : (0 : Int32).toInt = 0 := by decide
            have q_65 := i_nle c_1
            have q_66 := i_eq c_52
            refine vin ?_ ?_
            all_goals (try generalize Int32.toInt r_51 = z0 at *; try generalize Int32.toInt cn = z1 at *; try generalize Int32.toInt (0 : Int32) = z2 at *; try generalize Int32.toInt i = z3 at *; omega)
          refine va_iast hx hb hG.1 hP hD hS 2 2 rfl rfl b_63 dX4_insert_58 (fun H locs hP hD hS => ?_)
          have hP : va_P (dC, dI) vwCl [(h0, .inr (4, [.ref q0, .ref q1, .ref q2, .ref q3, .ref q4, .ref q5, .int cn])), (q0, .inl (cI, 300, .inl (upd r_56.1 i.toNatClampNeg g0))), (q1, .inl (cI, 300, .inl (upd r_56.2.1 i.toNatClampNeg g1))), (q2, .inl (cI, 300, .inl r_56.2.2.1)), (q3, .inl (cI, 300, .inl r_56.2.2.2.1)), (q4, .inl (cI, 300, .inl r_56.2.2.2.2.1)), (q5, .inl (cI, 300, .inl r_56.2.2.2.2.2)), (h1, .inr (3, [.int g0, .int g1, .int g2, .int g3, .int g4, .int g5]))] H := hP
          have hD : va_D A [(h0, .inr (4, [.ref q0, .ref q1, .ref q2, .ref q3, .ref q4, .ref q5, .int cn])), (q0, .inl (cI, 300, .inl (upd r_56.1 i.toNatClampNeg g0))), (q1, .inl (cI, 300, .inl (upd r_56.2.1 i.toNatClampNeg g1))), (q2, .inl (cI, 300, .inl r_56.2.2.1)), (q3, .inl (cI, 300, .inl r_56.2.2.2.1)), (q4, .inl (cI, 300, .inl r_56.2.2.2.2.1)), (q5, .inl (cI, 300, .inl r_56.2.2.2.2.2)), (h1, .inr (3, [.int g0, .int g1, .int g2, .int g3, .int g4, .int g5]))] := hD
          refine lv_aload_n hx hb dX4_insert_59 rfl (lv_at hl 0 rfl) ?_
          refine va_get (D := (dC, dI)) (ci := 4) (v := .ref q2) (C := RX4) (T := TX4) (N := 7) hx hb hts inc_X4_insert_4 hown hG.1 hP 0 rfl rfl 2 (by decide) (hts (.fieldLink RX4 18 "MappingDesk$Table" "sources" "[I") (by decide +kernel)) (fun _ h9 => h9) rfl dX4_insert_60 ?_
          refine lv_iload_n hx hb dX4_insert_63 rfl (lv_at hl 2 rfl) ?_
          refine lv_aload_n hx hb dX4_insert_64 rfl (lv_at hl 1 rfl) ?_
          refine va_getN (D := (dC, dI)) (ci := 3) (v := .int g2) (C := RX3) (T := TX3) (N := 6) hx hb hts inc_X4_insert_3 hown hG.1 hP 7 rfl rfl 2 (by decide) (hG.nf (a := RX4) (i := 54) (b := "MappingDesk$Segment") (n := "source") (d := "I") (t := "MappingDesk") (by decide +kernel)) (fun _ h9 => h9) rfl dX4_insert_65 ?_
          have b_69 : vp_in i 300 := by
            have k_70 : (0 : Int32).toInt = 0 := by decide
            have q_71 := i_nle c_1
            have q_72 := i_eq c_52
            refine vin ?_ ?_
            all_goals (try generalize Int32.toInt r_51 = z0 at *; try generalize Int32.toInt cn = z1 at *; try generalize Int32.toInt (0 : Int32) = z2 at *; try generalize Int32.toInt i = z3 at *; omega)
          refine va_iast hx hb hG.1 hP hD hS 3 2 rfl rfl b_69 dX4_insert_68 (fun H locs hP hD hS => ?_)
          have hP : va_P (dC, dI) vwCl [(h0, .inr (4, [.ref q0, .ref q1, .ref q2, .ref q3, .ref q4, .ref q5, .int cn])), (q0, .inl (cI, 300, .inl (upd r_56.1 i.toNatClampNeg g0))), (q1, .inl (cI, 300, .inl (upd r_56.2.1 i.toNatClampNeg g1))), (q2, .inl (cI, 300, .inl (upd r_56.2.2.1 i.toNatClampNeg g2))), (q3, .inl (cI, 300, .inl r_56.2.2.2.1)), (q4, .inl (cI, 300, .inl r_56.2.2.2.2.1)), (q5, .inl (cI, 300, .inl r_56.2.2.2.2.2)), (h1, .inr (3, [.int g0, .int g1, .int g2, .int g3, .int g4, .int g5]))] H := hP
          have hD : va_D A [(h0, .inr (4, [.ref q0, .ref q1, .ref q2, .ref q3, .ref q4, .ref q5, .int cn])), (q0, .inl (cI, 300, .inl (upd r_56.1 i.toNatClampNeg g0))), (q1, .inl (cI, 300, .inl (upd r_56.2.1 i.toNatClampNeg g1))), (q2, .inl (cI, 300, .inl (upd r_56.2.2.1 i.toNatClampNeg g2))), (q3, .inl (cI, 300, .inl r_56.2.2.2.1)), (q4, .inl (cI, 300, .inl r_56.2.2.2.2.1)), (q5, .inl (cI, 300, .inl r_56.2.2.2.2.2)), (h1, .inr (3, [.int g0, .int g1, .int g2, .int g3, .int g4, .int g5]))] := hD
          refine lv_aload_n hx hb dX4_insert_69 rfl (lv_at hl 0 rfl) ?_
          refine va_get (D := (dC, dI)) (ci := 4) (v := .ref q3) (C := RX4) (T := TX4) (N := 7) hx hb hts inc_X4_insert_4 hown hG.1 hP 0 rfl rfl 3 (by decide) (hts (.fieldLink RX4 21 "MappingDesk$Table" "sourceLines" "[I") (by decide +kernel)) (fun _ h9 => h9) rfl dX4_insert_70 ?_
          refine lv_iload_n hx hb dX4_insert_73 rfl (lv_at hl 2 rfl) ?_
          refine lv_aload_n hx hb dX4_insert_74 rfl (lv_at hl 1 rfl) ?_
          refine va_getN (D := (dC, dI)) (ci := 3) (v := .int g3) (C := RX3) (T := TX3) (N := 6) hx hb hts inc_X4_insert_3 hown hG.1 hP 7 rfl rfl 3 (by decide) (hG.nf (a := RX4) (i := 57) (b := "MappingDesk$Segment") (n := "sourceLine") (d := "I") (t := "MappingDesk") (by decide +kernel)) (fun _ h9 => h9) rfl dX4_insert_75 ?_
          have b_75 : vp_in i 300 := by
            have k_76 : (0 : Int32).toInt = 0 := by decide
            have q_77 := i_nle c_1
            have q_78 := i_eq c_52
            refine vin ?_ ?_
            all_goals (try generalize Int32.toInt r_51 = z0 at *; try generalize Int32.toInt cn = z1 at *; try generalize Int32.toInt (0 : Int32) = z2 at *; try generalize Int32.toInt i = z3 at *; omega)
          refine va_iast hx hb hG.1 hP hD hS 4 2 rfl rfl b_75 dX4_insert_78 (fun H locs hP hD hS => ?_)
          have hP : va_P (dC, dI) vwCl [(h0, .inr (4, [.ref q0, .ref q1, .ref q2, .ref q3, .ref q4, .ref q5, .int cn])), (q0, .inl (cI, 300, .inl (upd r_56.1 i.toNatClampNeg g0))), (q1, .inl (cI, 300, .inl (upd r_56.2.1 i.toNatClampNeg g1))), (q2, .inl (cI, 300, .inl (upd r_56.2.2.1 i.toNatClampNeg g2))), (q3, .inl (cI, 300, .inl (upd r_56.2.2.2.1 i.toNatClampNeg g3))), (q4, .inl (cI, 300, .inl r_56.2.2.2.2.1)), (q5, .inl (cI, 300, .inl r_56.2.2.2.2.2)), (h1, .inr (3, [.int g0, .int g1, .int g2, .int g3, .int g4, .int g5]))] H := hP
          have hD : va_D A [(h0, .inr (4, [.ref q0, .ref q1, .ref q2, .ref q3, .ref q4, .ref q5, .int cn])), (q0, .inl (cI, 300, .inl (upd r_56.1 i.toNatClampNeg g0))), (q1, .inl (cI, 300, .inl (upd r_56.2.1 i.toNatClampNeg g1))), (q2, .inl (cI, 300, .inl (upd r_56.2.2.1 i.toNatClampNeg g2))), (q3, .inl (cI, 300, .inl (upd r_56.2.2.2.1 i.toNatClampNeg g3))), (q4, .inl (cI, 300, .inl r_56.2.2.2.2.1)), (q5, .inl (cI, 300, .inl r_56.2.2.2.2.2)), (h1, .inr (3, [.int g0, .int g1, .int g2, .int g3, .int g4, .int g5]))] := hD
          refine lv_aload_n hx hb dX4_insert_79 rfl (lv_at hl 0 rfl) ?_
          refine va_get (D := (dC, dI)) (ci := 4) (v := .ref q4) (C := RX4) (T := TX4) (N := 7) hx hb hts inc_X4_insert_4 hown hG.1 hP 0 rfl rfl 4 (by decide) (hts (.fieldLink RX4 24 "MappingDesk$Table" "sourceColumns" "[I") (by decide +kernel)) (fun _ h9 => h9) rfl dX4_insert_80 ?_
          refine lv_iload_n hx hb dX4_insert_83 rfl (lv_at hl 2 rfl) ?_
          refine lv_aload_n hx hb dX4_insert_84 rfl (lv_at hl 1 rfl) ?_
          refine va_getN (D := (dC, dI)) (ci := 3) (v := .int g4) (C := RX3) (T := TX3) (N := 6) hx hb hts inc_X4_insert_3 hown hG.1 hP 7 rfl rfl 4 (by decide) (hG.nf (a := RX4) (i := 60) (b := "MappingDesk$Segment") (n := "sourceColumn") (d := "I") (t := "MappingDesk") (by decide +kernel)) (fun _ h9 => h9) rfl dX4_insert_85 ?_
          have b_81 : vp_in i 300 := by
            have k_82 : (0 : Int32).toInt = 0 := by decide
            have q_83 := i_nle c_1
            have q_84 := i_eq c_52
            refine vin ?_ ?_
            all_goals (try generalize Int32.toInt r_51 = z0 at *; try generalize Int32.toInt cn = z1 at *; try generalize Int32.toInt (0 : Int32) = z2 at *; try generalize Int32.toInt i = z3 at *; omega)
          refine va_iast hx hb hG.1 hP hD hS 5 2 rfl rfl b_81 dX4_insert_88 (fun H locs hP hD hS => ?_)
          have hP : va_P (dC, dI) vwCl [(h0, .inr (4, [.ref q0, .ref q1, .ref q2, .ref q3, .ref q4, .ref q5, .int cn])), (q0, .inl (cI, 300, .inl (upd r_56.1 i.toNatClampNeg g0))), (q1, .inl (cI, 300, .inl (upd r_56.2.1 i.toNatClampNeg g1))), (q2, .inl (cI, 300, .inl (upd r_56.2.2.1 i.toNatClampNeg g2))), (q3, .inl (cI, 300, .inl (upd r_56.2.2.2.1 i.toNatClampNeg g3))), (q4, .inl (cI, 300, .inl (upd r_56.2.2.2.2.1 i.toNatClampNeg g4))), (q5, .inl (cI, 300, .inl r_56.2.2.2.2.2)), (h1, .inr (3, [.int g0, .int g1, .int g2, .int g3, .int g4, .int g5]))] H := hP
          have hD : va_D A [(h0, .inr (4, [.ref q0, .ref q1, .ref q2, .ref q3, .ref q4, .ref q5, .int cn])), (q0, .inl (cI, 300, .inl (upd r_56.1 i.toNatClampNeg g0))), (q1, .inl (cI, 300, .inl (upd r_56.2.1 i.toNatClampNeg g1))), (q2, .inl (cI, 300, .inl (upd r_56.2.2.1 i.toNatClampNeg g2))), (q3, .inl (cI, 300, .inl (upd r_56.2.2.2.1 i.toNatClampNeg g3))), (q4, .inl (cI, 300, .inl (upd r_56.2.2.2.2.1 i.toNatClampNeg g4))), (q5, .inl (cI, 300, .inl r_56.2.2.2.2.2)), (h1, .inr (3, [.int g0, .int g1, .int g2, .int g3, .int g4, .int g5]))] := hD
          refine lv_aload_n hx hb dX4_insert_89 rfl (lv_at hl 0 rfl) ?_
          refine va_get (D := (dC, dI)) (ci := 4) (v := .ref q5) (C := RX4) (T := TX4) (N := 7) hx hb hts inc_X4_insert_4 hown hG.1 hP 0 rfl rfl 5 (by decide) (hts (.fieldLink RX4 27 "MappingDesk$Table" "names" "[I") (by decide +kernel)) (fun _ h9 => h9) rfl dX4_insert_90 ?_
          refine lv_iload_n hx hb dX4_insert_93 rfl (lv_at hl 2 rfl) ?_
          refine lv_aload_n hx hb dX4_insert_94 rfl (lv_at hl 1 rfl) ?_
          refine va_getN (D := (dC, dI)) (ci := 3) (v := .int g5) (C := RX3) (T := TX3) (N := 6) hx hb hts inc_X4_insert_3 hown hG.1 hP 7 rfl rfl 5 (by decide) (hG.nf (a := RX4) (i := 63) (b := "MappingDesk$Segment") (n := "name") (d := "I") (t := "MappingDesk") (by decide +kernel)) (fun _ h9 => h9) rfl dX4_insert_95 ?_
          have b_87 : vp_in i 300 := by
            have k_88 : (0 : Int32).toInt = 0 := by decide
            have q_89 := i_nle c_1
            have q_90 := i_eq c_52
            refine vin ?_ ?_
            all_goals (try generalize Int32.toInt r_51 = z0 at *; try generalize Int32.toInt cn = z1 at *; try generalize Int32.toInt (0 : Int32) = z2 at *; try generalize Int32.toInt i = z3 at *; omega)
          refine va_iast hx hb hG.1 hP hD hS 6 2 rfl rfl b_87 dX4_insert_98 (fun H locs hP hD hS => ?_)
          have hP : va_P (dC, dI) vwCl [(h0, .inr (4, [.ref q0, .ref q1, .ref q2, .ref q3, .ref q4, .ref q5, .int cn])), (q0, .inl (cI, 300, .inl (upd r_56.1 i.toNatClampNeg g0))), (q1, .inl (cI, 300, .inl (upd r_56.2.1 i.toNatClampNeg g1))), (q2, .inl (cI, 300, .inl (upd r_56.2.2.1 i.toNatClampNeg g2))), (q3, .inl (cI, 300, .inl (upd r_56.2.2.2.1 i.toNatClampNeg g3))), (q4, .inl (cI, 300, .inl (upd r_56.2.2.2.2.1 i.toNatClampNeg g4))), (q5, .inl (cI, 300, .inl (upd r_56.2.2.2.2.2 i.toNatClampNeg g5))), (h1, .inr (3, [.int g0, .int g1, .int g2, .int g3, .int g4, .int g5]))] H := hP
          have hD : va_D A [(h0, .inr (4, [.ref q0, .ref q1, .ref q2, .ref q3, .ref q4, .ref q5, .int cn])), (q0, .inl (cI, 300, .inl (upd r_56.1 i.toNatClampNeg g0))), (q1, .inl (cI, 300, .inl (upd r_56.2.1 i.toNatClampNeg g1))), (q2, .inl (cI, 300, .inl (upd r_56.2.2.1 i.toNatClampNeg g2))), (q3, .inl (cI, 300, .inl (upd r_56.2.2.2.1 i.toNatClampNeg g3))), (q4, .inl (cI, 300, .inl (upd r_56.2.2.2.2.1 i.toNatClampNeg g4))), (q5, .inl (cI, 300, .inl (upd r_56.2.2.2.2.2 i.toNatClampNeg g5))), (h1, .inr (3, [.int g0, .int g1, .int g2, .int g3, .int g4, .int g5]))] := hD
          refine lv_aload_n hx hb dX4_insert_99 rfl (lv_at hl 0 rfl) ?_
          refine lv_dup hx hb dX4_insert_100 rfl ?_
          refine va_get (D := (dC, dI)) (ci := 4) (v := .int cn) (C := RX4) (T := TX4) (N := 7) hx hb hts inc_X4_insert_4 hown hG.1 hP 0 rfl rfl 6 (by decide) (hts (.fieldLink RX4 30 "MappingDesk$Table" "count" "I") (by decide +kernel)) (fun _ h9 => h9) rfl dX4_insert_101 ?_
          refine lv_iconst (v := 1) hx hb dX4_insert_104 (by decide) ?_
          refine lv_iadd hx hb dX4_insert_105 ?_
          refine va_put (D := (dC, dI)) (ci := 4) (v := .int (cn + 1)) (ty := .int) (C := RX4) (T := TX4) (N := 7) hx hb hts inc_X4_insert_4 tyX4 tyX4_ok nmX4 hown hG.1 hP hD hS 0 rfl rfl 6 (by decide) (hts (.fieldLink RX4 30 "MappingDesk$Table" "count" "I") (by decide +kernel)) (fun _ h9 => h9) rfl (by decide +kernel) rfl rfl (Nat.le_of_ble_eq_true rfl) dX4_insert_106 (fun H locs hP hD hS => ?_)
          have hP : va_P (dC, dI) vwCl [(h0, .inr (4, [.ref q0, .ref q1, .ref q2, .ref q3, .ref q4, .ref q5, .int (cn + 1)])), (q0, .inl (cI, 300, .inl (upd r_56.1 i.toNatClampNeg g0))), (q1, .inl (cI, 300, .inl (upd r_56.2.1 i.toNatClampNeg g1))), (q2, .inl (cI, 300, .inl (upd r_56.2.2.1 i.toNatClampNeg g2))), (q3, .inl (cI, 300, .inl (upd r_56.2.2.2.1 i.toNatClampNeg g3))), (q4, .inl (cI, 300, .inl (upd r_56.2.2.2.2.1 i.toNatClampNeg g4))), (q5, .inl (cI, 300, .inl (upd r_56.2.2.2.2.2 i.toNatClampNeg g5))), (h1, .inr (3, [.int g0, .int g1, .int g2, .int g3, .int g4, .int g5]))] H := hP
          have hD : va_D A [(h0, .inr (4, [.ref q0, .ref q1, .ref q2, .ref q3, .ref q4, .ref q5, .int (cn + 1)])), (q0, .inl (cI, 300, .inl (upd r_56.1 i.toNatClampNeg g0))), (q1, .inl (cI, 300, .inl (upd r_56.2.1 i.toNatClampNeg g1))), (q2, .inl (cI, 300, .inl (upd r_56.2.2.1 i.toNatClampNeg g2))), (q3, .inl (cI, 300, .inl (upd r_56.2.2.2.1 i.toNatClampNeg g3))), (q4, .inl (cI, 300, .inl (upd r_56.2.2.2.2.1 i.toNatClampNeg g4))), (q5, .inl (cI, 300, .inl (upd r_56.2.2.2.2.2 i.toNatClampNeg g5))), (h1, .inr (3, [.int g0, .int g1, .int g2, .int g3, .int g4, .int g5]))] := hD
          have e_93 : 0 ≤ ((cn + 1) : Int32).toInt ∧ ((cn + 1) : Int32).toInt ≤ 300 := by
            have k_94 : (0 : Int32).toInt = 0 := by decide
            have q_95 := i_nle c_1
            have q_96 := i_eq c_52
            have k_97 : (1 : Int32).toInt = 1 := by decide
            have t_98 := ti_add (a := cn) (b := 1) (by omega) (by omega)
            try generalize Int32.toInt (cn + 1) = z0 at *
            try generalize Int32.toInt r_51 = z1 at *
            try generalize Int32.toInt cn = z2 at *
            try generalize Int32.toInt (0 : Int32) = z3 at *
            try generalize Int32.toInt (1 : Int32) = z4 at *
            try generalize Int32.toInt i = z5 at *
            omega
          subst hR
          exact W.vret hx hb hr (fun t ht hW => ⟨⟨(), rfl, e_93, by rw [ht]; exact hP, hD⟩, hS.F ht⟩) hS.2.2 dX4_insert_109
        · rw [if_neg c_52] at hR
          refine lv_iinc (v := (i + (-1))) (lv' := [(2, .int (i + (-1))), (0, .ref h0), (1, .ref h1)]) hx hb dX4_insert_28 hl (k := 2) rfl rfl (by decide) rfl (fun ls hl => ?_)
          refine lv_goto (tgt := 13) hx hb dX4_insert_31 (by decide) ?_
          have v_102 : 0 ≤ ((i + (-1))).toInt := by
            have k_103 : (0 : Int32).toInt = 0 := by decide
            have q_104 := i_nle c_1
            have q_105 := i_ne c_52
            have k_106 : ((-1) : Int32).toInt = -1 := by decide
            have t_107 := ti_add (a := i) (b := (-1)) (by omega) (by omega)
            try generalize Int32.toInt (i + (-1)) = z0 at *
            try generalize Int32.toInt ((-1) : Int32) = z1 at *
            try generalize Int32.toInt r_51 = z2 at *
            try generalize Int32.toInt cn = z3 at *
            try generalize Int32.toInt (0 : Int32) = z4 at *
            try generalize Int32.toInt i = z5 at *
            omega
          have v_108 : ((i + (-1))).toInt ≤ cn.toInt := by
            have k_109 : (0 : Int32).toInt = 0 := by decide
            have q_110 := i_nle c_1
            have q_111 := i_ne c_52
            have k_112 : ((-1) : Int32).toInt = -1 := by decide
            have t_113 := ti_add (a := i) (b := (-1)) (by omega) (by omega)
            try generalize Int32.toInt (i + (-1)) = z0 at *
            try generalize Int32.toInt ((-1) : Int32) = z1 at *
            try generalize Int32.toInt r_51 = z2 at *
            try generalize Int32.toInt cn = z3 at *
            try generalize Int32.toInt (0 : Int32) = z4 at *
            try generalize Int32.toInt i = z5 at *
            omega
          have v_114 : cn.toInt < 300 := by
            first | exact hcn | assumption
          have v_115 : ((i + (-1))).toInt < ((n : Nat) : Int) := by
            have k_116 : (0 : Int32).toInt = 0 := by decide
            have q_117 := i_nle c_1
            have q_118 := i_ne c_52
            have k_119 : ((-1) : Int32).toInt = -1 := by decide
            have t_120 := ti_add (a := i) (b := (-1)) (by omega) (by omega)
            try generalize Int32.toInt (i + (-1)) = z0 at *
            try generalize Int32.toInt ((-1) : Int32) = z1 at *
            try generalize Int32.toInt r_51 = z2 at *
            try generalize Int32.toInt cn = z3 at *
            try generalize Int32.toInt (0 : Int32) = z4 at *
            try generalize Int32.toInt i = z5 at *
            omega
          exact ih ((i + (-1))) _ _ ls hR v_102 v_108 v_114 v_115 hP hD hS (lv_sub hl [1, 2, 0] rfl)
  refine lv_aload_n hx hb dX4_insert_0 rfl (lv_at hl 0 rfl) ?_
  have hPc := hP.sub (ws' := [(h0, .inr (4, [.ref q0, .ref q1, .ref q2, .ref q3, .ref q4, .ref q5, .int cn]))]) [0] rfl
  have hDc := hD.sub (ws' := [(h0, .inr (4, [.ref q0, .ref q1, .ref q2, .ref q3, .ref q4, .ref q5, .int cn]))]) [0] (by decide) rfl
  refine vp_callSi (va_Run.run (va_runV (As := []) (rest := []) ⟨hx, hb, hml, hown, hts⟩ (c_X4_isFull l dC dI cB cC cI cJ H.size h0 q0 q1 q2 q3 q4 q5 cn ) (cwV 0 hts gX4_insert_X4_isFull rfl rfl rfl (by decide +kernel) ⟨(Nat.le_of_ble_eq_true rfl), (Nat.le_of_ble_eq_true rfl)⟩) ⟨cP_blind, va_recv hG.1 hPc (ci := 4) (q0 := 0) rfl rfl, cP_pre hPc hG hDc⟩ rfl rfl hl.1 rfl (lv_room (Nat.le_of_ble_eq_true rfl)) dX4_insert_1 ⟨Nat.le_of_ble_eq_true rfl, Nat.le_of_ble_eq_true rfl⟩)) (fun r_121 hr_121 => ?_)
  rw [bnd_eq hr_121.symm] at hR
  have hfull : r_121 = 0 → cn.toInt < 300 := fun z => X4_isFull_0 (hr_121.symm.trans z)
  refine lv_if_eq (tgt := 8) hx hb dX4_insert_4 (by decide) (fun c_122 => ?_) (fun c_122 => ?_)
  · rw [if_pos c_122] at hR
    refine lv_aload_n hx hb dX4_insert_8 rfl (lv_at hl 0 rfl) ?_
    refine va_get (D := (dC, dI)) (ci := 4) (v := .int cn) (C := RX4) (T := TX4) (N := 7) hx hb hts inc_X4_insert_4 hown hG.1 hP 0 rfl rfl 6 (by decide) (hts (.fieldLink RX4 30 "MappingDesk$Table" "count" "I") (by decide +kernel)) (fun _ h9 => h9) rfl dX4_insert_9 ?_
    refine lv_istore_n (lv' := [(2, .int cn), (0, .ref h0), (1, .ref h1)]) hx hb dX4_insert_12 rfl hl (by decide) rfl (fun ls hl => ?_)
    have v_125 : 0 ≤ cn.toInt := by
      have k_126 : (0 : Int32).toInt = 0 := by decide
      have q_127 := i_eq c_122
      try generalize Int32.toInt r_121 = z0 at *
      try generalize Int32.toInt cn = z1 at *
      try generalize Int32.toInt (0 : Int32) = z2 at *
      omega
    have v_128 : cn.toInt ≤ cn.toInt := by
      have k_129 : (0 : Int32).toInt = 0 := by decide
      have q_130 := i_eq c_122
      try generalize Int32.toInt r_121 = z0 at *
      try generalize Int32.toInt cn = z1 at *
      try generalize Int32.toInt (0 : Int32) = z2 at *
      omega
    have v_131 : cn.toInt < 300 := by
      exact hfull (by assumption)
    have v_132 : cn.toInt < ((301 : Nat) : Int) := by
      have k_133 : (0 : Int32).toInt = 0 := by decide
      have q_134 := i_eq c_122
      try generalize Int32.toInt r_121 = z0 at *
      try generalize Int32.toInt cn = z1 at *
      try generalize Int32.toInt (0 : Int32) = z2 at *
      omega
    exact loop_13 301 (cn) _ _ ls hR v_125 v_128 v_131 v_132 hP hD hS (lv_sub hl [1, 2, 0] rfl)
  · rw [if_neg c_122] at hR
    have e_135 : 0 ≤ (cn : Int32).toInt ∧ (cn : Int32).toInt ≤ 300 := by
      have k_136 : (0 : Int32).toInt = 0 := by decide
      have q_137 := i_ne c_122
      try generalize Int32.toInt r_121 = z0 at *
      try generalize Int32.toInt cn = z1 at *
      try generalize Int32.toInt (0 : Int32) = z2 at *
      omega
    subst hR
    exact W.vret hx hb hr (fun t ht hW => ⟨⟨(), rfl, e_135, by rw [ht]; exact hP, hD⟩, hS.F ht⟩) hS.2.2 dX4_insert_7

def fX4_tellNothing (cn : Int32) (t0 t1 t2 t3 t4 t5 : Nat → Int32) (x : Int32) : (Nat → Int32) × (Nat → Int32) × (Nat → Int32) × (Nat → Int32) :=
  ((upd t2 x.toNatClampNeg (-1)), (upd t3 x.toNatClampNeg (-1)), (upd t4 x.toNatClampNeg (-1)), (upd t5 x.toNatClampNeg (-1)))
theorem inc_X4_tellNothing_4 : ∀ w ∈ u_ws RX4 TX4 7, w ∈ wsX4_tellNothing := by decide +kernel
set_option maxHeartbeats 4000000 in
set_option maxRecDepth 100000 in
theorem c_X4_tellNothing (l : Launch) (dC : Nat → ClassId) (dI : Nat → Nat → Nat) (cB cC cI cJ : ClassId) (sz : Nat) (h0 q0 q1 q2 q3 q4 q5 : Nat) (cn : Int32) (t0 t1 t2 t3 t4 t5 : Nat → Int32) (x : Int32) (hx0 : 0 ≤ x.toInt) (hx1 : x.toInt < 300) : Met l yX4_tellNothing wsX4_tellNothing ({ frames := 0, cells := 0, slots := 0, locals := 0 } : Room) (cP dC dI cB cC cI cJ [.ref h0, .int x] sz [(h0, .inr (4, [.ref q0, .ref q1, .ref q2, .ref q3, .ref q4, .ref q5, .int cn])), (q0, .inl (cI, 300, .inl t0)), (q1, .inl (cI, 300, .inl t1)), (q2, .inl (cI, 300, .inl t2)), (q3, .inl (cI, 300, .inl t3)), (q4, .inl (cI, 300, .inl t4)), (q5, .inl (cI, 300, .inl t5))]) (va_Qv (fun _ => True) (cE dC dI (va_A [(h0, .inr (4, [.ref q0, .ref q1, .ref q2, .ref q3, .ref q4, .ref q5, .int cn])), (q0, .inl (cI, 300, .inl t0)), (q1, .inl (cI, 300, .inl t1)), (q2, .inl (cI, 300, .inl t2)), (q3, .inl (cI, 300, .inl t3)), (q4, .inl (cI, 300, .inl t4)), (q5, .inl (cI, 300, .inl t5))] sz) [(h0, .inr (4, [.ref q0, .ref q1, .ref q2, .ref q3, .ref q4, .ref q5, .int cn])), (q0, .inl (cI, 300, .inl t0)), (q1, .inl (cI, 300, .inl t1)), (q2, .inl (cI, 300, .inl (fX4_tellNothing cn t0 t1 t2 t3 t4 t5 x).1)), (q3, .inl (cI, 300, .inl (fX4_tellNothing cn t0 t1 t2 t3 t4 t5 x).2.1)), (q4, .inl (cI, 300, .inl (fX4_tellNothing cn t0 t1 t2 t3 t4 t5 x).2.2.1)), (q5, .inl (cI, 300, .inl (fX4_tellNothing cn t0 t1 t2 t3 t4 t5 x).2.2.2))]) (va_A [(h0, .inr (4, [.ref q0, .ref q1, .ref q2, .ref q3, .ref q4, .ref q5, .int cn])), (q0, .inl (cI, 300, .inl t0)), (q1, .inl (cI, 300, .inl t1)), (q2, .inl (cI, 300, .inl t2)), (q3, .inl (cI, 300, .inl t3)), (q4, .inl (cI, 300, .inl t4)), (q5, .inl (cI, 300, .inl t5))] sz)) 0 0 (va_A [(h0, .inr (4, [.ref q0, .ref q1, .ref q2, .ref q3, .ref q4, .ref q5, .int cn])), (q0, .inl (cI, 300, .inl t0)), (q1, .inl (cI, 300, .inl t1)), (q2, .inl (cI, 300, .inl t2)), (q3, .inl (cI, 300, .inl t3)), (q4, .inl (cI, 300, .inl t4)), (q5, .inl (cI, 300, .inl t5))] sz) := by
  refine Met.ofW (cc := cX4_tellNothing) (maxL := 2) (ret := none) (by decide) rfl ?_
  intro p e s m args below meth c s₁ B hml hv
  obtain ⟨rfl, hsz, hP, hG, hD0⟩ := hv
  have hx := B.exec
  have hb := B.bytes
  have hr := B.returns
  have hts := atoms_spec (ws := wsX4_tellNothing) B.pre
  have hown : s.vm.findClass RX4 = some m.cls := findClass_of_methodNamed B.named
  have hlocks := B.notSynchronized
  subst hsz
  have hD := hD0.self (sz := s.heap.size)
  generalize hAe : va_A [(h0, .inr (4, [.ref q0, .ref q1, .ref q2, .ref q3, .ref q4, .ref q5, .int cn])), (q0, .inl (cI, 300, .inl t0)), (q1, .inl (cI, 300, .inl t1)), (q2, .inl (cI, 300, .inl t2)), (q3, .inl (cI, 300, .inl t3)), (q4, .inl (cI, 300, .inl t4)), (q5, .inl (cI, 300, .inl t5))] s.heap.size = A at hD ⊢
  have hA : ∀ q : Nat, s.heap.size ≤ q → A q := fun q h => by rw [← hAe]; exact Or.inr h
  obtain ⟨H, hH⟩ : ∃ H : Heap, H = s.heap := ⟨_, rfl⟩
  have hS : va_S A s.heap H [] := by rw [hH]; exact va_S.rf
  rw [← hH] at hP ⊢
  generalize hR : fX4_tellNothing cn t0 t1 t2 t3 t4 t5 x = R
  unfold fX4_tellNothing at hR
  have hl := lv_entry ([.ref h0, .int x]) (n := 2) (Nat.le_of_ble_eq_true rfl)
  rw [lg_entry_eq]
  generalize (lg_sl ([.ref h0, .int x]) ++ List.replicate (2 - (lg_sl ([.ref h0, .int x])).length) Slot.unset).toArray = ls at hl ⊢
  have hl : lv_has ls 2 [(0, .ref h0), (1, .int x)] := hl
  refine lv_aload_n hx hb dX4_tellNothing_0 rfl (lv_at hl 0 rfl) ?_
  refine va_get (D := (dC, dI)) (ci := 4) (v := .ref q2) (C := RX4) (T := TX4) (N := 7) hx hb hts inc_X4_tellNothing_4 hown hG.1 hP 0 rfl rfl 2 (by decide) (hts (.fieldLink RX4 18 "MappingDesk$Table" "sources" "[I") (by decide +kernel)) (fun _ h9 => h9) rfl dX4_tellNothing_1 ?_
  refine lv_iload_n hx hb dX4_tellNothing_4 rfl (lv_at hl 1 rfl) ?_
  refine lv_iconst (v := (-1)) hx hb dX4_tellNothing_5 (by decide) ?_
  have b_1 : vp_in x 300 := by
    refine vin ?_ ?_
    all_goals (try generalize Int32.toInt x = z0 at *; omega)
  refine va_iast hx hb hG.1 hP hD hS 3 2 rfl rfl b_1 dX4_tellNothing_6 (fun H locs hP hD hS => ?_)
  have hP : va_P (dC, dI) vwCl [(h0, .inr (4, [.ref q0, .ref q1, .ref q2, .ref q3, .ref q4, .ref q5, .int cn])), (q0, .inl (cI, 300, .inl t0)), (q1, .inl (cI, 300, .inl t1)), (q2, .inl (cI, 300, .inl (upd t2 x.toNatClampNeg (-1)))), (q3, .inl (cI, 300, .inl t3)), (q4, .inl (cI, 300, .inl t4)), (q5, .inl (cI, 300, .inl t5))] H := hP
  have hD : va_D A [(h0, .inr (4, [.ref q0, .ref q1, .ref q2, .ref q3, .ref q4, .ref q5, .int cn])), (q0, .inl (cI, 300, .inl t0)), (q1, .inl (cI, 300, .inl t1)), (q2, .inl (cI, 300, .inl (upd t2 x.toNatClampNeg (-1)))), (q3, .inl (cI, 300, .inl t3)), (q4, .inl (cI, 300, .inl t4)), (q5, .inl (cI, 300, .inl t5))] := hD
  refine lv_aload_n hx hb dX4_tellNothing_7 rfl (lv_at hl 0 rfl) ?_
  refine va_get (D := (dC, dI)) (ci := 4) (v := .ref q3) (C := RX4) (T := TX4) (N := 7) hx hb hts inc_X4_tellNothing_4 hown hG.1 hP 0 rfl rfl 3 (by decide) (hts (.fieldLink RX4 21 "MappingDesk$Table" "sourceLines" "[I") (by decide +kernel)) (fun _ h9 => h9) rfl dX4_tellNothing_8 ?_
  refine lv_iload_n hx hb dX4_tellNothing_11 rfl (lv_at hl 1 rfl) ?_
  refine lv_iconst (v := (-1)) hx hb dX4_tellNothing_12 (by decide) ?_
  have b_4 : vp_in x 300 := by
    refine vin ?_ ?_
    all_goals (try generalize Int32.toInt x = z0 at *; omega)
  refine va_iast hx hb hG.1 hP hD hS 4 2 rfl rfl b_4 dX4_tellNothing_13 (fun H locs hP hD hS => ?_)
  have hP : va_P (dC, dI) vwCl [(h0, .inr (4, [.ref q0, .ref q1, .ref q2, .ref q3, .ref q4, .ref q5, .int cn])), (q0, .inl (cI, 300, .inl t0)), (q1, .inl (cI, 300, .inl t1)), (q2, .inl (cI, 300, .inl (upd t2 x.toNatClampNeg (-1)))), (q3, .inl (cI, 300, .inl (upd t3 x.toNatClampNeg (-1)))), (q4, .inl (cI, 300, .inl t4)), (q5, .inl (cI, 300, .inl t5))] H := hP
  have hD : va_D A [(h0, .inr (4, [.ref q0, .ref q1, .ref q2, .ref q3, .ref q4, .ref q5, .int cn])), (q0, .inl (cI, 300, .inl t0)), (q1, .inl (cI, 300, .inl t1)), (q2, .inl (cI, 300, .inl (upd t2 x.toNatClampNeg (-1)))), (q3, .inl (cI, 300, .inl (upd t3 x.toNatClampNeg (-1)))), (q4, .inl (cI, 300, .inl t4)), (q5, .inl (cI, 300, .inl t5))] := hD
  refine lv_aload_n hx hb dX4_tellNothing_14 rfl (lv_at hl 0 rfl) ?_
  refine va_get (D := (dC, dI)) (ci := 4) (v := .ref q4) (C := RX4) (T := TX4) (N := 7) hx hb hts inc_X4_tellNothing_4 hown hG.1 hP 0 rfl rfl 4 (by decide) (hts (.fieldLink RX4 24 "MappingDesk$Table" "sourceColumns" "[I") (by decide +kernel)) (fun _ h9 => h9) rfl dX4_tellNothing_15 ?_
  refine lv_iload_n hx hb dX4_tellNothing_18 rfl (lv_at hl 1 rfl) ?_
  refine lv_iconst (v := (-1)) hx hb dX4_tellNothing_19 (by decide) ?_
  have b_7 : vp_in x 300 := by
    refine vin ?_ ?_
    all_goals (try generalize Int32.toInt x = z0 at *; omega)
  refine va_iast hx hb hG.1 hP hD hS 5 2 rfl rfl b_7 dX4_tellNothing_20 (fun H locs hP hD hS => ?_)
  have hP : va_P (dC, dI) vwCl [(h0, .inr (4, [.ref q0, .ref q1, .ref q2, .ref q3, .ref q4, .ref q5, .int cn])), (q0, .inl (cI, 300, .inl t0)), (q1, .inl (cI, 300, .inl t1)), (q2, .inl (cI, 300, .inl (upd t2 x.toNatClampNeg (-1)))), (q3, .inl (cI, 300, .inl (upd t3 x.toNatClampNeg (-1)))), (q4, .inl (cI, 300, .inl (upd t4 x.toNatClampNeg (-1)))), (q5, .inl (cI, 300, .inl t5))] H := hP
  have hD : va_D A [(h0, .inr (4, [.ref q0, .ref q1, .ref q2, .ref q3, .ref q4, .ref q5, .int cn])), (q0, .inl (cI, 300, .inl t0)), (q1, .inl (cI, 300, .inl t1)), (q2, .inl (cI, 300, .inl (upd t2 x.toNatClampNeg (-1)))), (q3, .inl (cI, 300, .inl (upd t3 x.toNatClampNeg (-1)))), (q4, .inl (cI, 300, .inl (upd t4 x.toNatClampNeg (-1)))), (q5, .inl (cI, 300, .inl t5))] := hD
  refine lv_aload_n hx hb dX4_tellNothing_21 rfl (lv_at hl 0 rfl) ?_
  refine va_get (D := (dC, dI)) (ci := 4) (v := .ref q5) (C := RX4) (T := TX4) (N := 7) hx hb hts inc_X4_tellNothing_4 hown hG.1 hP 0 rfl rfl 5 (by decide) (hts (.fieldLink RX4 27 "MappingDesk$Table" "names" "[I") (by decide +kernel)) (fun _ h9 => h9) rfl dX4_tellNothing_22 ?_
  refine lv_iload_n hx hb dX4_tellNothing_25 rfl (lv_at hl 1 rfl) ?_
  refine lv_iconst (v := (-1)) hx hb dX4_tellNothing_26 (by decide) ?_
  have b_10 : vp_in x 300 := by
    refine vin ?_ ?_
    all_goals (try generalize Int32.toInt x = z0 at *; omega)
  refine va_iast hx hb hG.1 hP hD hS 6 2 rfl rfl b_10 dX4_tellNothing_27 (fun H locs hP hD hS => ?_)
  have hP : va_P (dC, dI) vwCl [(h0, .inr (4, [.ref q0, .ref q1, .ref q2, .ref q3, .ref q4, .ref q5, .int cn])), (q0, .inl (cI, 300, .inl t0)), (q1, .inl (cI, 300, .inl t1)), (q2, .inl (cI, 300, .inl (upd t2 x.toNatClampNeg (-1)))), (q3, .inl (cI, 300, .inl (upd t3 x.toNatClampNeg (-1)))), (q4, .inl (cI, 300, .inl (upd t4 x.toNatClampNeg (-1)))), (q5, .inl (cI, 300, .inl (upd t5 x.toNatClampNeg (-1))))] H := hP
  have hD : va_D A [(h0, .inr (4, [.ref q0, .ref q1, .ref q2, .ref q3, .ref q4, .ref q5, .int cn])), (q0, .inl (cI, 300, .inl t0)), (q1, .inl (cI, 300, .inl t1)), (q2, .inl (cI, 300, .inl (upd t2 x.toNatClampNeg (-1)))), (q3, .inl (cI, 300, .inl (upd t3 x.toNatClampNeg (-1)))), (q4, .inl (cI, 300, .inl (upd t4 x.toNatClampNeg (-1)))), (q5, .inl (cI, 300, .inl (upd t5 x.toNatClampNeg (-1))))] := hD
  subst hR
  exact W.vret hx hb hr (fun t ht hW => ⟨⟨(), rfl, trivial, by rw [ht]; exact hP, hD⟩, hS.F ht⟩) hS.2.2 dX4_tellNothing_28

def fX4_copyTo (cn : Int32) (t0 t1 t2 t3 t4 t5 : Nat → Int32) (g0 g1 g2 g3 g4 g5 : Int32) (x : Int32) : Int32 × Int32 × Int32 × Int32 × Int32 × Int32 :=
  bnd (fX3_standAt g0 g1 g2 g3 g4 g5 (t0 x.toNatClampNeg) (t1 x.toNatClampNeg)) fun r_7 =>
  bnd (fX4_tells cn t2 x) fun r_10 =>
  if r_10 = 0 then
    (r_7.1, r_7.2.1, r_7.2.2.1, r_7.2.2.2.1, r_7.2.2.2.2.1, r_7.2.2.2.2.2)
  else
    bnd (fX3_tell r_7.1 r_7.2.1 r_7.2.2.1 r_7.2.2.2.1 r_7.2.2.2.2.1 r_7.2.2.2.2.2 (t2 x.toNatClampNeg) (t3 x.toNatClampNeg) (t4 x.toNatClampNeg) (t5 x.toNatClampNeg)) fun r_35 =>
    (r_7.1, r_7.2.1, r_35.1, r_35.2.1, r_35.2.2.1, r_35.2.2.2)
theorem inc_X4_copyTo_4 : ∀ w ∈ u_ws RX4 TX4 7, w ∈ wsX4_copyTo := by decide +kernel
set_option maxHeartbeats 4000000 in
set_option maxRecDepth 100000 in
theorem c_X4_copyTo (l : Launch) (dC : Nat → ClassId) (dI : Nat → Nat → Nat) (cB cC cI cJ : ClassId) (sz : Nat) (h0 h1 q0 q1 q2 q3 q4 q5 : Nat) (cn : Int32) (t0 t1 t2 t3 t4 t5 : Nat → Int32) (g0 g1 g2 g3 g4 g5 : Int32) (x : Int32) (hx0 : 0 ≤ x.toInt) (hx1 : x.toInt < 300) : Met l yX4_copyTo wsX4_copyTo ({ frames := 1, cells := 0, slots := 0, locals := 24 } : Room) (cP dC dI cB cC cI cJ [.ref h0, .int x, .ref h1] sz [(h0, .inr (4, [.ref q0, .ref q1, .ref q2, .ref q3, .ref q4, .ref q5, .int cn])), (q0, .inl (cI, 300, .inl t0)), (q1, .inl (cI, 300, .inl t1)), (q2, .inl (cI, 300, .inl t2)), (q3, .inl (cI, 300, .inl t3)), (q4, .inl (cI, 300, .inl t4)), (q5, .inl (cI, 300, .inl t5)), (h1, .inr (3, [.int g0, .int g1, .int g2, .int g3, .int g4, .int g5]))]) (va_Qv (fun _ => ((fX4_copyTo cn t0 t1 t2 t3 t4 t5 g0 g1 g2 g3 g4 g5 x).1.toInt = (t0 x.toNatClampNeg).toInt)) (cE dC dI (va_A [(h0, .inr (4, [.ref q0, .ref q1, .ref q2, .ref q3, .ref q4, .ref q5, .int cn])), (q0, .inl (cI, 300, .inl t0)), (q1, .inl (cI, 300, .inl t1)), (q2, .inl (cI, 300, .inl t2)), (q3, .inl (cI, 300, .inl t3)), (q4, .inl (cI, 300, .inl t4)), (q5, .inl (cI, 300, .inl t5)), (h1, .inr (3, [.int g0, .int g1, .int g2, .int g3, .int g4, .int g5]))] sz) [(h0, .inr (4, [.ref q0, .ref q1, .ref q2, .ref q3, .ref q4, .ref q5, .int cn])), (q0, .inl (cI, 300, .inl t0)), (q1, .inl (cI, 300, .inl t1)), (q2, .inl (cI, 300, .inl t2)), (q3, .inl (cI, 300, .inl t3)), (q4, .inl (cI, 300, .inl t4)), (q5, .inl (cI, 300, .inl t5)), (h1, .inr (3, [.int (fX4_copyTo cn t0 t1 t2 t3 t4 t5 g0 g1 g2 g3 g4 g5 x).1, .int (fX4_copyTo cn t0 t1 t2 t3 t4 t5 g0 g1 g2 g3 g4 g5 x).2.1, .int (fX4_copyTo cn t0 t1 t2 t3 t4 t5 g0 g1 g2 g3 g4 g5 x).2.2.1, .int (fX4_copyTo cn t0 t1 t2 t3 t4 t5 g0 g1 g2 g3 g4 g5 x).2.2.2.1, .int (fX4_copyTo cn t0 t1 t2 t3 t4 t5 g0 g1 g2 g3 g4 g5 x).2.2.2.2.1, .int (fX4_copyTo cn t0 t1 t2 t3 t4 t5 g0 g1 g2 g3 g4 g5 x).2.2.2.2.2]))]) (va_A [(h0, .inr (4, [.ref q0, .ref q1, .ref q2, .ref q3, .ref q4, .ref q5, .int cn])), (q0, .inl (cI, 300, .inl t0)), (q1, .inl (cI, 300, .inl t1)), (q2, .inl (cI, 300, .inl t2)), (q3, .inl (cI, 300, .inl t3)), (q4, .inl (cI, 300, .inl t4)), (q5, .inl (cI, 300, .inl t5)), (h1, .inr (3, [.int g0, .int g1, .int g2, .int g3, .int g4, .int g5]))] sz)) 0 0 (va_A [(h0, .inr (4, [.ref q0, .ref q1, .ref q2, .ref q3, .ref q4, .ref q5, .int cn])), (q0, .inl (cI, 300, .inl t0)), (q1, .inl (cI, 300, .inl t1)), (q2, .inl (cI, 300, .inl t2)), (q3, .inl (cI, 300, .inl t3)), (q4, .inl (cI, 300, .inl t4)), (q5, .inl (cI, 300, .inl t5)), (h1, .inr (3, [.int g0, .int g1, .int g2, .int g3, .int g4, .int g5]))] sz) := by
  refine Met.ofW (cc := cX4_copyTo) (maxL := 3) (ret := none) (by decide) rfl ?_
  intro p e s m args below meth c s₁ B hml hv
  obtain ⟨rfl, hsz, hP, hG, hD0⟩ := hv
  have hx := B.exec
  have hb := B.bytes
  have hr := B.returns
  have hts := atoms_spec (ws := wsX4_copyTo) B.pre
  have hown : s.vm.findClass RX4 = some m.cls := findClass_of_methodNamed B.named
  have hlocks := B.notSynchronized
  subst hsz
  have hD := hD0.self (sz := s.heap.size)
  generalize hAe : va_A [(h0, .inr (4, [.ref q0, .ref q1, .ref q2, .ref q3, .ref q4, .ref q5, .int cn])), (q0, .inl (cI, 300, .inl t0)), (q1, .inl (cI, 300, .inl t1)), (q2, .inl (cI, 300, .inl t2)), (q3, .inl (cI, 300, .inl t3)), (q4, .inl (cI, 300, .inl t4)), (q5, .inl (cI, 300, .inl t5)), (h1, .inr (3, [.int g0, .int g1, .int g2, .int g3, .int g4, .int g5]))] s.heap.size = A at hD ⊢
  have hA : ∀ q : Nat, s.heap.size ≤ q → A q := fun q h => by rw [← hAe]; exact Or.inr h
  obtain ⟨H, hH⟩ : ∃ H : Heap, H = s.heap := ⟨_, rfl⟩
  have hS : va_S A s.heap H [] := by rw [hH]; exact va_S.rf
  rw [← hH] at hP ⊢
  generalize hR : fX4_copyTo cn t0 t1 t2 t3 t4 t5 g0 g1 g2 g3 g4 g5 x = R
  unfold fX4_copyTo at hR
  have hl := lv_entry ([.ref h0, .int x, .ref h1]) (n := 3) (Nat.le_of_ble_eq_true rfl)
  rw [lg_entry_eq]
  generalize (lg_sl ([.ref h0, .int x, .ref h1]) ++ List.replicate (3 - (lg_sl ([.ref h0, .int x, .ref h1])).length) Slot.unset).toArray = ls at hl ⊢
  have hl : lv_has ls 3 [(0, .ref h0), (1, .int x), (2, .ref h1)] := hl
  refine lv_aload_n hx hb dX4_copyTo_0 rfl (lv_at hl 2 rfl) ?_
  refine lv_aload_n hx hb dX4_copyTo_1 rfl (lv_at hl 0 rfl) ?_
  refine va_get (D := (dC, dI)) (ci := 4) (v := .ref q0) (C := RX4) (T := TX4) (N := 7) hx hb hts inc_X4_copyTo_4 hown hG.1 hP 0 rfl rfl 0 (by decide) (hts (.fieldLink RX4 9 "MappingDesk$Table" "lines" "[I") (by decide +kernel)) (fun _ h9 => h9) rfl dX4_copyTo_2 ?_
  refine lv_iload_n hx hb dX4_copyTo_5 rfl (lv_at hl 1 rfl) ?_
  have b_1 : vp_in x 300 := by
    refine vin ?_ ?_
    all_goals (try generalize Int32.toInt (t0 x.toNatClampNeg) = z0 at *; try generalize Int32.toInt x = z1 at *; omega)
  refine va_iald hx hb hG.1 hP 1 2 rfl rfl b_1 dX4_copyTo_6 ?_
  refine lv_aload_n hx hb dX4_copyTo_7 rfl (lv_at hl 0 rfl) ?_
  refine va_get (D := (dC, dI)) (ci := 4) (v := .ref q1) (C := RX4) (T := TX4) (N := 7) hx hb hts inc_X4_copyTo_4 hown hG.1 hP 0 rfl rfl 1 (by decide) (hts (.fieldLink RX4 15 "MappingDesk$Table" "columns" "[I") (by decide +kernel)) (fun _ h9 => h9) rfl dX4_copyTo_8 ?_
  refine lv_iload_n hx hb dX4_copyTo_11 rfl (lv_at hl 1 rfl) ?_
  have b_4 : vp_in x 300 := by
    refine vin ?_ ?_
    all_goals (try generalize Int32.toInt (t0 x.toNatClampNeg) = z0 at *; try generalize Int32.toInt x = z1 at *; omega)
  refine va_iald hx hb hG.1 hP 2 2 rfl rfl b_4 dX4_copyTo_12 ?_
  have hPc := hP.sub (ws' := [(h1, .inr (3, [.int g0, .int g1, .int g2, .int g3, .int g4, .int g5]))]) [7] rfl
  have hDc := hD.sub (ws' := [(h1, .inr (3, [.int g0, .int g1, .int g2, .int g3, .int g4, .int g5]))]) [7] (by decide) rfl
  have hFc := va_free (wc := [(h1, .inr (3, [.int g0, .int g1, .int g2, .int g3, .int g4, .int g5]))]) hD hS hA [7] rfl
  refine va_callv (va_runVN (C := RX3) (As := [.int (t0 x.toNatClampNeg), .int (t1 x.toNatClampNeg)]) (rest := []) ⟨hx, hb, hml, hown, hts⟩ (c_X3_standAt l dC dI cB cC cI cJ H.size h1 g0 g1 g2 g3 g4 g5 (t0 x.toNatClampNeg) (t1 x.toNatClampNeg) ) ⟨va_cnB 2 hts gX4_copyTo_X3_standAt_n72 rfl rfl rfl (hG.nm (A := #[]) (w := .methodLinkNest RX4 72 yX3_standAt "MappingDesk") (by decide +kernel)) (hts (.initialized RX3) (by decide +kernel)) (by decide +kernel) ⟨(Nat.le_of_ble_eq_true rfl), (Nat.le_of_ble_eq_true rfl)⟩, hts (.instanceMethod yX3_standAt) (by decide +kernel), hts (.selects RX3 yX3_standAt yX3_standAt) (by decide +kernel)⟩ ⟨cP_blind, va_recv hG.1 hPc (ci := 3) (q0 := 0) rfl rfl, cP_pre hPc hG hDc⟩ rfl rfl hl.1 rfl (lv_room (Nat.le_of_ble_eq_true rfl)) dX4_copyTo_13 ⟨Nat.le_of_ble_eq_true rfl, Nat.le_of_ble_eq_true rfl⟩) hS (fun q _ h => hFc q h) hFc (fun u t H1 locs ht hvm hw hB hz1 hk1 hS => ?_)
  obtain ⟨hP1, hD1⟩ := hB
  rw [ht] at hP1
  generalize hr_7 : fX3_standAt g0 g1 g2 g3 g4 g5 (t0 x.toNatClampNeg) (t1 x.toNatClampNeg) = r_7 at hP1 hD1 hw
  have er_7_0 := hw
  rw [bnd_eq hr_7] at hR
  obtain ⟨hP, hD⟩ := va_join (wr := [(h0, .inr (4, [.ref q0, .ref q1, .ref q2, .ref q3, .ref q4, .ref q5, .int cn])), (q0, .inl (cI, 300, .inl t0)), (q1, .inl (cI, 300, .inl t1)), (q2, .inl (cI, 300, .inl t2)), (q3, .inl (cI, 300, .inl t3)), (q4, .inl (cI, 300, .inl t4)), (q5, .inl (cI, 300, .inl t5))]) (w1 := [(h1, .inr (3, [.int r_7.1, .int r_7.2.1, .int r_7.2.2.1, .int r_7.2.2.2.1, .int r_7.2.2.2.2.1, .int r_7.2.2.2.2.2]))]) hP hD [7] [0, 1, 2, 3, 4, 5, 6] rfl rfl (by decide) (by decide) hk1 hFc hP1 hD1
  generalize H1 = H at hP hS ⊢
  have hP := hP.sub (ws' := [(h0, .inr (4, [.ref q0, .ref q1, .ref q2, .ref q3, .ref q4, .ref q5, .int cn])), (q0, .inl (cI, 300, .inl t0)), (q1, .inl (cI, 300, .inl t1)), (q2, .inl (cI, 300, .inl t2)), (q3, .inl (cI, 300, .inl t3)), (q4, .inl (cI, 300, .inl t4)), (q5, .inl (cI, 300, .inl t5)), (h1, .inr (3, [.int r_7.1, .int r_7.2.1, .int r_7.2.2.1, .int r_7.2.2.2.1, .int r_7.2.2.2.2.1, .int r_7.2.2.2.2.2]))]) [0, 1, 2, 3, 4, 5, 6, 7] rfl
  have hD := hD.sub (ws' := [(h0, .inr (4, [.ref q0, .ref q1, .ref q2, .ref q3, .ref q4, .ref q5, .int cn])), (q0, .inl (cI, 300, .inl t0)), (q1, .inl (cI, 300, .inl t1)), (q2, .inl (cI, 300, .inl t2)), (q3, .inl (cI, 300, .inl t3)), (q4, .inl (cI, 300, .inl t4)), (q5, .inl (cI, 300, .inl t5)), (h1, .inr (3, [.int r_7.1, .int r_7.2.1, .int r_7.2.2.1, .int r_7.2.2.2.1, .int r_7.2.2.2.2.1, .int r_7.2.2.2.2.2]))]) [0, 1, 2, 3, 4, 5, 6, 7] (by decide) rfl
  refine lv_aload_n hx hb dX4_copyTo_16 rfl (lv_at hl 0 rfl) ?_
  refine lv_iload_n hx hb dX4_copyTo_17 rfl (lv_at hl 1 rfl) ?_
  have p_8 : 0 ≤ x.toInt := by
    first | exact hx0 | assumption
  have p_9 : x.toInt < 300 := by
    first | exact hx1 | assumption
  have hPc := hP.sub (ws' := [(h0, .inr (4, [.ref q0, .ref q1, .ref q2, .ref q3, .ref q4, .ref q5, .int cn])), (q2, .inl (cI, 300, .inl t2))]) [0, 3] rfl
  have hDc := hD.sub (ws' := [(h0, .inr (4, [.ref q0, .ref q1, .ref q2, .ref q3, .ref q4, .ref q5, .int cn])), (q2, .inl (cI, 300, .inl t2))]) [0, 3] (by decide) rfl
  refine vp_callSi (va_Run.run (va_runV (As := [.int x]) (rest := []) ⟨hx, hb, hml, hown, hts⟩ (c_X4_tells l dC dI cB cC cI cJ H.size h0 q0 q1 q2 q3 q4 q5 cn t2 x p_8 p_9) (cwV 1 hts gX4_copyTo_X4_tells rfl rfl rfl (by decide +kernel) ⟨(Nat.le_of_ble_eq_true rfl), (Nat.le_of_ble_eq_true rfl)⟩) ⟨cP_blind, va_recv hG.1 hPc (ci := 4) (q0 := 0) rfl rfl, cP_pre hPc hG hDc⟩ rfl rfl hl.1 rfl (lv_room (Nat.le_of_ble_eq_true rfl)) dX4_copyTo_18 ⟨Nat.le_of_ble_eq_true rfl, Nat.le_of_ble_eq_true rfl⟩)) (fun r_10 hr_10 => ?_)
  rw [bnd_eq hr_10.symm] at hR
  refine lv_if_eq (tgt := 52) hx hb dX4_copyTo_21 (by decide) (fun c_11 => ?_) (fun c_11 => ?_)
  · rw [if_pos c_11] at hR
    have e_12 : (r_7.1 : Int32).toInt = (t0 x.toNatClampNeg).toInt := by
      have k_13 : (0 : Int32).toInt = 0 := by decide
      have q_14 := i_eq c_11
      try generalize Int32.toInt (t0 x.toNatClampNeg) = z0 at *
      try generalize Int32.toInt r_7.1 = z1 at *
      try generalize Int32.toInt r_10 = z2 at *
      try generalize Int32.toInt (0 : Int32) = z3 at *
      try generalize Int32.toInt x = z4 at *
      omega
    subst hR
    exact W.vret hx hb hr (fun t ht hW => ⟨⟨(), rfl, e_12, by rw [ht]; exact hP, hD⟩, hS.F ht⟩) hS.2.2 dX4_copyTo_52
  · rw [if_neg c_11] at hR
    refine lv_aload_n hx hb dX4_copyTo_24 rfl (lv_at hl 2 rfl) ?_
    refine lv_aload_n hx hb dX4_copyTo_25 rfl (lv_at hl 0 rfl) ?_
    refine va_get (D := (dC, dI)) (ci := 4) (v := .ref q2) (C := RX4) (T := TX4) (N := 7) hx hb hts inc_X4_copyTo_4 hown hG.1 hP 0 rfl rfl 2 (by decide) (hts (.fieldLink RX4 18 "MappingDesk$Table" "sources" "[I") (by decide +kernel)) (fun _ h9 => h9) rfl dX4_copyTo_26 ?_
    refine lv_iload_n hx hb dX4_copyTo_29 rfl (lv_at hl 1 rfl) ?_
    have b_15 : vp_in x 300 := by
      have k_16 : (0 : Int32).toInt = 0 := by decide
      have q_17 := i_ne c_11
      refine vin ?_ ?_
      all_goals (try generalize Int32.toInt (t0 x.toNatClampNeg) = z0 at *; try generalize Int32.toInt r_7.1 = z1 at *; try generalize Int32.toInt r_10 = z2 at *; try generalize Int32.toInt (0 : Int32) = z3 at *; try generalize Int32.toInt x = z4 at *; omega)
    refine va_iald hx hb hG.1 hP 3 2 rfl rfl b_15 dX4_copyTo_30 ?_
    refine lv_aload_n hx hb dX4_copyTo_31 rfl (lv_at hl 0 rfl) ?_
    refine va_get (D := (dC, dI)) (ci := 4) (v := .ref q3) (C := RX4) (T := TX4) (N := 7) hx hb hts inc_X4_copyTo_4 hown hG.1 hP 0 rfl rfl 3 (by decide) (hts (.fieldLink RX4 21 "MappingDesk$Table" "sourceLines" "[I") (by decide +kernel)) (fun _ h9 => h9) rfl dX4_copyTo_32 ?_
    refine lv_iload_n hx hb dX4_copyTo_35 rfl (lv_at hl 1 rfl) ?_
    have b_20 : vp_in x 300 := by
      have k_21 : (0 : Int32).toInt = 0 := by decide
      have q_22 := i_ne c_11
      refine vin ?_ ?_
      all_goals (try generalize Int32.toInt (t0 x.toNatClampNeg) = z0 at *; try generalize Int32.toInt r_7.1 = z1 at *; try generalize Int32.toInt r_10 = z2 at *; try generalize Int32.toInt (0 : Int32) = z3 at *; try generalize Int32.toInt x = z4 at *; omega)
    refine va_iald hx hb hG.1 hP 4 2 rfl rfl b_20 dX4_copyTo_36 ?_
    refine lv_aload_n hx hb dX4_copyTo_37 rfl (lv_at hl 0 rfl) ?_
    refine va_get (D := (dC, dI)) (ci := 4) (v := .ref q4) (C := RX4) (T := TX4) (N := 7) hx hb hts inc_X4_copyTo_4 hown hG.1 hP 0 rfl rfl 4 (by decide) (hts (.fieldLink RX4 24 "MappingDesk$Table" "sourceColumns" "[I") (by decide +kernel)) (fun _ h9 => h9) rfl dX4_copyTo_38 ?_
    refine lv_iload_n hx hb dX4_copyTo_41 rfl (lv_at hl 1 rfl) ?_
    have b_25 : vp_in x 300 := by
      have k_26 : (0 : Int32).toInt = 0 := by decide
      have q_27 := i_ne c_11
      refine vin ?_ ?_
      all_goals (try generalize Int32.toInt (t0 x.toNatClampNeg) = z0 at *; try generalize Int32.toInt r_7.1 = z1 at *; try generalize Int32.toInt r_10 = z2 at *; try generalize Int32.toInt (0 : Int32) = z3 at *; try generalize Int32.toInt x = z4 at *; omega)
    refine va_iald hx hb hG.1 hP 5 2 rfl rfl b_25 dX4_copyTo_42 ?_
    refine lv_aload_n hx hb dX4_copyTo_43 rfl (lv_at hl 0 rfl) ?_
    refine va_get (D := (dC, dI)) (ci := 4) (v := .ref q5) (C := RX4) (T := TX4) (N := 7) hx hb hts inc_X4_copyTo_4 hown hG.1 hP 0 rfl rfl 5 (by decide) (hts (.fieldLink RX4 27 "MappingDesk$Table" "names" "[I") (by decide +kernel)) (fun _ h9 => h9) rfl dX4_copyTo_44 ?_
    refine lv_iload_n hx hb dX4_copyTo_47 rfl (lv_at hl 1 rfl) ?_
    have b_30 : vp_in x 300 := by
      have k_31 : (0 : Int32).toInt = 0 := by decide
      have q_32 := i_ne c_11
      refine vin ?_ ?_
      all_goals (try generalize Int32.toInt (t0 x.toNatClampNeg) = z0 at *; try generalize Int32.toInt r_7.1 = z1 at *; try generalize Int32.toInt r_10 = z2 at *; try generalize Int32.toInt (0 : Int32) = z3 at *; try generalize Int32.toInt x = z4 at *; omega)
    refine va_iald hx hb hG.1 hP 6 2 rfl rfl b_30 dX4_copyTo_48 ?_
    have hPc := hP.sub (ws' := [(h1, .inr (3, [.int r_7.1, .int r_7.2.1, .int r_7.2.2.1, .int r_7.2.2.2.1, .int r_7.2.2.2.2.1, .int r_7.2.2.2.2.2]))]) [7] rfl
    have hDc := hD.sub (ws' := [(h1, .inr (3, [.int r_7.1, .int r_7.2.1, .int r_7.2.2.1, .int r_7.2.2.2.1, .int r_7.2.2.2.2.1, .int r_7.2.2.2.2.2]))]) [7] (by decide) rfl
    have hFc := va_free (wc := [(h1, .inr (3, [.int r_7.1, .int r_7.2.1, .int r_7.2.2.1, .int r_7.2.2.2.1, .int r_7.2.2.2.2.1, .int r_7.2.2.2.2.2]))]) hD hS hA [7] rfl
    refine va_callv (va_runVN (C := RX3) (As := [.int (t2 x.toNatClampNeg), .int (t3 x.toNatClampNeg), .int (t4 x.toNatClampNeg), .int (t5 x.toNatClampNeg)]) (rest := []) ⟨hx, hb, hml, hown, hts⟩ (c_X3_tell l dC dI cB cC cI cJ H.size h1 r_7.1 r_7.2.1 r_7.2.2.1 r_7.2.2.2.1 r_7.2.2.2.2.1 r_7.2.2.2.2.2 (t2 x.toNatClampNeg) (t3 x.toNatClampNeg) (t4 x.toNatClampNeg) (t5 x.toNatClampNeg) ) ⟨va_cnB 4 hts gX4_copyTo_X3_tell_n80 rfl rfl rfl (hG.nm (A := #[]) (w := .methodLinkNest RX4 80 yX3_tell "MappingDesk") (by decide +kernel)) (hts (.initialized RX3) (by decide +kernel)) (by decide +kernel) ⟨(Nat.le_of_ble_eq_true rfl), (Nat.le_of_ble_eq_true rfl)⟩, hts (.instanceMethod yX3_tell) (by decide +kernel), hts (.selects RX3 yX3_tell yX3_tell) (by decide +kernel)⟩ ⟨cP_blind, va_recv hG.1 hPc (ci := 3) (q0 := 0) rfl rfl, cP_pre hPc hG hDc⟩ rfl rfl hl.1 rfl (lv_room (Nat.le_of_ble_eq_true rfl)) dX4_copyTo_49 ⟨Nat.le_of_ble_eq_true rfl, Nat.le_of_ble_eq_true rfl⟩) hS (fun q _ h => hFc q h) hFc (fun u t H1 locs ht hvm hw hB hz1 hk1 hS => ?_)
    obtain ⟨hP1, hD1⟩ := hB
    rw [ht] at hP1
    generalize hr_35 : fX3_tell r_7.1 r_7.2.1 r_7.2.2.1 r_7.2.2.2.1 r_7.2.2.2.2.1 r_7.2.2.2.2.2 (t2 x.toNatClampNeg) (t3 x.toNatClampNeg) (t4 x.toNatClampNeg) (t5 x.toNatClampNeg) = r_35 at hP1 hD1
    rw [bnd_eq hr_35] at hR
    obtain ⟨hP, hD⟩ := va_join (wr := [(h0, .inr (4, [.ref q0, .ref q1, .ref q2, .ref q3, .ref q4, .ref q5, .int cn])), (q0, .inl (cI, 300, .inl t0)), (q1, .inl (cI, 300, .inl t1)), (q2, .inl (cI, 300, .inl t2)), (q3, .inl (cI, 300, .inl t3)), (q4, .inl (cI, 300, .inl t4)), (q5, .inl (cI, 300, .inl t5))]) (w1 := [(h1, .inr (3, [.int r_7.1, .int r_7.2.1, .int r_35.1, .int r_35.2.1, .int r_35.2.2.1, .int r_35.2.2.2]))]) hP hD [7] [0, 1, 2, 3, 4, 5, 6] rfl rfl (by decide) (by decide) hk1 hFc hP1 hD1
    generalize H1 = H at hP hS ⊢
    have hP := hP.sub (ws' := [(h0, .inr (4, [.ref q0, .ref q1, .ref q2, .ref q3, .ref q4, .ref q5, .int cn])), (q0, .inl (cI, 300, .inl t0)), (q1, .inl (cI, 300, .inl t1)), (q2, .inl (cI, 300, .inl t2)), (q3, .inl (cI, 300, .inl t3)), (q4, .inl (cI, 300, .inl t4)), (q5, .inl (cI, 300, .inl t5)), (h1, .inr (3, [.int r_7.1, .int r_7.2.1, .int r_35.1, .int r_35.2.1, .int r_35.2.2.1, .int r_35.2.2.2]))]) [0, 1, 2, 3, 4, 5, 6, 7] rfl
    have hD := hD.sub (ws' := [(h0, .inr (4, [.ref q0, .ref q1, .ref q2, .ref q3, .ref q4, .ref q5, .int cn])), (q0, .inl (cI, 300, .inl t0)), (q1, .inl (cI, 300, .inl t1)), (q2, .inl (cI, 300, .inl t2)), (q3, .inl (cI, 300, .inl t3)), (q4, .inl (cI, 300, .inl t4)), (q5, .inl (cI, 300, .inl t5)), (h1, .inr (3, [.int r_7.1, .int r_7.2.1, .int r_35.1, .int r_35.2.1, .int r_35.2.2.1, .int r_35.2.2.2]))]) [0, 1, 2, 3, 4, 5, 6, 7] (by decide) rfl
    have e_36 : (r_7.1 : Int32).toInt = (t0 x.toNatClampNeg).toInt := by
      have k_37 : (0 : Int32).toInt = 0 := by decide
      have q_38 := i_ne c_11
      try generalize Int32.toInt (t0 x.toNatClampNeg) = z0 at *
      try generalize Int32.toInt r_7.1 = z1 at *
      try generalize Int32.toInt r_10 = z2 at *
      try generalize Int32.toInt (0 : Int32) = z3 at *
      try generalize Int32.toInt x = z4 at *
      omega
    subst hR
    exact W.vret hx hb hr (fun t ht hW => ⟨⟨(), rfl, e_36, by rw [ht]; exact hP, hD⟩, hS.F ht⟩) hS.2.2 dX4_copyTo_52

def fX4_tellAs (cn cm : Int32) (t0 t1 t2 t3 t4 t5 o0 o1 o2 o3 o4 o5 : Nat → Int32) (x y : Int32) : (Nat → Int32) × (Nat → Int32) × (Nat → Int32) × (Nat → Int32) :=
  if 0 ≤ (t5 x.toNatClampNeg) then
    ((upd t2 x.toNatClampNeg (o2 y.toNatClampNeg)), (upd t3 x.toNatClampNeg (o3 y.toNatClampNeg)), (upd t4 x.toNatClampNeg (o4 y.toNatClampNeg)), t5)
  else
    ((upd t2 x.toNatClampNeg (o2 y.toNatClampNeg)), (upd t3 x.toNatClampNeg (o3 y.toNatClampNeg)), (upd t4 x.toNatClampNeg (o4 y.toNatClampNeg)), (upd t5 x.toNatClampNeg (o5 y.toNatClampNeg)))
theorem inc_X4_tellAs_4 : ∀ w ∈ u_ws RX4 TX4 7, w ∈ wsX4_tellAs := by decide +kernel
set_option maxHeartbeats 4000000 in
set_option maxRecDepth 100000 in
theorem c_X4_tellAs (l : Launch) (dC : Nat → ClassId) (dI : Nat → Nat → Nat) (cB cC cI cJ : ClassId) (sz : Nat) (h0 h1 q0 q1 q2 q3 q4 q5 p0 p1 p2 p3 p4 p5 : Nat) (cn cm : Int32) (t0 t1 t2 t3 t4 t5 o0 o1 o2 o3 o4 o5 : Nat → Int32) (x y : Int32) (hx0 : 0 ≤ x.toInt) (hx1 : x.toInt < 300) (hy0 : 0 ≤ y.toInt) (hy1 : y.toInt < 300) : Met l yX4_tellAs wsX4_tellAs ({ frames := 0, cells := 0, slots := 0, locals := 0 } : Room) (cP dC dI cB cC cI cJ [.ref h0, .int x, .ref h1, .int y] sz [(h0, .inr (4, [.ref q0, .ref q1, .ref q2, .ref q3, .ref q4, .ref q5, .int cn])), (q0, .inl (cI, 300, .inl t0)), (q1, .inl (cI, 300, .inl t1)), (q2, .inl (cI, 300, .inl t2)), (q3, .inl (cI, 300, .inl t3)), (q4, .inl (cI, 300, .inl t4)), (q5, .inl (cI, 300, .inl t5)), (h1, .inr (4, [.ref p0, .ref p1, .ref p2, .ref p3, .ref p4, .ref p5, .int cm])), (p0, .inl (cI, 300, .inl o0)), (p1, .inl (cI, 300, .inl o1)), (p2, .inl (cI, 300, .inl o2)), (p3, .inl (cI, 300, .inl o3)), (p4, .inl (cI, 300, .inl o4)), (p5, .inl (cI, 300, .inl o5))]) (va_Qv (fun _ => True) (cE dC dI (va_A [(h0, .inr (4, [.ref q0, .ref q1, .ref q2, .ref q3, .ref q4, .ref q5, .int cn])), (q0, .inl (cI, 300, .inl t0)), (q1, .inl (cI, 300, .inl t1)), (q2, .inl (cI, 300, .inl t2)), (q3, .inl (cI, 300, .inl t3)), (q4, .inl (cI, 300, .inl t4)), (q5, .inl (cI, 300, .inl t5)), (h1, .inr (4, [.ref p0, .ref p1, .ref p2, .ref p3, .ref p4, .ref p5, .int cm])), (p0, .inl (cI, 300, .inl o0)), (p1, .inl (cI, 300, .inl o1)), (p2, .inl (cI, 300, .inl o2)), (p3, .inl (cI, 300, .inl o3)), (p4, .inl (cI, 300, .inl o4)), (p5, .inl (cI, 300, .inl o5))] sz) [(h0, .inr (4, [.ref q0, .ref q1, .ref q2, .ref q3, .ref q4, .ref q5, .int cn])), (q0, .inl (cI, 300, .inl t0)), (q1, .inl (cI, 300, .inl t1)), (q2, .inl (cI, 300, .inl (fX4_tellAs cn cm t0 t1 t2 t3 t4 t5 o0 o1 o2 o3 o4 o5 x y).1)), (q3, .inl (cI, 300, .inl (fX4_tellAs cn cm t0 t1 t2 t3 t4 t5 o0 o1 o2 o3 o4 o5 x y).2.1)), (q4, .inl (cI, 300, .inl (fX4_tellAs cn cm t0 t1 t2 t3 t4 t5 o0 o1 o2 o3 o4 o5 x y).2.2.1)), (q5, .inl (cI, 300, .inl (fX4_tellAs cn cm t0 t1 t2 t3 t4 t5 o0 o1 o2 o3 o4 o5 x y).2.2.2)), (h1, .inr (4, [.ref p0, .ref p1, .ref p2, .ref p3, .ref p4, .ref p5, .int cm])), (p0, .inl (cI, 300, .inl o0)), (p1, .inl (cI, 300, .inl o1)), (p2, .inl (cI, 300, .inl o2)), (p3, .inl (cI, 300, .inl o3)), (p4, .inl (cI, 300, .inl o4)), (p5, .inl (cI, 300, .inl o5))]) (va_A [(h0, .inr (4, [.ref q0, .ref q1, .ref q2, .ref q3, .ref q4, .ref q5, .int cn])), (q0, .inl (cI, 300, .inl t0)), (q1, .inl (cI, 300, .inl t1)), (q2, .inl (cI, 300, .inl t2)), (q3, .inl (cI, 300, .inl t3)), (q4, .inl (cI, 300, .inl t4)), (q5, .inl (cI, 300, .inl t5)), (h1, .inr (4, [.ref p0, .ref p1, .ref p2, .ref p3, .ref p4, .ref p5, .int cm])), (p0, .inl (cI, 300, .inl o0)), (p1, .inl (cI, 300, .inl o1)), (p2, .inl (cI, 300, .inl o2)), (p3, .inl (cI, 300, .inl o3)), (p4, .inl (cI, 300, .inl o4)), (p5, .inl (cI, 300, .inl o5))] sz)) 0 0 (va_A [(h0, .inr (4, [.ref q0, .ref q1, .ref q2, .ref q3, .ref q4, .ref q5, .int cn])), (q0, .inl (cI, 300, .inl t0)), (q1, .inl (cI, 300, .inl t1)), (q2, .inl (cI, 300, .inl t2)), (q3, .inl (cI, 300, .inl t3)), (q4, .inl (cI, 300, .inl t4)), (q5, .inl (cI, 300, .inl t5)), (h1, .inr (4, [.ref p0, .ref p1, .ref p2, .ref p3, .ref p4, .ref p5, .int cm])), (p0, .inl (cI, 300, .inl o0)), (p1, .inl (cI, 300, .inl o1)), (p2, .inl (cI, 300, .inl o2)), (p3, .inl (cI, 300, .inl o3)), (p4, .inl (cI, 300, .inl o4)), (p5, .inl (cI, 300, .inl o5))] sz) := by
  refine Met.ofW (cc := cX4_tellAs) (maxL := 4) (ret := none) (by decide) rfl ?_
  intro p e s m args below meth c s₁ B hml hv
  obtain ⟨rfl, hsz, hP, hG, hD0⟩ := hv
  have hx := B.exec
  have hb := B.bytes
  have hr := B.returns
  have hts := atoms_spec (ws := wsX4_tellAs) B.pre
  have hown : s.vm.findClass RX4 = some m.cls := findClass_of_methodNamed B.named
  have hlocks := B.notSynchronized
  subst hsz
  have hD := hD0.self (sz := s.heap.size)
  generalize hAe : va_A [(h0, .inr (4, [.ref q0, .ref q1, .ref q2, .ref q3, .ref q4, .ref q5, .int cn])), (q0, .inl (cI, 300, .inl t0)), (q1, .inl (cI, 300, .inl t1)), (q2, .inl (cI, 300, .inl t2)), (q3, .inl (cI, 300, .inl t3)), (q4, .inl (cI, 300, .inl t4)), (q5, .inl (cI, 300, .inl t5)), (h1, .inr (4, [.ref p0, .ref p1, .ref p2, .ref p3, .ref p4, .ref p5, .int cm])), (p0, .inl (cI, 300, .inl o0)), (p1, .inl (cI, 300, .inl o1)), (p2, .inl (cI, 300, .inl o2)), (p3, .inl (cI, 300, .inl o3)), (p4, .inl (cI, 300, .inl o4)), (p5, .inl (cI, 300, .inl o5))] s.heap.size = A at hD ⊢
  have hA : ∀ q : Nat, s.heap.size ≤ q → A q := fun q h => by rw [← hAe]; exact Or.inr h
  obtain ⟨H, hH⟩ : ∃ H : Heap, H = s.heap := ⟨_, rfl⟩
  have hS : va_S A s.heap H [] := by rw [hH]; exact va_S.rf
  rw [← hH] at hP ⊢
  generalize hR : fX4_tellAs cn cm t0 t1 t2 t3 t4 t5 o0 o1 o2 o3 o4 o5 x y = R
  unfold fX4_tellAs at hR
  have hl := lv_entry ([.ref h0, .int x, .ref h1, .int y]) (n := 4) (Nat.le_of_ble_eq_true rfl)
  rw [lg_entry_eq]
  generalize (lg_sl ([.ref h0, .int x, .ref h1, .int y]) ++ List.replicate (4 - (lg_sl ([.ref h0, .int x, .ref h1, .int y])).length) Slot.unset).toArray = ls at hl ⊢
  have hl : lv_has ls 4 [(0, .ref h0), (1, .int x), (2, .ref h1), (3, .int y)] := hl
  refine lv_aload_n hx hb dX4_tellAs_0 rfl (lv_at hl 0 rfl) ?_
  refine va_get (D := (dC, dI)) (ci := 4) (v := .ref q2) (C := RX4) (T := TX4) (N := 7) hx hb hts inc_X4_tellAs_4 hown hG.1 hP 0 rfl rfl 2 (by decide) (hts (.fieldLink RX4 18 "MappingDesk$Table" "sources" "[I") (by decide +kernel)) (fun _ h9 => h9) rfl dX4_tellAs_1 ?_
  refine lv_iload_n hx hb dX4_tellAs_4 rfl (lv_at hl 1 rfl) ?_
  refine lv_aload_n hx hb dX4_tellAs_5 rfl (lv_at hl 2 rfl) ?_
  refine va_get (D := (dC, dI)) (ci := 4) (v := .ref p2) (C := RX4) (T := TX4) (N := 7) hx hb hts inc_X4_tellAs_4 hown hG.1 hP 7 rfl rfl 2 (by decide) (hts (.fieldLink RX4 18 "MappingDesk$Table" "sources" "[I") (by decide +kernel)) (fun _ h9 => h9) rfl dX4_tellAs_6 ?_
  refine lv_iload_n hx hb dX4_tellAs_9 rfl (lv_at hl 3 rfl) ?_
  have b_1 : vp_in y 300 := by
    refine vin ?_ ?_
    all_goals (try generalize Int32.toInt x = z0 at *; try generalize Int32.toInt y = z1 at *; omega)
  refine va_iald hx hb hG.1 hP 10 2 rfl rfl b_1 dX4_tellAs_10 ?_
  have b_4 : vp_in x 300 := by
    refine vin ?_ ?_
    all_goals (try generalize Int32.toInt x = z0 at *; try generalize Int32.toInt y = z1 at *; omega)
  refine va_iast hx hb hG.1 hP hD hS 3 2 rfl rfl b_4 dX4_tellAs_11 (fun H locs hP hD hS => ?_)
  have hP : va_P (dC, dI) vwCl [(h0, .inr (4, [.ref q0, .ref q1, .ref q2, .ref q3, .ref q4, .ref q5, .int cn])), (q0, .inl (cI, 300, .inl t0)), (q1, .inl (cI, 300, .inl t1)), (q2, .inl (cI, 300, .inl (upd t2 x.toNatClampNeg (o2 y.toNatClampNeg)))), (q3, .inl (cI, 300, .inl t3)), (q4, .inl (cI, 300, .inl t4)), (q5, .inl (cI, 300, .inl t5)), (h1, .inr (4, [.ref p0, .ref p1, .ref p2, .ref p3, .ref p4, .ref p5, .int cm])), (p0, .inl (cI, 300, .inl o0)), (p1, .inl (cI, 300, .inl o1)), (p2, .inl (cI, 300, .inl o2)), (p3, .inl (cI, 300, .inl o3)), (p4, .inl (cI, 300, .inl o4)), (p5, .inl (cI, 300, .inl o5))] H := hP
  have hD : va_D A [(h0, .inr (4, [.ref q0, .ref q1, .ref q2, .ref q3, .ref q4, .ref q5, .int cn])), (q0, .inl (cI, 300, .inl t0)), (q1, .inl (cI, 300, .inl t1)), (q2, .inl (cI, 300, .inl (upd t2 x.toNatClampNeg (o2 y.toNatClampNeg)))), (q3, .inl (cI, 300, .inl t3)), (q4, .inl (cI, 300, .inl t4)), (q5, .inl (cI, 300, .inl t5)), (h1, .inr (4, [.ref p0, .ref p1, .ref p2, .ref p3, .ref p4, .ref p5, .int cm])), (p0, .inl (cI, 300, .inl o0)), (p1, .inl (cI, 300, .inl o1)), (p2, .inl (cI, 300, .inl o2)), (p3, .inl (cI, 300, .inl o3)), (p4, .inl (cI, 300, .inl o4)), (p5, .inl (cI, 300, .inl o5))] := hD
  refine lv_aload_n hx hb dX4_tellAs_12 rfl (lv_at hl 0 rfl) ?_
  refine va_get (D := (dC, dI)) (ci := 4) (v := .ref q3) (C := RX4) (T := TX4) (N := 7) hx hb hts inc_X4_tellAs_4 hown hG.1 hP 0 rfl rfl 3 (by decide) (hts (.fieldLink RX4 21 "MappingDesk$Table" "sourceLines" "[I") (by decide +kernel)) (fun _ h9 => h9) rfl dX4_tellAs_13 ?_
  refine lv_iload_n hx hb dX4_tellAs_16 rfl (lv_at hl 1 rfl) ?_
  refine lv_aload_n hx hb dX4_tellAs_17 rfl (lv_at hl 2 rfl) ?_
  refine va_get (D := (dC, dI)) (ci := 4) (v := .ref p3) (C := RX4) (T := TX4) (N := 7) hx hb hts inc_X4_tellAs_4 hown hG.1 hP 7 rfl rfl 3 (by decide) (hts (.fieldLink RX4 21 "MappingDesk$Table" "sourceLines" "[I") (by decide +kernel)) (fun _ h9 => h9) rfl dX4_tellAs_18 ?_
  refine lv_iload_n hx hb dX4_tellAs_21 rfl (lv_at hl 3 rfl) ?_
  have b_7 : vp_in y 300 := by
    refine vin ?_ ?_
    all_goals (try generalize Int32.toInt x = z0 at *; try generalize Int32.toInt y = z1 at *; omega)
  refine va_iald hx hb hG.1 hP 11 2 rfl rfl b_7 dX4_tellAs_22 ?_
  have b_10 : vp_in x 300 := by
    refine vin ?_ ?_
    all_goals (try generalize Int32.toInt x = z0 at *; try generalize Int32.toInt y = z1 at *; omega)
  refine va_iast hx hb hG.1 hP hD hS 4 2 rfl rfl b_10 dX4_tellAs_23 (fun H locs hP hD hS => ?_)
  have hP : va_P (dC, dI) vwCl [(h0, .inr (4, [.ref q0, .ref q1, .ref q2, .ref q3, .ref q4, .ref q5, .int cn])), (q0, .inl (cI, 300, .inl t0)), (q1, .inl (cI, 300, .inl t1)), (q2, .inl (cI, 300, .inl (upd t2 x.toNatClampNeg (o2 y.toNatClampNeg)))), (q3, .inl (cI, 300, .inl (upd t3 x.toNatClampNeg (o3 y.toNatClampNeg)))), (q4, .inl (cI, 300, .inl t4)), (q5, .inl (cI, 300, .inl t5)), (h1, .inr (4, [.ref p0, .ref p1, .ref p2, .ref p3, .ref p4, .ref p5, .int cm])), (p0, .inl (cI, 300, .inl o0)), (p1, .inl (cI, 300, .inl o1)), (p2, .inl (cI, 300, .inl o2)), (p3, .inl (cI, 300, .inl o3)), (p4, .inl (cI, 300, .inl o4)), (p5, .inl (cI, 300, .inl o5))] H := hP
  have hD : va_D A [(h0, .inr (4, [.ref q0, .ref q1, .ref q2, .ref q3, .ref q4, .ref q5, .int cn])), (q0, .inl (cI, 300, .inl t0)), (q1, .inl (cI, 300, .inl t1)), (q2, .inl (cI, 300, .inl (upd t2 x.toNatClampNeg (o2 y.toNatClampNeg)))), (q3, .inl (cI, 300, .inl (upd t3 x.toNatClampNeg (o3 y.toNatClampNeg)))), (q4, .inl (cI, 300, .inl t4)), (q5, .inl (cI, 300, .inl t5)), (h1, .inr (4, [.ref p0, .ref p1, .ref p2, .ref p3, .ref p4, .ref p5, .int cm])), (p0, .inl (cI, 300, .inl o0)), (p1, .inl (cI, 300, .inl o1)), (p2, .inl (cI, 300, .inl o2)), (p3, .inl (cI, 300, .inl o3)), (p4, .inl (cI, 300, .inl o4)), (p5, .inl (cI, 300, .inl o5))] := hD
  refine lv_aload_n hx hb dX4_tellAs_24 rfl (lv_at hl 0 rfl) ?_
  refine va_get (D := (dC, dI)) (ci := 4) (v := .ref q4) (C := RX4) (T := TX4) (N := 7) hx hb hts inc_X4_tellAs_4 hown hG.1 hP 0 rfl rfl 4 (by decide) (hts (.fieldLink RX4 24 "MappingDesk$Table" "sourceColumns" "[I") (by decide +kernel)) (fun _ h9 => h9) rfl dX4_tellAs_25 ?_
  refine lv_iload_n hx hb dX4_tellAs_28 rfl (lv_at hl 1 rfl) ?_
  refine lv_aload_n hx hb dX4_tellAs_29 rfl (lv_at hl 2 rfl) ?_
  refine va_get (D := (dC, dI)) (ci := 4) (v := .ref p4) (C := RX4) (T := TX4) (N := 7) hx hb hts inc_X4_tellAs_4 hown hG.1 hP 7 rfl rfl 4 (by decide) (hts (.fieldLink RX4 24 "MappingDesk$Table" "sourceColumns" "[I") (by decide +kernel)) (fun _ h9 => h9) rfl dX4_tellAs_30 ?_
  refine lv_iload_n hx hb dX4_tellAs_33 rfl (lv_at hl 3 rfl) ?_
  have b_13 : vp_in y 300 := by
    refine vin ?_ ?_
    all_goals (try generalize Int32.toInt x = z0 at *; try generalize Int32.toInt y = z1 at *; omega)
  refine va_iald hx hb hG.1 hP 12 2 rfl rfl b_13 dX4_tellAs_34 ?_
  have b_16 : vp_in x 300 := by
    refine vin ?_ ?_
    all_goals (try generalize Int32.toInt x = z0 at *; try generalize Int32.toInt y = z1 at *; omega)
  refine va_iast hx hb hG.1 hP hD hS 5 2 rfl rfl b_16 dX4_tellAs_35 (fun H locs hP hD hS => ?_)
  have hP : va_P (dC, dI) vwCl [(h0, .inr (4, [.ref q0, .ref q1, .ref q2, .ref q3, .ref q4, .ref q5, .int cn])), (q0, .inl (cI, 300, .inl t0)), (q1, .inl (cI, 300, .inl t1)), (q2, .inl (cI, 300, .inl (upd t2 x.toNatClampNeg (o2 y.toNatClampNeg)))), (q3, .inl (cI, 300, .inl (upd t3 x.toNatClampNeg (o3 y.toNatClampNeg)))), (q4, .inl (cI, 300, .inl (upd t4 x.toNatClampNeg (o4 y.toNatClampNeg)))), (q5, .inl (cI, 300, .inl t5)), (h1, .inr (4, [.ref p0, .ref p1, .ref p2, .ref p3, .ref p4, .ref p5, .int cm])), (p0, .inl (cI, 300, .inl o0)), (p1, .inl (cI, 300, .inl o1)), (p2, .inl (cI, 300, .inl o2)), (p3, .inl (cI, 300, .inl o3)), (p4, .inl (cI, 300, .inl o4)), (p5, .inl (cI, 300, .inl o5))] H := hP
  have hD : va_D A [(h0, .inr (4, [.ref q0, .ref q1, .ref q2, .ref q3, .ref q4, .ref q5, .int cn])), (q0, .inl (cI, 300, .inl t0)), (q1, .inl (cI, 300, .inl t1)), (q2, .inl (cI, 300, .inl (upd t2 x.toNatClampNeg (o2 y.toNatClampNeg)))), (q3, .inl (cI, 300, .inl (upd t3 x.toNatClampNeg (o3 y.toNatClampNeg)))), (q4, .inl (cI, 300, .inl (upd t4 x.toNatClampNeg (o4 y.toNatClampNeg)))), (q5, .inl (cI, 300, .inl t5)), (h1, .inr (4, [.ref p0, .ref p1, .ref p2, .ref p3, .ref p4, .ref p5, .int cm])), (p0, .inl (cI, 300, .inl o0)), (p1, .inl (cI, 300, .inl o1)), (p2, .inl (cI, 300, .inl o2)), (p3, .inl (cI, 300, .inl o3)), (p4, .inl (cI, 300, .inl o4)), (p5, .inl (cI, 300, .inl o5))] := hD
  refine lv_aload_n hx hb dX4_tellAs_36 rfl (lv_at hl 0 rfl) ?_
  refine va_get (D := (dC, dI)) (ci := 4) (v := .ref q5) (C := RX4) (T := TX4) (N := 7) hx hb hts inc_X4_tellAs_4 hown hG.1 hP 0 rfl rfl 5 (by decide) (hts (.fieldLink RX4 27 "MappingDesk$Table" "names" "[I") (by decide +kernel)) (fun _ h9 => h9) rfl dX4_tellAs_37 ?_
  refine lv_iload_n hx hb dX4_tellAs_40 rfl (lv_at hl 1 rfl) ?_
  have b_19 : vp_in x 300 := by
    refine vin ?_ ?_
    all_goals (try generalize Int32.toInt x = z0 at *; try generalize Int32.toInt y = z1 at *; omega)
  refine va_iald hx hb hG.1 hP 6 2 rfl rfl b_19 dX4_tellAs_41 ?_
  refine lv_if_ge (tgt := 57) hx hb dX4_tellAs_42 (by decide) (fun c_22 => ?_) (fun c_22 => ?_)
  · rw [if_pos c_22] at hR
    subst hR
    exact W.vret hx hb hr (fun t ht hW => ⟨⟨(), rfl, trivial, by rw [ht]; exact hP, hD⟩, hS.F ht⟩) hS.2.2 dX4_tellAs_57
  · rw [if_neg c_22] at hR
    refine lv_aload_n hx hb dX4_tellAs_45 rfl (lv_at hl 0 rfl) ?_
    refine va_get (D := (dC, dI)) (ci := 4) (v := .ref q5) (C := RX4) (T := TX4) (N := 7) hx hb hts inc_X4_tellAs_4 hown hG.1 hP 0 rfl rfl 5 (by decide) (hts (.fieldLink RX4 27 "MappingDesk$Table" "names" "[I") (by decide +kernel)) (fun _ h9 => h9) rfl dX4_tellAs_46 ?_
    refine lv_iload_n hx hb dX4_tellAs_49 rfl (lv_at hl 1 rfl) ?_
    refine lv_aload_n hx hb dX4_tellAs_50 rfl (lv_at hl 2 rfl) ?_
    refine va_get (D := (dC, dI)) (ci := 4) (v := .ref p5) (C := RX4) (T := TX4) (N := 7) hx hb hts inc_X4_tellAs_4 hown hG.1 hP 7 rfl rfl 5 (by decide) (hts (.fieldLink RX4 27 "MappingDesk$Table" "names" "[I") (by decide +kernel)) (fun _ h9 => h9) rfl dX4_tellAs_51 ?_
    refine lv_iload_n hx hb dX4_tellAs_54 rfl (lv_at hl 3 rfl) ?_
    have b_23 : vp_in y 300 := by
      have k_24 : (0 : Int32).toInt = 0 := by decide
      have q_25 := i_nle c_22
      refine vin ?_ ?_
      all_goals (try generalize Int32.toInt (t5 x.toNatClampNeg) = z0 at *; try generalize Int32.toInt (0 : Int32) = z1 at *; try generalize Int32.toInt x = z2 at *; try generalize Int32.toInt y = z3 at *; omega)
    refine va_iald hx hb hG.1 hP 13 2 rfl rfl b_23 dX4_tellAs_55 ?_
    have b_28 : vp_in x 300 := by
      have k_29 : (0 : Int32).toInt = 0 := by decide
      have q_30 := i_nle c_22
      refine vin ?_ ?_
      all_goals (try generalize Int32.toInt (t5 x.toNatClampNeg) = z0 at *; try generalize Int32.toInt (0 : Int32) = z1 at *; try generalize Int32.toInt x = z2 at *; try generalize Int32.toInt y = z3 at *; omega)
    refine va_iast hx hb hG.1 hP hD hS 6 2 rfl rfl b_28 dX4_tellAs_56 (fun H locs hP hD hS => ?_)
    have hP : va_P (dC, dI) vwCl [(h0, .inr (4, [.ref q0, .ref q1, .ref q2, .ref q3, .ref q4, .ref q5, .int cn])), (q0, .inl (cI, 300, .inl t0)), (q1, .inl (cI, 300, .inl t1)), (q2, .inl (cI, 300, .inl (upd t2 x.toNatClampNeg (o2 y.toNatClampNeg)))), (q3, .inl (cI, 300, .inl (upd t3 x.toNatClampNeg (o3 y.toNatClampNeg)))), (q4, .inl (cI, 300, .inl (upd t4 x.toNatClampNeg (o4 y.toNatClampNeg)))), (q5, .inl (cI, 300, .inl (upd t5 x.toNatClampNeg (o5 y.toNatClampNeg)))), (h1, .inr (4, [.ref p0, .ref p1, .ref p2, .ref p3, .ref p4, .ref p5, .int cm])), (p0, .inl (cI, 300, .inl o0)), (p1, .inl (cI, 300, .inl o1)), (p2, .inl (cI, 300, .inl o2)), (p3, .inl (cI, 300, .inl o3)), (p4, .inl (cI, 300, .inl o4)), (p5, .inl (cI, 300, .inl o5))] H := hP
    have hD : va_D A [(h0, .inr (4, [.ref q0, .ref q1, .ref q2, .ref q3, .ref q4, .ref q5, .int cn])), (q0, .inl (cI, 300, .inl t0)), (q1, .inl (cI, 300, .inl t1)), (q2, .inl (cI, 300, .inl (upd t2 x.toNatClampNeg (o2 y.toNatClampNeg)))), (q3, .inl (cI, 300, .inl (upd t3 x.toNatClampNeg (o3 y.toNatClampNeg)))), (q4, .inl (cI, 300, .inl (upd t4 x.toNatClampNeg (o4 y.toNatClampNeg)))), (q5, .inl (cI, 300, .inl (upd t5 x.toNatClampNeg (o5 y.toNatClampNeg)))), (h1, .inr (4, [.ref p0, .ref p1, .ref p2, .ref p3, .ref p4, .ref p5, .int cm])), (p0, .inl (cI, 300, .inl o0)), (p1, .inl (cI, 300, .inl o1)), (p2, .inl (cI, 300, .inl o2)), (p3, .inl (cI, 300, .inl o3)), (p4, .inl (cI, 300, .inl o4)), (p5, .inl (cI, 300, .inl o5))] := hD
    subst hR
    exact W.vret hx hb hr (fun t ht hW => ⟨⟨(), rfl, trivial, by rw [ht]; exact hP, hD⟩, hS.F ht⟩) hS.2.2 dX4_tellAs_57
